theorem canf_r {ev bk : Int} {ms σ : Int → Int} {g : Int} (h1 : 1 ≤ bk) (hs : okS ms σ) (hm : okB ms) (hg0 : 0 ≤ g) (hg : g < 4) : 0 ≤ canf ev bk ms σ g ∧ canf ev bk ms σ g ≤ 30 := by
  rw [canf_eq]
  have ho := opf_r (ev := ev) (bk := bk) (σ := σ) h1 hs.1
  split
  · omega
  · have h3 := hm (4 * opf ev bk σ + g) (by omega) (by omega)
    have h4 := hs.2.2.2.2 (4 * opf ev bk σ + g) (by omega) (by omega)
    rw [← Int.add_assoc] at h4
    omega
theorem opf_j {ev bk : Int} {σ : Int → Int} (h1 : 1 ≤ bk) (h5 : 0 ≤ σ 0) : jR (opf ev bk σ) := by
  have := opf_r (ev := ev) (bk := bk) (σ := σ) h1 h5
  constructor <;> omega
theorem xR_takes (G : pd_G) (sz : Nat) (hp : pd_P) {q : Nat → Int → Int} {v : Nat → Int} (hM : MW hp q v) (hI : IN q v) {g : Int} (j_g : jR g) {n : Int} (j_n : jR n) : pd_c G mR_takes 4 [vr 178, vi g, vi n] sz hp (mPost hp sz (fTakes q v g n)) := by
  refine pd_con kR_takes [some (vr 178), some (vi g), some (vi n)] rfl rfl (Nat.le_of_ble_eq_true rfl) ?_
  obtain ⟨⟨ig0, ig4⟩, ⟨id0, id1, id2, id3⟩, iB, iM, iU, iF, iS, iP, iI, ⟨is0, is4, isx⟩, ⟨im0, im4, imx⟩, it0, it1⟩ := hI
  have k_g := j_g
  unfold jR at k_g
  have k_n := j_n
  unfold jR at k_n
  have hR := hM.1
  have h_goods := hM.w_goods
  have h_now := hM.w_now
  have h_known := hM.w_known
  have h_before := hM.w_before
  have h_door := hM.w_door
  have h_missed := hM.w_missed
  have hor := opf_r (ev := q 2 0) (bk := q 2 1) (σ := q 17) id2 iS.1
  refine pt_aload eR_takes_0 rfl ?_
  refine pt_iload eR_takes_1 rfl ?_
  refine pt_kv1r eR_takes_2 (cR_isGood G sz _ hR h_goods j_g ig0 ig4) hR rfl (Nat.le_of_ble_eq_true rfl) (by decide) (Nat.le_refl _) (Nat.le_refl _) ?_
  refine pt_zeq eR_takes_5 (pwi_j _ _ _) (fun c5 => ?_) (fun c5 => ?_)
  · refine pt_ic eR_takes_18 ?_
    refine pt_iret eR_takes_19 (Nat.le_refl _) (Nat.le_refl _) ?_
    first
    | (have c5 := pwi_0 c5
       rw [show fTakes q v g n = (q, v, -1) by unfold fTakes; rw [if_pos (fun z => c5 z.1)]]
       exact ⟨rfl, rfl, hM, fr.rf⟩)
    | (have c15 := pwi_0 c15
       rw [show fTakes q v g n = (q, v, -1) by unfold fTakes; rw [if_pos (fun z => c15 z.2)]]
       exact ⟨rfl, rfl, hM, fr.rf⟩)
  · have c5 := pwi_1 c5
    refine pt_iload eR_takes_8 rfl ?_
    refine pt_ic eR_takes_9 ?_
    refine pt_ic eR_takes_10 ?_
    refine pt_ks3r eR_takes_12 (cR_in G sz _ (by unfold jR at *; omega) (by unfold jR at *; omega) (by unfold jR at *; omega)) (Nat.le_of_ble_eq_true rfl) (by decide) (Nat.le_refl _) (Nat.le_refl _) ?_
    refine pt_zne eR_takes_15 (pwi_j _ _ _) (fun c15 => ?_) (fun c15 => ?_)
    · have c15 := pwi_1 c15
      refine pt_aload eR_takes_20 rfl ?_
      refine pt_aload eR_takes_21 rfl ?_
      refine pt_get eR_takes_22 hR rfl ?_
      refine pt_kv1r eR_takes_25 (cR_opens G sz _ hR h_door h_now id0 id1 id2 id3 iS.1 iS.2.1 iS.2.2.1) hR rfl (Nat.le_of_ble_eq_true rfl) (by decide) (Nat.le_refl _) (Nat.le_refl _) ?_
      refine pt_ic eR_takes_28 ?_
      refine pt_ceq eR_takes_30 (opf_j id2 iS.1) ⟨by decide, by decide⟩ (fun c30 => ?_) (fun c30 => ?_)
      · refine pt_ic eR_takes_46 ?_
        refine pt_iret eR_takes_48 (Nat.le_refl _) (Nat.le_refl _) ?_
        first
        | (rw [show fTakes q v g n = (q, v, -2) by unfold fTakes; rw [if_neg (fun z => z ⟨c5, c15⟩), if_pos (Or.inl c30)]]
           exact ⟨rfl, rfl, hM, fr.rf⟩)
        | (rw [show fTakes q v g n = (q, v, -2) by unfold fTakes; rw [if_neg (fun z => z ⟨c5, c15⟩), if_pos (Or.inr (by omega))]]
           exact ⟨rfl, rfl, hM, fr.rf⟩)
      · have hcr := canf_r (ev := q 2 0) (bk := q 2 1) (g := g) id2 iS iM (by omega) (by omega)
        have hT9 := iS.2.2.2.1 g (by omega) (by omega)
        refine pt_iload eR_takes_33 rfl ?_
        refine pt_aload eR_takes_34 rfl ?_
        refine pt_aload eR_takes_35 rfl ?_
        refine pt_get eR_takes_36 hR rfl ?_
        refine pt_iload eR_takes_39 rfl ?_
        refine pt_kv2r eR_takes_40 (cR_canTake G sz _ hR h_door h_missed h_now id0 id1 id2 id3 iS.1 iS.2.1 iS.2.2.1 (by omega) (by omega)) hR rfl (Nat.le_of_ble_eq_true rfl) (by decide) (Nat.le_refl _) (Nat.le_refl _) ?_
        refine pt_cle eR_takes_43 ⟨by omega, by omega⟩ ⟨by omega, by omega⟩ (fun c43 => ?_) (fun c43 => ?_)
        · refine pt_aload eR_takes_49 rfl ?_
          refine pt_kv0 eR_takes_50 (cR_know G sz _ hR h_known h_before h_now iP.1 iP.2.1) hR rfl (Nat.le_of_ble_eq_true rfl) (by decide) (Nat.le_refl _) (Nat.le_refl _) ?_
          rintro v2 sz2 hpx ⟨rfl, hz9, hx9⟩
          obtain rfl := hz9.symm
          have hM1 : MW hpx (fKnow q) v := by rw [hx9]; exact (hM.s_before _).s_known _
          have hfk : fr hp hpx 178 200 := by rw [hx9]; exact (fr.rf.up rfl (by decide) (by decide)).up rfl (by decide) (by decide)
          have hR := hM1.1
          have h_now : hpx 188 = ia 90 (q 17) := hM1.w_now
          have h_goods : hpx 181 = ia 2 (q 3) := hM1.w_goods
          have h_brought : hpx 186 = ia 160 (q 8) := hM1.w_brought
          have h_missed : hpx 187 = ia 160 (q 9) := hM1.w_missed
          have h_use : hpx 183 = ia 8 (q 5) := hM1.w_use
          have h_door : hpx 180 = ia 4 (q 2) := hM1.w_door
          refine pt_aload eR_takes_53 rfl ?_
          refine pt_aload eR_takes_54 rfl ?_
          refine pt_get eR_takes_55 hR rfl ?_
          refine pt_iload eR_takes_58 rfl ?_
          refine pt_iload eR_takes_59 rfl ?_
          refine pt_kv3 eR_takes_60 (cR_takeOf G sz _ (Or.inl rfl) hR h_door h_now id0 id1 id2 id3 iS.1 iS.2.1 iS.2.2.1 c30 (by omega) (by omega) (by omega) (by omega) hT9.1 hT9.2) hR rfl (Nat.le_of_ble_eq_true rfl) (by decide) (Nat.le_refl _) (Nat.le_refl _) ?_
          rintro v2 sz2 hpy ⟨rfl, hz9, hy9⟩
          obtain rfl := hz9.symm
          have hM2 : MW hpy (va_up (fKnow q) 17 (tkf (q 2 0) (q 2 1) (q 17) g n)) v := by rw [hy9]; exact hM1.s_now _
          have hR := hM2.1
          have h_now : hpy 188 = ia 90 (tkf (q 2 0) (q 2 1) (q 17) g n) := hM2.w_now
          refine pt_aload eR_takes_63 rfl ?_
          refine pt_get eR_takes_64 hR rfl ?_
          refine pt_ic eR_takes_67 ?_
          refine pt_iload eR_takes_68 rfl ?_
          refine pt_iadd eR_takes_69 ?_
          refine pt_iald eR_takes_70 h_now (by omega) (by omega) (by decide) ?_
          refine pt_iret eR_takes_71 (Nat.le_refl _) (Nat.le_refl _) ?_
          rw [show fTakes q v g n = _ by unfold fTakes; rw [if_neg (fun z => z ⟨c5, c15⟩), if_neg (show ¬ (opf (q 2 0) (q 2 1) (q 17) = -9 ∨ canf (q 2 0) (q 2 1) (q 9) (q 17) g < n) by omega)]]
          refine ⟨?_, rfl, hM2, hfk.tr (fr.up (fr.rf (lo := 178) (hi := 200)) hy9 (by decide) (by decide)) (by decide) (by decide)⟩
          unfold tkf
          rw [uI_s]
        · refine pt_ic eR_takes_46 ?_
          refine pt_iret eR_takes_48 (Nat.le_refl _) (Nat.le_refl _) ?_
          first
          | (rw [show fTakes q v g n = (q, v, -2) by unfold fTakes; rw [if_neg (fun z => z ⟨c5, c15⟩), if_pos (Or.inl c30)]]
             exact ⟨rfl, rfl, hM, fr.rf⟩)
          | (rw [show fTakes q v g n = (q, v, -2) by unfold fTakes; rw [if_neg (fun z => z ⟨c5, c15⟩), if_pos (Or.inr (by omega))]]
             exact ⟨rfl, rfl, hM, fr.rf⟩)
    · refine pt_ic eR_takes_18 ?_
      refine pt_iret eR_takes_19 (Nat.le_refl _) (Nat.le_refl _) ?_
      first
      | (have c5 := pwi_0 c5
         rw [show fTakes q v g n = (q, v, -1) by unfold fTakes; rw [if_pos (fun z => c5 z.1)]]
         exact ⟨rfl, rfl, hM, fr.rf⟩)
      | (have c15 := pwi_0 c15
         rw [show fTakes q v g n = (q, v, -1) by unfold fTakes; rw [if_pos (fun z => c15 z.2)]]
         exact ⟨rfl, rfl, hM, fr.rf⟩)
theorem StA.by {hp : pd_P} {a : Nat} {σ : Int → Int} (h0 : hp a = SO a (σ 0) (σ 1)) (h1 : hp (a + 1) = ia 4 (fun g => σ (2 + g))) (h2 : hp (a + 2) = ia 4 (fun g => σ (6 + g))) (h3 : hp (a + 3) = ia 80 (fun k => σ (10 + k))) : StA hp a σ := ⟨h0, h1, h2, h3⟩
theorem xD_takes (G : pd_G) (sz : Nat) (hp : pd_P) {to dr : Nat} {q : Nat → Int → Int} {v : Nat → Int} (hC : CW hp to dr q v) (hI : IN q v) {g : Int} (j_g : jR g) {n : Int} (j_n : jR n) : pd_c G mD_takes 5 [vr 1, vi g, vi n] sz hp (cPost hp sz (fTakes q v g n)) := by
  refine pd_con kD_takes [some (vr 1), some (vi g), some (vi n), none] rfl rfl (Nat.le_of_ble_eq_true rfl) ?_
  obtain ⟨⟨ig0, ig4⟩, ⟨id0, id1, id2, id3⟩, iB, iM, iU, iF, iS, iP, iI, ⟨is0, is4, isx⟩, ⟨im0, im4, imx⟩, it0, it1⟩ := hI
  have k_g := j_g
  unfold jR at k_g
  have k_n := j_n
  unfold jR at k_n
  have hC0 := hC
  obtain ⟨hto, hDo, hTx, hHs, hHd, hLf, hI0, hI1, hGo, hPl⟩ := hC
  have hDo2 := hDo
  obtain ⟨hD, ⟨imf, hIm, him0, him1⟩, hKp, hSg, hSt, hGd, hGt⟩ := hDo2
  have hHs2 := hHs
  obtain ⟨fi, us, we, wo, stt, hHo, hag, hstt⟩ := hHs2
  have hHo2 := hHo
  obtain ⟨hH, hH1, hH2, hH3, hH4, hH5, hH6, hH7⟩ := hHo2
  have hLf2 := hLf
  obtain ⟨Q, hLi, hQ⟩ := hLf2
  have hL := hLi.1
  obtain ⟨hN, hNt, hNl, hNk⟩ := hLi.2.1
  have hor := opf_r (ev := q 2 0) (bk := q 2 1) (σ := q 17) id2 iS.1
  refine pt_aload eD_takes_0 rfl ?_
  refine pt_get eD_takes_1 hD rfl ?_
  refine pt_iload eD_takes_4 rfl ?_
  refine pt_kv1r eD_takes_5 (cH_has G sz _ hH j_g ig0 ig4) hH rfl (Nat.le_of_ble_eq_true rfl) (by decide) (Nat.le_refl _) (Nat.le_refl _) ?_
  refine pt_zeq eD_takes_8 (pwi_j _ _ _) (fun c8 => ?_) (fun c8 => ?_)
  · refine pt_ic eD_takes_21 ?_
    refine pt_iret eD_takes_22 (Nat.le_refl _) (Nat.le_refl _) ?_
    first
    | (have c8 := pwi_0 c8
       rw [show fTakes q v g n = (q, v, -1) by unfold fTakes; rw [if_pos (fun z => c8 z.1)]]
       exact ⟨rfl, rfl, ⟨to, dr, hC0⟩, fr.rf⟩)
    | (have c18 := pwi_0 c18
       rw [show fTakes q v g n = (q, v, -1) by unfold fTakes; rw [if_pos (fun z => c18 z.2)]]
       exact ⟨rfl, rfl, ⟨to, dr, hC0⟩, fr.rf⟩)
  · have c8 := pwi_1 c8
    refine pt_iload eD_takes_11 rfl ?_
    refine pt_ic eD_takes_12 ?_
    refine pt_ic eD_takes_13 ?_
    refine pt_ks3r eD_takes_15 (cD_within G sz _ (by unfold jR at *; omega) (by unfold jR at *; omega) (by unfold jR at *; omega)) (Nat.le_of_ble_eq_true rfl) (by decide) (Nat.le_refl _) (Nat.le_refl _) ?_
    refine pt_zne eD_takes_18 (pwi_j _ _ _) (fun c18 => ?_) (fun c18 => ?_)
    · have c18 := pwi_1 c18
      refine pt_aload eD_takes_23 rfl ?_
      refine pt_get eD_takes_24 hD rfl ?_
      refine pt_get eD_takes_27 hL rfl ?_
      refine pt_aload eD_takes_30 rfl ?_
      refine pt_get eD_takes_31 hD rfl ?_
      refine pt_kv1r eD_takes_34 (cS_leads G sz _ hN hH id0 id1 id2 id3 iS.1 iS.2.1 iS.2.2.1) hN rfl (Nat.le_of_ble_eq_true rfl) (by decide) (Nat.le_refl _) (Nat.le_refl _) ?_
      refine pt_istore3 eD_takes_37 rfl ?_
      refine pt_iload eD_takes_38 rfl ?_
      refine pt_ic eD_takes_39 ?_
      refine pt_ceq eD_takes_41 (opf_j id2 iS.1) ⟨by decide, by decide⟩ (fun c41 => ?_) (fun c41 => ?_)
      · refine pt_ic eD_takes_63 ?_
        refine pt_iret eD_takes_65 (Nat.le_refl _) (Nat.le_refl _) ?_
        first
        | (rw [show fTakes q v g n = (q, v, -2) by unfold fTakes; rw [if_neg (fun z => z ⟨c8, c18⟩), if_pos (Or.inl c41)]]
           exact ⟨rfl, rfl, ⟨to, dr, hC0⟩, fr.rf⟩)
        | (rw [show fTakes q v g n = (q, v, -2) by unfold fTakes; rw [if_neg (fun z => z ⟨c8, c18⟩), if_pos (Or.inr (by omega))]]
           exact ⟨rfl, rfl, ⟨to, dr, hC0⟩, fr.rf⟩)
      · have hcr := canf_r (ev := q 2 0) (bk := q 2 1) (g := g) id2 iS iM (by omega) (by omega)
        have hT9 := iS.2.2.2.1 g (by omega) (by omega)
        refine pt_iload eD_takes_44 rfl ?_
        refine pt_aload eD_takes_45 rfl ?_
        refine pt_get eD_takes_46 hD rfl ?_
        refine pt_get eD_takes_49 hL rfl ?_
        refine pt_aload eD_takes_52 rfl ?_
        refine pt_get eD_takes_53 hD rfl ?_
        refine pt_iload eD_takes_56 rfl ?_
        refine pt_kv2r eD_takes_57 (cS_open G sz _ hN hNk hH hH6 id0 id1 id2 id3 iS.1 iS.2.1 iS.2.2.1 (by omega) (by omega)) hN rfl (Nat.le_of_ble_eq_true rfl) (by decide) (Nat.le_refl _) (Nat.le_refl _) ?_
        refine pt_cle eD_takes_60 ⟨by omega, by omega⟩ ⟨by omega, by omega⟩ (fun c60 => ?_) (fun c60 => ?_)
        · refine pt_aload eD_takes_66 rfl ?_
          refine pt_get eD_takes_67 hD rfl ?_
          refine pt_kv0 eD_takes_70 (cL_rem G sz _ hLi iP.1 iP.2.1 iS.2.2.1) hL rfl (Nat.le_of_ble_eq_true rfl) (by decide) (Nat.le_refl _) (Nat.le_refl _) ?_
          rintro v2 sz2 hpx ⟨rfl, hz9, hA2, hf2⟩
          obtain rfl := hz9.symm
          have hD := hf2.at (by decide) hD
          have hL := hA2.1
          obtain ⟨hN, hNt, hNl, hNk⟩ := hA2.2.1
          obtain ⟨hH, hH1, hH2, hH3, hH4, hH5, hH6, hH7⟩ := hHo.keep hf2 (by omega)
          refine pt_aload eD_takes_73 rfl ?_
          refine pt_get eD_takes_74 hD rfl ?_
          refine pt_get eD_takes_77 hL rfl ?_
          refine pt_get eD_takes_80 hN rfl ?_
          refine pt_iload eD_takes_83 rfl ?_
          refine pt_ic eD_takes_84 ?_
          refine pt_imul eD_takes_85 ?_
          refine pt_iload eD_takes_86 rfl ?_
          refine pt_iadd eD_takes_87 ?_
          refine pt_dup2 eD_takes_88 ?_
          refine pt_iald eD_takes_89 hNk (by omega) (by omega) (by decide) ?_
          refine pt_iload eD_takes_90 rfl ?_
          refine pt_iadd eD_takes_91 ?_
          refine pt_iast eD_takes_92 hNk (by omega) (by omega) (by decide) ?_
          refine pt_gen ?_
          intro hp2 ev2
          have hD := pg_n ev2 (by omega) hD
          have hH := pg_n ev2 (by omega) hH
          have hH6 := pg_n ev2 (by omega) hH6
          have hL := pg_n ev2 (by omega) hL
          have hN := pg_n ev2 (by omega) hN
          have hNt := pg_n ev2 (by omega) hNt
          have hNl := pg_n ev2 (by omega) hNl
          have hNk := pg_s ev2
          have e5 : ∀ x : Int, 10 + (opf (q 2 0) (q 2 1) (q 17) * 4 + g) = 10 + 4 * opf (q 2 0) (q 2 1) (q 17) + g := fun _ => by omega
          refine pt_ext hNt (g := fun x => (uI (q 17) (10 + 4 * opf (q 2 0) (q 2 1) (q 17) + g) (q 17 (10 + 4 * opf (q 2 0) (q 2 1) (q 17) + g) + n)) (2 + x)) (fun i hi0 hi1 => ?_) ?_
          · rw [uI_n _ _ (by omega)]
          refine pt_gen ?_
          intro hp11 ev11
          have hN := pg_n ev11 (by omega) hN
          have hNt := pg_s ev11
          have hNl := pg_n ev11 (by omega) hNl
          have hNk := pg_n ev11 (by omega) hNk
          refine pt_ext hNl (g := fun x => (uI (q 17) (10 + 4 * opf (q 2 0) (q 2 1) (q 17) + g) (q 17 (10 + 4 * opf (q 2 0) (q 2 1) (q 17) + g) + n)) (6 + x)) (fun i hi0 hi1 => ?_) ?_
          · rw [uI_n _ _ (by omega)]
          refine pt_gen ?_
          intro hp12 ev12
          have hN := pg_n ev12 (by omega) hN
          have hNt := pg_n ev12 (by omega) hNt
          have hNl := pg_s ev12
          have hNk := pg_n ev12 (by omega) hNk
          refine pt_ext hNk (g := fun x => (uI (q 17) (10 + 4 * opf (q 2 0) (q 2 1) (q 17) + g) (q 17 (10 + 4 * opf (q 2 0) (q 2 1) (q 17) + g) + n)) (10 + x)) (fun i hi0 hi1 => ?_) ?_
          · unfold uI
            by_cases hik : i = opf (q 2 0) (q 2 1) (q 17) * 4 + g
            · rw [if_pos hik, if_pos (by omega)]
              rw [e5 0]
            · rw [if_neg hik, if_neg (by omega)]
          refine pt_gen ?_
          intro hp13 ev13
          have hN := pg_n ev13 (by omega) hN
          have hNt := pg_n ev13 (by omega) hNt
          have hNl := pg_n ev13 (by omega) hNl
          have hNk := pg_s ev13
          have hfr3 : fr hpx hp13 (5 + 1) (5 + 5) := (((fr.rf.up ev2 (by omega) (by omega)).up ev11 (by omega) (by omega)).up ev12 (by omega) (by omega)).up ev13 (by omega) (by omega)
          have hs3 : StA hp13 (5 + 1) (uI (q 17) (10 + 4 * opf (q 2 0) (q 2 1) (q 17) + g) (q 17 (10 + 4 * opf (q 2 0) (q 2 1) (q 17) + g) + n)) := ⟨by rw [uI_n _ _ (by omega), uI_n _ _ (by omega)]; exact hN, hNt, hNl, hNk⟩
          have hu9 : (uI (q 17) (10 + 4 * opf (q 2 0) (q 2 1) (q 17) + g) (q 17 (10 + 4 * opf (q 2 0) (q 2 1) (q 17) + g) + n)) (2 + g) = q 17 (2 + g) := by rw [uI_n _ _ (by omega)]
          have hA3 := hA2.now hfr3 hs3
          have hD := pg_n ev13 (by decide) (pg_n ev12 (by decide) (pg_n ev11 (by decide) hD))
          have hL := hA3.1
          refine pt_aload eD_takes_93 rfl ?_
          refine pt_get eD_takes_94 hD rfl ?_
          refine pt_get eD_takes_97 hL rfl ?_
          refine pt_iload eD_takes_100 rfl ?_
          refine pt_iload eD_takes_101 rfl ?_
          refine pt_kv2 eD_takes_102 (cS_add G sz _ hs3 (by omega) (by omega) (by rw [hu9]; omega) (by rw [hu9]; omega) (by omega) (by omega)) hN rfl (Nat.le_of_ble_eq_true rfl) (by decide) (Nat.le_refl _) (Nat.le_refl _) ?_
          rintro v2 sz2 hpy ⟨rfl, hz9, hs4, hf4⟩
          obtain rfl := hz9.symm
          rw [hu9] at hs4
          refine pt_iret eD_takes_105 (Nat.le_refl _) (Nat.le_refl _) ?_
          rw [show fTakes q v g n = _ by unfold fTakes; rw [if_neg (fun z => z ⟨c8, c18⟩), if_neg (show ¬ (opf (q 2 0) (q 2 1) (q 17) = -9 ∨ canf (q 2 0) (q 2 1) (q 9) (q 17) g < n) by omega)]]
          have hfr : fr hp hpy 5 51 := (hf2.tr hfr3 (by decide) (by decide)).tr hf4 (by decide) (by decide)
          refine ⟨by rw [hu9], rfl, ⟨to, dr, hto, hDo.keep hfr (by omega), hTx.keep hfr (by omega), hHs.keep hfr (by omega), hHd.keep hfr (by omega), kn_Lf hQ iP.1 iP.2.1 (hA3.now hf4 hs4), kn_Im (hI0.keep hfr (by omega)) (by decide) iP.2.1 _, kn_Im (hI1.keep hfr (by omega)) (by decide) iP.2.1 _, hGo.keep hfr (by omega), hPl.keep hfr (by omega)⟩, fun k hk => hfr k (by omega)⟩
        · refine pt_ic eD_takes_63 ?_
          refine pt_iret eD_takes_65 (Nat.le_refl _) (Nat.le_refl _) ?_
          first
          | (rw [show fTakes q v g n = (q, v, -2) by unfold fTakes; rw [if_neg (fun z => z ⟨c8, c18⟩), if_pos (Or.inl c41)]]
             exact ⟨rfl, rfl, ⟨to, dr, hC0⟩, fr.rf⟩)
          | (rw [show fTakes q v g n = (q, v, -2) by unfold fTakes; rw [if_neg (fun z => z ⟨c8, c18⟩), if_pos (Or.inr (by omega))]]
             exact ⟨rfl, rfl, ⟨to, dr, hC0⟩, fr.rf⟩)
    · refine pt_ic eD_takes_21 ?_
      refine pt_iret eD_takes_22 (Nat.le_refl _) (Nat.le_refl _) ?_
      first
      | (have c8 := pwi_0 c8
         rw [show fTakes q v g n = (q, v, -1) by unfold fTakes; rw [if_pos (fun z => c8 z.1)]]
         exact ⟨rfl, rfl, ⟨to, dr, hC0⟩, fr.rf⟩)
      | (have c18 := pwi_0 c18
         rw [show fTakes q v g n = (q, v, -1) by unfold fTakes; rw [if_pos (fun z => c18 z.2)]]
         exact ⟨rfl, rfl, ⟨to, dr, hC0⟩, fr.rf⟩)
theorem xR_buys (G : pd_G) (sz : Nat) (hp : pd_P) {q : Nat → Int → Int} {v : Nat → Int} (hM : MW hp q v) (hI : IN q v) {g : Int} (j_g : jR g) {n : Int} (j_n : jR n) : pd_c G mR_buys 2 [vr 178, vi g, vi n] sz hp (mPost hp sz (fBuys q v g n)) := by
  refine pd_con kR_buys [some (vr 178), some (vi g), some (vi n)] rfl rfl (Nat.le_of_ble_eq_true rfl) ?_
  obtain ⟨⟨ig0, ig4⟩, ⟨id0, id1, id2, id3⟩, iB, iM, iU, iF, iS, iP, iI, ⟨is0, is4, isx⟩, ⟨im0, im4, imx⟩, it0, it1⟩ := hI
  have k_g := j_g
  unfold jR at k_g
  have k_n := j_n
  unfold jR at k_n
  have hR := hM.1
  have h_goods := hM.w_goods
  have h_now := hM.w_now
  have h_known := hM.w_known
  have h_before := hM.w_before
  refine pt_aload eR_buys_0 rfl ?_
  refine pt_iload eR_buys_1 rfl ?_
  refine pt_kv1r eR_buys_2 (cR_isGood G sz _ hR h_goods j_g ig0 ig4) hR rfl (Nat.le_of_ble_eq_true rfl) (by decide) (Nat.le_refl _) (Nat.le_refl _) ?_
  refine pt_zeq eR_buys_5 (pwi_j _ _ _) (fun c5 => ?_) (fun c5 => ?_)
  · refine pt_ic eR_buys_18 ?_
    refine pt_iret eR_buys_19 (Nat.le_refl _) (Nat.le_refl _) ?_
    first
    | (have c5 := pwi_0 c5
       rw [show fBuys q v g n = (q, v, -1) by unfold fBuys; rw [if_pos (fun z => c5 z.1)]]
       exact ⟨rfl, rfl, hM, fr.rf⟩)
    | (have c15 := pwi_0 c15
       rw [show fBuys q v g n = (q, v, -1) by unfold fBuys; rw [if_pos (fun z => c15 z.2)]]
       exact ⟨rfl, rfl, hM, fr.rf⟩)
  · have c5 := pwi_1 c5
    refine pt_iload eR_buys_8 rfl ?_
    refine pt_ic eR_buys_9 ?_
    refine pt_ic eR_buys_10 ?_
    refine pt_ks3r eR_buys_12 (cR_in G sz _ (by unfold jR at *; omega) (by unfold jR at *; omega) (by unfold jR at *; omega)) (Nat.le_of_ble_eq_true rfl) (by decide) (Nat.le_refl _) (Nat.le_refl _) ?_
    refine pt_zne eR_buys_15 (pwi_j _ _ _) (fun c15 => ?_) (fun c15 => ?_)
    · have c15 := pwi_1 c15
      have hT9 := iS.2.2.2.1 g (by omega) (by omega)
      refine pt_aload eR_buys_20 rfl ?_
      refine pt_get eR_buys_21 hR rfl ?_
      refine pt_ic eR_buys_24 ?_
      refine pt_iload eR_buys_25 rfl ?_
      refine pt_iadd eR_buys_26 ?_
      refine pt_iald eR_buys_27 h_now (by omega) (by omega) (by decide) ?_
      refine pt_ic eR_buys_28 ?_
      refine pt_cne eR_buys_31 ⟨by omega, by omega⟩ ⟨by omega, by omega⟩ (fun c31 => ?_) (fun c31 => ?_)
      · refine pt_aload eR_buys_37 rfl ?_
        refine pt_kv0 eR_buys_38 (cR_know G sz _ hR h_known h_before h_now iP.1 iP.2.1) hR rfl (Nat.le_of_ble_eq_true rfl) (by decide) (Nat.le_refl _) (Nat.le_refl _) ?_
        rintro v2 sz2 hpx ⟨rfl, hz9, hx9⟩
        obtain rfl := hz9.symm
        have hM1 : MW hpx (fKnow q) v := by rw [hx9]; exact (hM.s_before _).s_known _
        have hfk : fr hp hpx 178 200 := by rw [hx9]; exact (fr.rf.up rfl (by decide) (by decide)).up rfl (by decide) (by decide)
        have hR := hM1.1
        have h_now : hpx 188 = ia 90 (q 17) := hM1.w_now
        have h_goods : hpx 181 = ia 2 (q 3) := hM1.w_goods
        have h_brought : hpx 186 = ia 160 (q 8) := hM1.w_brought
        have h_missed : hpx 187 = ia 160 (q 9) := hM1.w_missed
        have h_use : hpx 183 = ia 8 (q 5) := hM1.w_use
        have h_door : hpx 180 = ia 4 (q 2) := hM1.w_door
        have h_known : hpx 189 = _ := hM1.w_known
        have h_before : hpx 190 = _ := hM1.w_before
        refine pt_aload eR_buys_41 rfl ?_
        refine pt_get eR_buys_42 hR rfl ?_
        refine pt_ic eR_buys_45 ?_
        refine pt_iload eR_buys_46 rfl ?_
        refine pt_iadd eR_buys_47 ?_
        refine pt_aload eR_buys_48 rfl ?_
        refine pt_get eR_buys_49 hR rfl ?_
        refine pt_ic eR_buys_52 ?_
        refine pt_iload eR_buys_53 rfl ?_
        refine pt_iadd eR_buys_54 ?_
        refine pt_iald eR_buys_55 h_now (by omega) (by omega) (by decide) ?_
        refine pt_iload eR_buys_56 rfl ?_
        refine pt_iadd eR_buys_57 ?_
        refine pt_ks1r eR_buys_58 (cR_atMost G sz _ ⟨by omega, by omega⟩) (Nat.le_of_ble_eq_true rfl) (by decide) (Nat.le_refl _) (Nat.le_refl _) ?_
        refine pt_iast eR_buys_61 h_now (by omega) (by omega) (by decide) ?_
        refine pt_gen ?_
        intro hp2 ev2
        have hR := pg_n ev2 (by omega) hR
        have h_now := pg_s ev2
        have h_known := pg_n ev2 (by omega) h_known
        have h_before := pg_n ev2 (by omega) h_before
        have h_goods := pg_n ev2 (by omega) h_goods
        refine pt_aload eR_buys_62 rfl ?_
        refine pt_get eR_buys_63 hR rfl ?_
        refine pt_ic eR_buys_66 ?_
        refine pt_iload eR_buys_67 rfl ?_
        refine pt_iadd eR_buys_68 ?_
        refine pt_iald eR_buys_69 h_now (by omega) (by omega) (by decide) ?_
        refine pt_iret eR_buys_70 (Nat.le_refl _) (Nat.le_refl _) ?_
        rw [show fBuys q v g n = _ by unfold fBuys; rw [if_neg (fun z => z ⟨c5, c15⟩), if_neg c31]]
        refine ⟨by rw [uI_s], rfl, ?_, hfk.tr (fr.up (fr.rf (lo := 178) (hi := 200)) ev2 (by decide) (by decide)) (by decide) (by decide)⟩
        rw [ev2]
        exact hM1.s_now _
      · refine pt_ic eR_buys_34 ?_
        refine pt_iret eR_buys_36 (Nat.le_refl _) (Nat.le_refl _) ?_
        rw [show fBuys q v g n = (q, v, -2) by unfold fBuys; rw [if_neg (fun z => z ⟨c5, c15⟩), if_pos c31]]
        exact ⟨rfl, rfl, hM, fr.rf⟩
    · refine pt_ic eR_buys_18 ?_
      refine pt_iret eR_buys_19 (Nat.le_refl _) (Nat.le_refl _) ?_
      first
      | (have c5 := pwi_0 c5
         rw [show fBuys q v g n = (q, v, -1) by unfold fBuys; rw [if_pos (fun z => c5 z.1)]]
         exact ⟨rfl, rfl, hM, fr.rf⟩)
      | (have c15 := pwi_0 c15
         rw [show fBuys q v g n = (q, v, -1) by unfold fBuys; rw [if_pos (fun z => c15 z.2)]]
         exact ⟨rfl, rfl, hM, fr.rf⟩)
theorem xD_buys (G : pd_G) (sz : Nat) (hp : pd_P) {to dr : Nat} {q : Nat → Int → Int} {v : Nat → Int} (hC : CW hp to dr q v) (hI : IN q v) {g : Int} (j_g : jR g) {n : Int} (j_n : jR n) : pd_c G mD_buys 3 [vr 1, vi g, vi n] sz hp (cPost hp sz (fBuys q v g n)) := by
  refine pd_con kD_buys [some (vr 1), some (vi g), some (vi n)] rfl rfl (Nat.le_of_ble_eq_true rfl) ?_
  obtain ⟨⟨ig0, ig4⟩, ⟨id0, id1, id2, id3⟩, iB, iM, iU, iF, iS, iP, iI, ⟨is0, is4, isx⟩, ⟨im0, im4, imx⟩, it0, it1⟩ := hI
  have k_g := j_g
  unfold jR at k_g
  have k_n := j_n
  unfold jR at k_n
  have hC0 := hC
  obtain ⟨hto, hDo, hTx, hHs, hHd, hLf, hI0, hI1, hGo, hPl⟩ := hC
  have hDo2 := hDo
  obtain ⟨hD, ⟨imf, hIm, him0, him1⟩, hKp, hSg, hSt, hGd, hGt⟩ := hDo2
  have hHs2 := hHs
  obtain ⟨fi, us, we, wo, stt, hHo, hag, hstt⟩ := hHs2
  have hHo2 := hHo
  obtain ⟨hH, hH1, hH2, hH3, hH4, hH5, hH6, hH7⟩ := hHo2
  have hLf2 := hLf
  obtain ⟨Q, hLi, hQ⟩ := hLf2
  have hL := hLi.1
  obtain ⟨hN, hNt, hNl, hNk⟩ := hLi.2.1
  refine pt_aload eD_buys_0 rfl ?_
  refine pt_get eD_buys_1 hD rfl ?_
  refine pt_iload eD_buys_4 rfl ?_
  refine pt_kv1r eD_buys_5 (cH_has G sz _ hH j_g ig0 ig4) hH rfl (Nat.le_of_ble_eq_true rfl) (by decide) (Nat.le_refl _) (Nat.le_refl _) ?_
  refine pt_zeq eD_buys_8 (pwi_j _ _ _) (fun c8 => ?_) (fun c8 => ?_)
  · refine pt_ic eD_buys_21 ?_
    refine pt_iret eD_buys_22 (Nat.le_refl _) (Nat.le_refl _) ?_
    first
    | (have c8 := pwi_0 c8
       rw [show fBuys q v g n = (q, v, -1) by unfold fBuys; rw [if_pos (fun z => c8 z.1)]]
       exact ⟨rfl, rfl, ⟨to, dr, hC0⟩, fr.rf⟩)
    | (have c18 := pwi_0 c18
       rw [show fBuys q v g n = (q, v, -1) by unfold fBuys; rw [if_pos (fun z => c18 z.2)]]
       exact ⟨rfl, rfl, ⟨to, dr, hC0⟩, fr.rf⟩)
  · have c8 := pwi_1 c8
    refine pt_iload eD_buys_11 rfl ?_
    refine pt_ic eD_buys_12 ?_
    refine pt_ic eD_buys_13 ?_
    refine pt_ks3r eD_buys_15 (cD_within G sz _ (by unfold jR at *; omega) (by unfold jR at *; omega) (by unfold jR at *; omega)) (Nat.le_of_ble_eq_true rfl) (by decide) (Nat.le_refl _) (Nat.le_refl _) ?_
    refine pt_zne eD_buys_18 (pwi_j _ _ _) (fun c18 => ?_) (fun c18 => ?_)
    · have c18 := pwi_1 c18
      have hT9 := iS.2.2.2.1 g (by omega) (by omega)
      refine pt_aload eD_buys_23 rfl ?_
      refine pt_get eD_buys_24 hD rfl ?_
      refine pt_get eD_buys_27 hL rfl ?_
      refine pt_get eD_buys_30 hN rfl ?_
      refine pt_iload eD_buys_33 rfl ?_
      refine pt_iald eD_buys_34 hNt (by omega) (by omega) (by decide) ?_
      refine pt_ic eD_buys_35 ?_
      refine pt_clt eD_buys_38 ⟨by omega, by omega⟩ ⟨by omega, by omega⟩ (fun c38 => ?_) (fun c38 => ?_)
      · refine pt_aload eD_buys_44 rfl ?_
        refine pt_get eD_buys_45 hD rfl ?_
        refine pt_kv0 eD_buys_48 (cL_rem G sz _ hLi iP.1 iP.2.1 iS.2.2.1) hL rfl (Nat.le_of_ble_eq_true rfl) (by decide) (Nat.le_refl _) (Nat.le_refl _) ?_
        rintro v2 sz2 hpx ⟨rfl, hz9, hA2, hf2⟩
        obtain rfl := hz9.symm
        have hD := hf2.at (by decide) hD
        have hL := hA2.1
        obtain ⟨hN, hNt, hNl, hNk⟩ := hA2.2.1
        obtain ⟨hH, hH1, hH2, hH3, hH4, hH5, hH6, hH7⟩ := hHo.keep hf2 (by omega)
        refine pt_aload eD_buys_51 rfl ?_
        refine pt_get eD_buys_52 hD rfl ?_
        refine pt_get eD_buys_55 hL rfl ?_
        refine pt_iload eD_buys_58 rfl ?_
        refine pt_iload eD_buys_59 rfl ?_
        refine pt_kv2 eD_buys_60 (cS_add G sz _ hA2.2.1 (by omega) (by omega) (by omega) (by omega) (by omega) (by omega)) hN rfl (Nat.le_of_ble_eq_true rfl) (by decide) (Nat.le_refl _) (Nat.le_refl _) ?_
        rintro v2 sz2 hpy ⟨rfl, hz9, hs4, hf4⟩
        obtain rfl := hz9.symm
        refine pt_iret eD_buys_63 (Nat.le_refl _) (Nat.le_refl _) ?_
        rw [show fBuys q v g n = _ by unfold fBuys; rw [if_neg (fun z => z ⟨c8, c18⟩), if_neg (show ¬ q 17 (2 + g) = 999 by omega)]]
        have hfr : fr hp hpy 5 51 := hf2.tr hf4 (by decide) (by decide)
        exact ⟨rfl, rfl, ⟨to, dr, hto, hDo.keep hfr (by omega), hTx.keep hfr (by omega), hHs.keep hfr (by omega), hHd.keep hfr (by omega), kn_Lf hQ iP.1 iP.2.1 (hA2.now hf4 hs4), kn_Im (hI0.keep hfr (by omega)) (by decide) iP.2.1 _, kn_Im (hI1.keep hfr (by omega)) (by decide) iP.2.1 _, hGo.keep hfr (by omega), hPl.keep hfr (by omega)⟩, fun k hk => hfr k (by omega)⟩
      · refine pt_ic eD_buys_41 ?_
        refine pt_iret eD_buys_43 (Nat.le_refl _) (Nat.le_refl _) ?_
        rw [show fBuys q v g n = (q, v, -2) by unfold fBuys; rw [if_neg (fun z => z ⟨c8, c18⟩), if_pos (by omega)]]
        exact ⟨rfl, rfl, ⟨to, dr, hC0⟩, fr.rf⟩
    · refine pt_ic eD_buys_21 ?_
      refine pt_iret eD_buys_22 (Nat.le_refl _) (Nat.le_refl _) ?_
      first
      | (have c8 := pwi_0 c8
         rw [show fBuys q v g n = (q, v, -1) by unfold fBuys; rw [if_pos (fun z => c8 z.1)]]
         exact ⟨rfl, rfl, ⟨to, dr, hC0⟩, fr.rf⟩)
      | (have c18 := pwi_0 c18
         rw [show fBuys q v g n = (q, v, -1) by unfold fBuys; rw [if_pos (fun z => c18 z.2)]]
         exact ⟨rfl, rfl, ⟨to, dr, hC0⟩, fr.rf⟩)
theorem xR_holds (G : pd_G) (sz : Nat) (hp : pd_P) {q : Nat → Int → Int} {v : Nat → Int} (hM : MW hp q v) (hI : IN q v) {w : Int} (j_w : jR w) : pd_c G mR_holds 3 [vr 178, vi w] sz hp (mPost hp sz (fHolds q v w)) := by
  refine pd_con kR_holds [some (vr 178), some (vi w)] rfl rfl (Nat.le_of_ble_eq_true rfl) ?_
  obtain ⟨⟨ig0, ig4⟩, ⟨id0, id1, id2, id3⟩, iB, iM, iU, iF, iS, iP, iI, ⟨is0, is4, isx⟩, ⟨im0, im4, imx⟩, it0, it1⟩ := hI
  have k_w := j_w
  unfold jR at k_w
  have hR := hM.1
  have h_now := hM.w_now
  have h_known := hM.w_known
  have h_before := hM.w_before
  have h_door := hM.w_door
  refine pt_iload eR_holds_0 rfl ?_
  refine pt_ic eR_holds_1 ?_
  refine pt_ic eR_holds_2 ?_
  refine pt_ks3r eR_holds_3 (cR_in G sz _ (by unfold jR at *; omega) (by unfold jR at *; omega) (by unfold jR at *; omega)) (Nat.le_of_ble_eq_true rfl) (by decide) (Nat.le_refl _) (Nat.le_refl _) ?_
  refine pt_zne eR_holds_6 (pwi_j _ _ _) (fun c6 => ?_) (fun c6 => ?_)
  · have c6 := pwi_1 c6
    refine pt_aload eR_holds_11 rfl ?_
    refine pt_get eR_holds_12 hR rfl ?_
    refine pt_ic eR_holds_15 ?_
    refine pt_iald eR_holds_16 h_now (by omega) (by omega) (by decide) ?_
    refine pt_iload eR_holds_17 rfl ?_
    refine pt_cne eR_holds_18 ⟨by have := iS.2.2.1; omega, by have := iS.2.2.1; omega⟩ ⟨by omega, by omega⟩ (fun c18 => ?_) (fun c18 => ?_)
    · refine pt_aload eR_holds_24 rfl ?_
      refine pt_kv0 eR_holds_25 (cR_know G sz _ hR h_known h_before h_now iP.1 iP.2.1) hR rfl (Nat.le_of_ble_eq_true rfl) (by decide) (Nat.le_refl _) (Nat.le_refl _) ?_
      rintro v2 sz2 hpx ⟨rfl, hz9, hx9⟩
      obtain rfl := hz9.symm
      have hM1 : MW hpx (fKnow q) v := by rw [hx9]; exact (hM.s_before _).s_known _
      have hfk : fr hp hpx 178 200 := by rw [hx9]; exact (fr.rf.up rfl (by decide) (by decide)).up rfl (by decide) (by decide)
      have hR := hM1.1
      have h_now : hpx 188 = ia 90 (q 17) := hM1.w_now
      have h_goods : hpx 181 = ia 2 (q 3) := hM1.w_goods
      have h_brought : hpx 186 = ia 160 (q 8) := hM1.w_brought
      have h_missed : hpx 187 = ia 160 (q 9) := hM1.w_missed
      have h_use : hpx 183 = ia 8 (q 5) := hM1.w_use
      have h_door : hpx 180 = ia 4 (q 2) := hM1.w_door
      have h_known : hpx 189 = _ := hM1.w_known
      have h_before : hpx 190 = _ := hM1.w_before
      refine pt_aload eR_holds_28 rfl ?_
      refine pt_get eR_holds_29 hR rfl ?_
      refine pt_ic eR_holds_32 ?_
      refine pt_iload eR_holds_33 rfl ?_
      refine pt_iast eR_holds_34 h_now (by omega) (by omega) (by decide) ?_
      refine pt_gen ?_
      intro hp2 ev2
      have hR := pg_n ev2 (by omega) hR
      have h_now := pg_s ev2
      have h_known := pg_n ev2 (by omega) h_known
      have h_before := pg_n ev2 (by omega) h_before
      have h_door := pg_n ev2 (by omega) h_door
      refine pt_aload eR_holds_35 rfl ?_
      refine pt_aload eR_holds_36 rfl ?_
      refine pt_get eR_holds_37 hR rfl ?_
      refine pt_kv1r eR_holds_40 (cR_opens G sz _ hR h_door h_now id0 id1 id2 id3 (by rw [uI_n _ _ (by decide)]; exact iS.1) (by rw [uI_n _ _ (by decide)]; exact iS.2.1) (by rw [uI_s]; omega)) hR rfl (Nat.le_of_ble_eq_true rfl) (by decide) (Nat.le_refl _) (Nat.le_refl _) ?_
      refine pt_iret eR_holds_43 (Nat.le_refl _) (Nat.le_refl _) ?_
      rw [show fHolds q v w = _ by unfold fHolds; rw [if_neg (fun z => z c6), if_neg c18]]
      refine ⟨rfl, rfl, ?_, hfk.tr (fr.up (fr.rf (lo := 178) (hi := 200)) ev2 (by decide) (by decide)) (by decide) (by decide)⟩
      rw [ev2]
      exact hM1.s_now _
    · refine pt_ic eR_holds_21 ?_
      refine pt_iret eR_holds_23 (Nat.le_refl _) (Nat.le_refl _) ?_
      rw [show fHolds q v w = (q, v, -2) by unfold fHolds; rw [if_neg (fun z => z c6), if_pos c18]]
      exact ⟨rfl, rfl, hM, fr.rf⟩
  · refine pt_ic eR_holds_9 ?_
    refine pt_iret eR_holds_10 (Nat.le_refl _) (Nat.le_refl _) ?_
    have c6 := pwi_0 c6
    rw [show fHolds q v w = (q, v, -1) by unfold fHolds; rw [if_pos c6]]
    exact ⟨rfl, rfl, hM, fr.rf⟩
theorem xD_holds (G : pd_G) (sz : Nat) (hp : pd_P) {to dr : Nat} {q : Nat → Int → Int} {v : Nat → Int} (hC : CW hp to dr q v) (hI : IN q v) {w : Int} (j_w : jR w) : pd_c G mD_holds 4 [vr 1, vi w] sz hp (cPost hp sz (fHolds q v w)) := by
  refine pd_con kD_holds [some (vr 1), some (vi w)] rfl rfl (Nat.le_of_ble_eq_true rfl) ?_
  obtain ⟨⟨ig0, ig4⟩, ⟨id0, id1, id2, id3⟩, iB, iM, iU, iF, iS, iP, iI, ⟨is0, is4, isx⟩, ⟨im0, im4, imx⟩, it0, it1⟩ := hI
  have k_w := j_w
  unfold jR at k_w
  have hC0 := hC
  obtain ⟨hto, hDo, hTx, hHs, hHd, hLf, hI0, hI1, hGo, hPl⟩ := hC
  have hDo2 := hDo
  obtain ⟨hD, ⟨imf, hIm, him0, him1⟩, hKp, hSg, hSt, hGd, hGt⟩ := hDo2
  have hHs2 := hHs
  obtain ⟨fi, us, we, wo, stt, hHo, hag, hstt⟩ := hHs2
  have hHo2 := hHo
  obtain ⟨hH, hH1, hH2, hH3, hH4, hH5, hH6, hH7⟩ := hHo2
  have hLf2 := hLf
  obtain ⟨Q, hLi, hQ⟩ := hLf2
  have hL := hLi.1
  obtain ⟨hN, hNt, hNl, hNk⟩ := hLi.2.1
  refine pt_iload eD_holds_0 rfl ?_
  refine pt_ic eD_holds_1 ?_
  refine pt_ic eD_holds_2 ?_
  refine pt_ks3r eD_holds_3 (cD_within G sz _ (by unfold jR at *; omega) (by unfold jR at *; omega) (by unfold jR at *; omega)) (Nat.le_of_ble_eq_true rfl) (by decide) (Nat.le_refl _) (Nat.le_refl _) ?_
  refine pt_zne eD_holds_6 (pwi_j _ _ _) (fun c6 => ?_) (fun c6 => ?_)
  · have c6 := pwi_1 c6
    have i1 := iS.2.2.1
    refine pt_aload eD_holds_11 rfl ?_
    refine pt_get eD_holds_12 hD rfl ?_
    refine pt_get eD_holds_15 hL rfl ?_
    refine pt_get eD_holds_18 hN rfl ?_
    refine pt_iload eD_holds_21 rfl ?_
    refine pt_ic eD_holds_22 ?_
    refine pt_cne eD_holds_23 ⟨by omega, by omega⟩ ⟨by omega, by omega⟩ (fun c23 => ?_) (fun c23 => ?_)
    · refine pt_ic eD_holds_30 ?_
      refine pt_cne eD_holds_31 ⟨by have := iS.2.2.1; omega, by have := iS.2.2.1; omega⟩ ⟨by decide, by decide⟩ (fun c31 => ?_) (fun c31 => ?_)
      · refine pt_aload eD_holds_37 rfl ?_
        refine pt_get eD_holds_38 hD rfl ?_
        refine pt_kv0 eD_holds_41 (cL_rem G sz _ hLi iP.1 iP.2.1 iS.2.2.1) hL rfl (Nat.le_of_ble_eq_true rfl) (by decide) (Nat.le_refl _) (Nat.le_refl _) ?_
        rintro v2 sz2 hpx ⟨rfl, hz9, hA2, hf2⟩
        obtain rfl := hz9.symm
        have hD := hf2.at (by decide) hD
        have hL := hA2.1
        obtain ⟨hN, hNt, hNl, hNk⟩ := hA2.2.1
        obtain ⟨hH, hH1, hH2, hH3, hH4, hH5, hH6, hH7⟩ := hHo.keep hf2 (by omega)
        refine pt_aload eD_holds_44 rfl ?_
        refine pt_get eD_holds_45 hD rfl ?_
        refine pt_get eD_holds_48 hL rfl ?_
        refine pt_iload eD_holds_51 rfl ?_
        refine pt_ic eD_holds_52 ?_
        refine pt_cne eD_holds_53 ⟨by omega, by omega⟩ ⟨by omega, by omega⟩ (fun c53 => ?_) (fun c53 => ?_)
        · refine pt_ic eD_holds_60 ?_
          refine pt_put4 eD_holds_61 hN (Or.inl rfl) ?_
          refine pt_gen ?_
          intro hp2 ev2
          have hD := pg_n ev2 (by omega) hD
          have hH := pg_n ev2 (by omega) hH
          have hL := pg_n ev2 (by omega) hL
          have hN := pg_s ev2
          have hNt := pg_n ev2 (by omega) hNt
          have hNl := pg_n ev2 (by omega) hNl
          have hNk := pg_n ev2 (by omega) hNk
          refine pt_ext hNt (g := fun x => (uI (q 17) 1 w) (2 + x)) (fun i hi0 hi1 => ?_) ?_
          · rw [uI_n _ _ (by omega)]
          refine pt_gen ?_
          intro hp21 ev21
          have hN := pg_n ev21 (by omega) hN
          have hNt := pg_s ev21
          have hNl := pg_n ev21 (by omega) hNl
          have hNk := pg_n ev21 (by omega) hNk
          refine pt_ext hNl (g := fun x => (uI (q 17) 1 w) (6 + x)) (fun i hi0 hi1 => ?_) ?_
          · rw [uI_n _ _ (by omega)]
          refine pt_gen ?_
          intro hp22 ev22
          have hN := pg_n ev22 (by omega) hN
          have hNt := pg_n ev22 (by omega) hNt
          have hNl := pg_s ev22
          have hNk := pg_n ev22 (by omega) hNk
          refine pt_ext hNk (g := fun x => (uI (q 17) 1 w) (10 + x)) (fun i hi0 hi1 => ?_) ?_
          · rw [uI_n _ _ (by omega)]
          refine pt_gen ?_
          intro hp23 ev23
          have hN := pg_n ev23 (by omega) hN
          have hNt := pg_n ev23 (by omega) hNt
          have hNl := pg_n ev23 (by omega) hNl
          have hNk := pg_s ev23
          have hfr3 : fr hpx hp23 (5 + 1) (5 + 5) := (((fr.rf.up ev2 (by omega) (by omega)).up ev21 (by omega) (by omega)).up ev22 (by omega) (by omega)).up ev23 (by omega) (by omega)
          have hw1 : w = 0 := by omega
          have hs3 : StA hp23 (5 + 1) (uI (q 17) 1 w) := ⟨by rw [uI_n _ _ (by decide), uI_s, hw1]; exact hN, hNt, hNl, hNk⟩
          have hA3 := hA2.now hfr3 hs3
          have hD := pg_n ev23 (by decide) (pg_n ev22 (by decide) (pg_n ev21 (by decide) hD))
          have hH := pg_n ev23 (by omega) (pg_n ev22 (by omega) (pg_n ev21 (by omega) hH))
          have hL := hA3.1
          have hN := hs3.1
          refine pt_aload eD_holds_64 rfl ?_
          refine pt_get eD_holds_65 hD rfl ?_
          refine pt_get eD_holds_68 hL rfl ?_
          refine pt_aload eD_holds_71 rfl ?_
          refine pt_get eD_holds_72 hD rfl ?_
          refine pt_kv1r eD_holds_75 (cS_leads G sz _ (σ := uI (q 17) 1 w) hN hH id0 id1 id2 id3 (by rw [uI_n _ _ (by decide)]; exact iS.1) (by rw [uI_n _ _ (by decide)]; exact iS.2.1) (by rw [uI_s]; omega)) hN rfl (Nat.le_of_ble_eq_true rfl) (by decide) (Nat.le_refl _) (Nat.le_refl _) ?_
          refine pt_iret eD_holds_78 (Nat.le_refl _) (Nat.le_refl _) ?_
          rw [show fHolds q v w = _ by unfold fHolds; rw [if_neg (fun z => z c6), if_neg (show ¬ q 17 1 = w by omega)]]
          have hfr : fr hp hp23 5 51 := hf2.tr hfr3 (by decide) (by decide)
          exact ⟨rfl, rfl, ⟨to, dr, hto, hDo.keep hfr (by omega), hTx.keep hfr (by omega), hHs.keep hfr (by omega), hHd.keep hfr (by omega), kn_Lf hQ iP.1 iP.2.1 hA3, kn_Im (hI0.keep hfr (by omega)) (by decide) iP.2.1 _, kn_Im (hI1.keep hfr (by omega)) (by decide) iP.2.1 _, hGo.keep hfr (by omega), hPl.keep hfr (by omega)⟩, fun k hk => hfr k (by omega)⟩
        · refine pt_ic eD_holds_56 ?_
          refine pt_goto eD_holds_57 ?_
          refine pt_put4 eD_holds_61 hN (Or.inr rfl) ?_
          refine pt_gen ?_
          intro hp3 ev3
          have hD := pg_n ev3 (by omega) hD
          have hH := pg_n ev3 (by omega) hH
          have hL := pg_n ev3 (by omega) hL
          have hN := pg_s ev3
          have hNt := pg_n ev3 (by omega) hNt
          have hNl := pg_n ev3 (by omega) hNl
          have hNk := pg_n ev3 (by omega) hNk
          refine pt_ext hNt (g := fun x => (uI (q 17) 1 w) (2 + x)) (fun i hi0 hi1 => ?_) ?_
          · rw [uI_n _ _ (by omega)]
          refine pt_gen ?_
          intro hp21 ev21
          have hN := pg_n ev21 (by omega) hN
          have hNt := pg_s ev21
          have hNl := pg_n ev21 (by omega) hNl
          have hNk := pg_n ev21 (by omega) hNk
          refine pt_ext hNl (g := fun x => (uI (q 17) 1 w) (6 + x)) (fun i hi0 hi1 => ?_) ?_
          · rw [uI_n _ _ (by omega)]
          refine pt_gen ?_
          intro hp22 ev22
          have hN := pg_n ev22 (by omega) hN
          have hNt := pg_n ev22 (by omega) hNt
          have hNl := pg_s ev22
          have hNk := pg_n ev22 (by omega) hNk
          refine pt_ext hNk (g := fun x => (uI (q 17) 1 w) (10 + x)) (fun i hi0 hi1 => ?_) ?_
          · rw [uI_n _ _ (by omega)]
          refine pt_gen ?_
          intro hp23 ev23
          have hN := pg_n ev23 (by omega) hN
          have hNt := pg_n ev23 (by omega) hNt
          have hNl := pg_n ev23 (by omega) hNl
          have hNk := pg_s ev23
          have hfr3 : fr hpx hp23 (5 + 1) (5 + 5) := (((fr.rf.up ev3 (by omega) (by omega)).up ev21 (by omega) (by omega)).up ev22 (by omega) (by omega)).up ev23 (by omega) (by omega)
          have hw1 : w = 1 := by omega
          have hs3 : StA hp23 (5 + 1) (uI (q 17) 1 w) := ⟨by rw [uI_n _ _ (by decide), uI_s, hw1]; exact hN, hNt, hNl, hNk⟩
          have hA3 := hA2.now hfr3 hs3
          have hD := pg_n ev23 (by decide) (pg_n ev22 (by decide) (pg_n ev21 (by decide) hD))
          have hH := pg_n ev23 (by omega) (pg_n ev22 (by omega) (pg_n ev21 (by omega) hH))
          have hL := hA3.1
          have hN := hs3.1
          refine pt_aload eD_holds_64 rfl ?_
          refine pt_get eD_holds_65 hD rfl ?_
          refine pt_get eD_holds_68 hL rfl ?_
          refine pt_aload eD_holds_71 rfl ?_
          refine pt_get eD_holds_72 hD rfl ?_
          refine pt_kv1r eD_holds_75 (cS_leads G sz _ (σ := uI (q 17) 1 w) hN hH id0 id1 id2 id3 (by rw [uI_n _ _ (by decide)]; exact iS.1) (by rw [uI_n _ _ (by decide)]; exact iS.2.1) (by rw [uI_s]; omega)) hN rfl (Nat.le_of_ble_eq_true rfl) (by decide) (Nat.le_refl _) (Nat.le_refl _) ?_
          refine pt_iret eD_holds_78 (Nat.le_refl _) (Nat.le_refl _) ?_
          rw [show fHolds q v w = _ by unfold fHolds; rw [if_neg (fun z => z c6), if_neg (show ¬ q 17 1 = w by omega)]]
          have hfr : fr hp hp23 5 51 := hf2.tr hfr3 (by decide) (by decide)
          exact ⟨rfl, rfl, ⟨to, dr, hto, hDo.keep hfr (by omega), hTx.keep hfr (by omega), hHs.keep hfr (by omega), hHd.keep hfr (by omega), kn_Lf hQ iP.1 iP.2.1 hA3, kn_Im (hI0.keep hfr (by omega)) (by decide) iP.2.1 _, kn_Im (hI1.keep hfr (by omega)) (by decide) iP.2.1 _, hGo.keep hfr (by omega), hPl.keep hfr (by omega)⟩, fun k hk => hfr k (by omega)⟩
      · refine pt_ic eD_holds_34 ?_
        refine pt_iret eD_holds_36 (Nat.le_refl _) (Nat.le_refl _) ?_
        rw [show fHolds q v w = (q, v, -2) by unfold fHolds; rw [if_neg (fun z => z c6), if_pos (by omega)]]
        exact ⟨rfl, rfl, ⟨to, dr, hC0⟩, fr.rf⟩
    · refine pt_ic eD_holds_26 ?_
      refine pt_goto eD_holds_27 ?_
      refine pt_cne eD_holds_31 ⟨by have := iS.2.2.1; omega, by have := iS.2.2.1; omega⟩ ⟨by decide, by decide⟩ (fun c31 => ?_) (fun c31 => ?_)
      · refine pt_aload eD_holds_37 rfl ?_
        refine pt_get eD_holds_38 hD rfl ?_
        refine pt_kv0 eD_holds_41 (cL_rem G sz _ hLi iP.1 iP.2.1 iS.2.2.1) hL rfl (Nat.le_of_ble_eq_true rfl) (by decide) (Nat.le_refl _) (Nat.le_refl _) ?_
        rintro v2 sz2 hpx ⟨rfl, hz9, hA2, hf2⟩
        obtain rfl := hz9.symm
        have hD := hf2.at (by decide) hD
        have hL := hA2.1
        obtain ⟨hN, hNt, hNl, hNk⟩ := hA2.2.1
        obtain ⟨hH, hH1, hH2, hH3, hH4, hH5, hH6, hH7⟩ := hHo.keep hf2 (by omega)
        refine pt_aload eD_holds_44 rfl ?_
        refine pt_get eD_holds_45 hD rfl ?_
        refine pt_get eD_holds_48 hL rfl ?_
        refine pt_iload eD_holds_51 rfl ?_
        refine pt_ic eD_holds_52 ?_
        refine pt_cne eD_holds_53 ⟨by omega, by omega⟩ ⟨by omega, by omega⟩ (fun c53 => ?_) (fun c53 => ?_)
        · refine pt_ic eD_holds_60 ?_
          refine pt_put4 eD_holds_61 hN (Or.inl rfl) ?_
          refine pt_gen ?_
          intro hp5 ev5
          have hD := pg_n ev5 (by omega) hD
          have hH := pg_n ev5 (by omega) hH
          have hL := pg_n ev5 (by omega) hL
          have hN := pg_s ev5
          have hNt := pg_n ev5 (by omega) hNt
          have hNl := pg_n ev5 (by omega) hNl
          have hNk := pg_n ev5 (by omega) hNk
          refine pt_ext hNt (g := fun x => (uI (q 17) 1 w) (2 + x)) (fun i hi0 hi1 => ?_) ?_
          · rw [uI_n _ _ (by omega)]
          refine pt_gen ?_
          intro hp21 ev21
          have hN := pg_n ev21 (by omega) hN
          have hNt := pg_s ev21
          have hNl := pg_n ev21 (by omega) hNl
          have hNk := pg_n ev21 (by omega) hNk
          refine pt_ext hNl (g := fun x => (uI (q 17) 1 w) (6 + x)) (fun i hi0 hi1 => ?_) ?_
          · rw [uI_n _ _ (by omega)]
          refine pt_gen ?_
          intro hp22 ev22
          have hN := pg_n ev22 (by omega) hN
          have hNt := pg_n ev22 (by omega) hNt
          have hNl := pg_s ev22
          have hNk := pg_n ev22 (by omega) hNk
          refine pt_ext hNk (g := fun x => (uI (q 17) 1 w) (10 + x)) (fun i hi0 hi1 => ?_) ?_
          · rw [uI_n _ _ (by omega)]
          refine pt_gen ?_
          intro hp23 ev23
          have hN := pg_n ev23 (by omega) hN
          have hNt := pg_n ev23 (by omega) hNt
          have hNl := pg_n ev23 (by omega) hNl
          have hNk := pg_s ev23
          have hfr3 : fr hpx hp23 (5 + 1) (5 + 5) := (((fr.rf.up ev5 (by omega) (by omega)).up ev21 (by omega) (by omega)).up ev22 (by omega) (by omega)).up ev23 (by omega) (by omega)
          have hw1 : w = 0 := by omega
          have hs3 : StA hp23 (5 + 1) (uI (q 17) 1 w) := ⟨by rw [uI_n _ _ (by decide), uI_s, hw1]; exact hN, hNt, hNl, hNk⟩
          have hA3 := hA2.now hfr3 hs3
          have hD := pg_n ev23 (by decide) (pg_n ev22 (by decide) (pg_n ev21 (by decide) hD))
          have hH := pg_n ev23 (by omega) (pg_n ev22 (by omega) (pg_n ev21 (by omega) hH))
          have hL := hA3.1
          have hN := hs3.1
          refine pt_aload eD_holds_64 rfl ?_
          refine pt_get eD_holds_65 hD rfl ?_
          refine pt_get eD_holds_68 hL rfl ?_
          refine pt_aload eD_holds_71 rfl ?_
          refine pt_get eD_holds_72 hD rfl ?_
          refine pt_kv1r eD_holds_75 (cS_leads G sz _ (σ := uI (q 17) 1 w) hN hH id0 id1 id2 id3 (by rw [uI_n _ _ (by decide)]; exact iS.1) (by rw [uI_n _ _ (by decide)]; exact iS.2.1) (by rw [uI_s]; omega)) hN rfl (Nat.le_of_ble_eq_true rfl) (by decide) (Nat.le_refl _) (Nat.le_refl _) ?_
          refine pt_iret eD_holds_78 (Nat.le_refl _) (Nat.le_refl _) ?_
          rw [show fHolds q v w = _ by unfold fHolds; rw [if_neg (fun z => z c6), if_neg (show ¬ q 17 1 = w by omega)]]
          have hfr : fr hp hp23 5 51 := hf2.tr hfr3 (by decide) (by decide)
          exact ⟨rfl, rfl, ⟨to, dr, hto, hDo.keep hfr (by omega), hTx.keep hfr (by omega), hHs.keep hfr (by omega), hHd.keep hfr (by omega), kn_Lf hQ iP.1 iP.2.1 hA3, kn_Im (hI0.keep hfr (by omega)) (by decide) iP.2.1 _, kn_Im (hI1.keep hfr (by omega)) (by decide) iP.2.1 _, hGo.keep hfr (by omega), hPl.keep hfr (by omega)⟩, fun k hk => hfr k (by omega)⟩
        · refine pt_ic eD_holds_56 ?_
          refine pt_goto eD_holds_57 ?_
          refine pt_put4 eD_holds_61 hN (Or.inr rfl) ?_
          refine pt_gen ?_
          intro hp6 ev6
          have hD := pg_n ev6 (by omega) hD
          have hH := pg_n ev6 (by omega) hH
          have hL := pg_n ev6 (by omega) hL
          have hN := pg_s ev6
          have hNt := pg_n ev6 (by omega) hNt
          have hNl := pg_n ev6 (by omega) hNl
          have hNk := pg_n ev6 (by omega) hNk
          refine pt_ext hNt (g := fun x => (uI (q 17) 1 w) (2 + x)) (fun i hi0 hi1 => ?_) ?_
          · rw [uI_n _ _ (by omega)]
          refine pt_gen ?_
          intro hp21 ev21
          have hN := pg_n ev21 (by omega) hN
          have hNt := pg_s ev21
          have hNl := pg_n ev21 (by omega) hNl
          have hNk := pg_n ev21 (by omega) hNk
          refine pt_ext hNl (g := fun x => (uI (q 17) 1 w) (6 + x)) (fun i hi0 hi1 => ?_) ?_
          · rw [uI_n _ _ (by omega)]
          refine pt_gen ?_
          intro hp22 ev22
          have hN := pg_n ev22 (by omega) hN
          have hNt := pg_n ev22 (by omega) hNt
          have hNl := pg_s ev22
          have hNk := pg_n ev22 (by omega) hNk
          refine pt_ext hNk (g := fun x => (uI (q 17) 1 w) (10 + x)) (fun i hi0 hi1 => ?_) ?_
          · rw [uI_n _ _ (by omega)]
          refine pt_gen ?_
          intro hp23 ev23
          have hN := pg_n ev23 (by omega) hN
          have hNt := pg_n ev23 (by omega) hNt
          have hNl := pg_n ev23 (by omega) hNl
          have hNk := pg_s ev23
          have hfr3 : fr hpx hp23 (5 + 1) (5 + 5) := (((fr.rf.up ev6 (by omega) (by omega)).up ev21 (by omega) (by omega)).up ev22 (by omega) (by omega)).up ev23 (by omega) (by omega)
          have hw1 : w = 1 := by omega
          have hs3 : StA hp23 (5 + 1) (uI (q 17) 1 w) := ⟨by rw [uI_n _ _ (by decide), uI_s, hw1]; exact hN, hNt, hNl, hNk⟩
          have hA3 := hA2.now hfr3 hs3
          have hD := pg_n ev23 (by decide) (pg_n ev22 (by decide) (pg_n ev21 (by decide) hD))
          have hH := pg_n ev23 (by omega) (pg_n ev22 (by omega) (pg_n ev21 (by omega) hH))
          have hL := hA3.1
          have hN := hs3.1
          refine pt_aload eD_holds_64 rfl ?_
          refine pt_get eD_holds_65 hD rfl ?_
          refine pt_get eD_holds_68 hL rfl ?_
          refine pt_aload eD_holds_71 rfl ?_
          refine pt_get eD_holds_72 hD rfl ?_
          refine pt_kv1r eD_holds_75 (cS_leads G sz _ (σ := uI (q 17) 1 w) hN hH id0 id1 id2 id3 (by rw [uI_n _ _ (by decide)]; exact iS.1) (by rw [uI_n _ _ (by decide)]; exact iS.2.1) (by rw [uI_s]; omega)) hN rfl (Nat.le_of_ble_eq_true rfl) (by decide) (Nat.le_refl _) (Nat.le_refl _) ?_
          refine pt_iret eD_holds_78 (Nat.le_refl _) (Nat.le_refl _) ?_
          rw [show fHolds q v w = _ by unfold fHolds; rw [if_neg (fun z => z c6), if_neg (show ¬ q 17 1 = w by omega)]]
          have hfr : fr hp hp23 5 51 := hf2.tr hfr3 (by decide) (by decide)
          exact ⟨rfl, rfl, ⟨to, dr, hto, hDo.keep hfr (by omega), hTx.keep hfr (by omega), hHs.keep hfr (by omega), hHd.keep hfr (by omega), kn_Lf hQ iP.1 iP.2.1 hA3, kn_Im (hI0.keep hfr (by omega)) (by decide) iP.2.1 _, kn_Im (hI1.keep hfr (by omega)) (by decide) iP.2.1 _, hGo.keep hfr (by omega), hPl.keep hfr (by omega)⟩, fun k hk => hfr k (by omega)⟩
      · refine pt_ic eD_holds_34 ?_
        refine pt_iret eD_holds_36 (Nat.le_refl _) (Nat.le_refl _) ?_
        rw [show fHolds q v w = (q, v, -2) by unfold fHolds; rw [if_neg (fun z => z c6), if_pos (by omega)]]
        exact ⟨rfl, rfl, ⟨to, dr, hC0⟩, fr.rf⟩
  · refine pt_ic eD_holds_9 ?_
    refine pt_iret eD_holds_10 (Nat.le_refl _) (Nat.le_refl _) ?_
    have c6 := pwi_0 c6
    rw [show fHolds q v w = (q, v, -1) by unfold fHolds; rw [if_pos c6]]
    exact ⟨rfl, rfl, ⟨to, dr, hC0⟩, fr.rf⟩
