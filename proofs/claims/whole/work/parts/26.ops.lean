theorem xD_gave (G : pd_G) (sz : Nat) (hp : pd_P) {to dr : Nat} {q : Nat → Int → Int} {v : Nat → Int} (hC : CW hp to dr q v) (hI : IN q v) {d : Int} (j_d : jR d) {t : Int} (j_t : jR t) : pd_c G mD_gave 2 [vr 1, vi d, vi t] sz hp (cPost hp sz (fGave q v d t)) := by
  refine pd_con kD_gave [some (vr 1), some (vi d), some (vi t)] rfl rfl (Nat.le_of_ble_eq_true rfl) ?_
  obtain ⟨⟨ig0, ig4⟩, ⟨id0, id1, id2, id3⟩, iB, iM, iU, iF, iS, iP, iI, ⟨is0, is4, isx⟩, ⟨im0, im4, imx⟩, it0, it1⟩ := hI
  have k_d := j_d
  unfold jR at k_d
  have k_t := j_t
  unfold jR at k_t
  have hC0 := hC
  obtain ⟨hto, hDo, hTx, hHs, hHd, hLf, hI0, hI1, hGo, hPl⟩ := hC
  have hDo2 := hDo
  obtain ⟨hD, ⟨imf, hIm, him0, him1⟩, hKp, hSg, hSt, hGd, hGt⟩ := hDo2
  refine pt_iload eD_gave_0 rfl ?_
  refine pt_ic eD_gave_1 ?_
  refine pt_ic eD_gave_2 ?_
  refine pt_ks3r eD_gave_4 (cD_within G sz _ (by unfold jR at *; omega) (by unfold jR at *; omega) (by unfold jR at *; omega)) (Nat.le_of_ble_eq_true rfl) (by decide) (Nat.le_refl _) (Nat.le_refl _) ?_
  refine pt_zeq eD_gave_7 (pwi_j _ _ _) (fun c7 => ?_) (fun c7 => ?_)
  · refine pt_ic eD_gave_20 ?_
    refine pt_iret eD_gave_21 (Nat.le_refl _) (Nat.le_refl _) ?_
    first
    | (have c7 := pwi_0 c7
       rw [show fGave q v d t = (q, v, -1) by unfold fGave; rw [if_pos (fun z => c7 z.1)]]
       exact ⟨rfl, rfl, ⟨to, dr, hC0⟩, fr.rf⟩)
    | (have c17 := pwi_0 c17
       rw [show fGave q v d t = (q, v, -1) by unfold fGave; rw [if_pos (fun z => c17 z.2)]]
       exact ⟨rfl, rfl, ⟨to, dr, hC0⟩, fr.rf⟩)
  · have c7 := pwi_1 c7
    refine pt_iload eD_gave_10 rfl ?_
    refine pt_ic eD_gave_11 ?_
    refine pt_ic eD_gave_12 ?_
    refine pt_ks3r eD_gave_14 (cD_within G sz _ (by unfold jR at *; omega) (by unfold jR at *; omega) (by unfold jR at *; omega)) (Nat.le_of_ble_eq_true rfl) (by decide) (Nat.le_refl _) (Nat.le_refl _) ?_
    refine pt_zne eD_gave_17 (pwi_j _ _ _) (fun c17 => ?_) (fun c17 => ?_)
    · have c17 := pwi_1 c17
      refine pt_aload eD_gave_22 rfl ?_
      refine pt_get eD_gave_23 hD rfl ?_
      refine pt_ic eD_gave_26 ?_
      refine pt_clt eD_gave_27 ⟨by omega, by omega⟩ ⟨by omega, by omega⟩ (fun c27 => ?_) (fun c27 => ?_)
      · refine pt_aload eD_gave_33 rfl ?_
        refine pt_get eD_gave_34 hD rfl ?_
        refine pt_aload eD_gave_37 rfl ?_
        refine pt_get eD_gave_38 hD rfl ?_
        refine pt_iload eD_gave_41 rfl ?_
        refine pt_iast eD_gave_42 hGd (by omega) (by omega) (by decide) ?_
        refine pt_gen ?_
        intro hp1 ev1
        have hD := pg_n ev1 (by omega) hD
        have hGd := pg_s ev1
        have hGt := pg_n ev1 (by omega) hGt
        refine pt_aload eD_gave_43 rfl ?_
        refine pt_get eD_gave_44 hD rfl ?_
        refine pt_aload eD_gave_47 rfl ?_
        refine pt_get eD_gave_48 hD rfl ?_
        refine pt_iload eD_gave_51 rfl ?_
        refine pt_ic eD_gave_52 ?_
        refine pt_cne eD_gave_53 ⟨by omega, by omega⟩ ⟨by omega, by omega⟩ (fun c53 => ?_) (fun c53 => ?_)
        · refine pt_iload eD_gave_61 rfl ?_
          refine pt_iast eD_gave_62 hGt (by omega) (by omega) (by decide) ?_
          refine pt_gen ?_
          intro hp2 ev2
          have hD := pg_n ev2 (by omega) hD
          have hGd := pg_n ev2 (by omega) hGd
          have hGt := pg_s ev2
          refine pt_aload eD_gave_63 rfl ?_
          refine pt_dupr eD_gave_64 ?_
          refine pt_get eD_gave_65 hD rfl ?_
          refine pt_ic eD_gave_68 ?_
          refine pt_iadd eD_gave_69 ?_
          refine pt_put14 eD_gave_70 hD trivial ?_
          refine pt_gen ?_
          intro hp3 ev3
          have hD := pg_s ev3
          have hGd := pg_n ev3 (by omega) hGd
          have hGt := pg_n ev3 (by omega) hGt
          refine pt_aload eD_gave_73 rfl ?_
          refine pt_get eD_gave_74 hD rfl ?_
          refine pt_iret eD_gave_77 (Nat.le_refl _) (Nat.le_refl _) ?_
          rw [show fGave q v d t = _ by unfold fGave; rw [if_neg (fun z => z ⟨c7, c17⟩), if_neg (show ¬ v 29 = 4 by omega)]]
          have hfa := (fr.up (fr.rf (hp := hp) (lo := 55) (hi := 57)) ev1 (by decide) (by decide)).up ev2 (by decide) (by decide)
          have hfb := fr.up (fr.rf (lo := 1) (hi := 2)) ev3 (by decide) (by decide)
          refine ⟨rfl, rfl, ⟨to, dr, hto, ⟨hD, ⟨imf, hfb.at (by decide) (hfa.at (by decide) hIm), him0, him1⟩, hfb.at (by decide) (hfa.at (by decide) hKp), hfb.at (by decide) (hfa.at (by decide) hSg), hfb.at (by decide) (hfa.at (by decide) hSt), hGd, ?_⟩, (hTx.keep hfa (by decide)).keep hfb (by decide), (hHs.keep hfa (by omega)).keep hfb (by omega), (hHd.keep hfa (by omega)).keep hfb (by omega), (hLf.keep hfa (by decide)).keep hfb (by decide), (hI0.keep hfa (by decide)).keep hfb (by decide), (hI1.keep hfa (by decide)).keep hfb (by decide), (hGo.keep hfa (by decide)).keep hfb (by decide), (hPl.keep hfa (by decide)).keep hfb (by decide)⟩, fun k hk => (hfb k (by omega)).trans (hfa k (by omega))⟩
          first | (rw [if_neg c53]; exact hGt) | (rw [if_pos c53]; exact hGt)
        · refine pt_ic eD_gave_56 ?_
          refine pt_goto eD_gave_58 ?_
          refine pt_iast eD_gave_62 hGt (by omega) (by omega) (by decide) ?_
          refine pt_gen ?_
          intro hp4 ev4
          have hD := pg_n ev4 (by omega) hD
          have hGd := pg_n ev4 (by omega) hGd
          have hGt := pg_s ev4
          refine pt_aload eD_gave_63 rfl ?_
          refine pt_dupr eD_gave_64 ?_
          refine pt_get eD_gave_65 hD rfl ?_
          refine pt_ic eD_gave_68 ?_
          refine pt_iadd eD_gave_69 ?_
          refine pt_put14 eD_gave_70 hD trivial ?_
          refine pt_gen ?_
          intro hp5 ev5
          have hD := pg_s ev5
          have hGd := pg_n ev5 (by omega) hGd
          have hGt := pg_n ev5 (by omega) hGt
          refine pt_aload eD_gave_73 rfl ?_
          refine pt_get eD_gave_74 hD rfl ?_
          refine pt_iret eD_gave_77 (Nat.le_refl _) (Nat.le_refl _) ?_
          rw [show fGave q v d t = _ by unfold fGave; rw [if_neg (fun z => z ⟨c7, c17⟩), if_neg (show ¬ v 29 = 4 by omega)]]
          have hfa := (fr.up (fr.rf (hp := hp) (lo := 55) (hi := 57)) ev1 (by decide) (by decide)).up ev4 (by decide) (by decide)
          have hfb := fr.up (fr.rf (lo := 1) (hi := 2)) ev5 (by decide) (by decide)
          refine ⟨rfl, rfl, ⟨to, dr, hto, ⟨hD, ⟨imf, hfb.at (by decide) (hfa.at (by decide) hIm), him0, him1⟩, hfb.at (by decide) (hfa.at (by decide) hKp), hfb.at (by decide) (hfa.at (by decide) hSg), hfb.at (by decide) (hfa.at (by decide) hSt), hGd, ?_⟩, (hTx.keep hfa (by decide)).keep hfb (by decide), (hHs.keep hfa (by omega)).keep hfb (by omega), (hHd.keep hfa (by omega)).keep hfb (by omega), (hLf.keep hfa (by decide)).keep hfb (by decide), (hI0.keep hfa (by decide)).keep hfb (by decide), (hI1.keep hfa (by decide)).keep hfb (by decide), (hGo.keep hfa (by decide)).keep hfb (by decide), (hPl.keep hfa (by decide)).keep hfb (by decide)⟩, fun k hk => (hfb k (by omega)).trans (hfa k (by omega))⟩
          first | (rw [if_neg c53]; exact hGt) | (rw [if_pos c53]; exact hGt)
      · refine pt_ic eD_gave_30 ?_
        refine pt_iret eD_gave_32 (Nat.le_refl _) (Nat.le_refl _) ?_
        rw [show fGave q v d t = (q, v, -3) by unfold fGave; rw [if_neg (fun z => z ⟨c7, c17⟩), if_pos (by omega)]]
        exact ⟨rfl, rfl, ⟨to, dr, hC0⟩, fr.rf⟩
    · refine pt_ic eD_gave_20 ?_
      refine pt_iret eD_gave_21 (Nat.le_refl _) (Nat.le_refl _) ?_
      first
      | (have c7 := pwi_0 c7
         rw [show fGave q v d t = (q, v, -1) by unfold fGave; rw [if_pos (fun z => c7 z.1)]]
         exact ⟨rfl, rfl, ⟨to, dr, hC0⟩, fr.rf⟩)
      | (have c17 := pwi_0 c17
         rw [show fGave q v d t = (q, v, -1) by unfold fGave; rw [if_pos (fun z => c17 z.2)]]
         exact ⟨rfl, rfl, ⟨to, dr, hC0⟩, fr.rf⟩)
theorem xR_count (G : pd_G) (sz : Nat) (hp : pd_P) {q : Nat → Int → Int} {v : Nat → Int} (hM : MW hp q v) (hI : IN q v) {w : Int} (j_w : jR w) : pd_c G mR_count 0 [vr 178, vi w] sz hp (mPost hp sz (fCount q v w)) := by
  refine pd_con kR_count [some (vr 178), some (vi w)] rfl rfl (Nat.le_of_ble_eq_true rfl) ?_
  obtain ⟨⟨ig0, ig4⟩, ⟨id0, id1, id2, id3⟩, iB, iM, iU, iF, iS, iP, iI, ⟨is0, is4, isx⟩, ⟨im0, im4, imx⟩, it0, it1⟩ := hI
  have k_w := j_w
  unfold jR at k_w
  have hR := hM.1
  have h_goods := hM.w_goods
  have h_door := hM.w_door
  have h_known := hM.w_known
  refine pt_iload eR_count_0 rfl ?_
  rcases (show w = 0 ∨ w = 1 ∨ w = 2 ∨ w = 3 ∨ w = 4 ∨ w = 5 ∨ w = 6 ∨ (w < 0 ∨ 6 < w) by omega) with rfl | rfl | rfl | rfl | rfl | rfl | rfl | hsw
  · refine pt_tin (t := 44) (off := 43) eR_count_1 ⟨by decide, by decide⟩ (by decide) (by decide) rfl (by decide) ?_
    refine pt_aload eR_count_44 rfl ?_
    refine pt_get eR_count_45 hR rfl ?_
    refine pt_ic eR_count_48 ?_
    refine pt_iald eR_count_49 h_goods (by omega) (by omega) (by decide) ?_
    refine pt_iret eR_count_50 (Nat.le_refl _) (Nat.le_refl _) ?_
    exact ⟨rfl, rfl, hM, fr.rf⟩
  · refine pt_tin (t := 51) (off := 50) eR_count_1 ⟨by decide, by decide⟩ (by decide) (by decide) rfl (by decide) ?_
    refine pt_aload eR_count_51 rfl ?_
    refine pt_get eR_count_52 hR rfl ?_
    refine pt_iload eR_count_55 rfl ?_
    refine pt_ic eR_count_56 ?_
    refine pt_isub eR_count_57 ?_
    refine pt_iald eR_count_58 h_door (by omega) (by omega) (by decide) ?_
    refine pt_iret eR_count_59 (Nat.le_refl _) (Nat.le_refl _) ?_
    exact ⟨rfl, rfl, hM, fr.rf⟩
  · refine pt_tin (t := 51) (off := 50) eR_count_1 ⟨by decide, by decide⟩ (by decide) (by decide) rfl (by decide) ?_
    refine pt_aload eR_count_51 rfl ?_
    refine pt_get eR_count_52 hR rfl ?_
    refine pt_iload eR_count_55 rfl ?_
    refine pt_ic eR_count_56 ?_
    refine pt_isub eR_count_57 ?_
    refine pt_iald eR_count_58 h_door (by omega) (by omega) (by decide) ?_
    refine pt_iret eR_count_59 (Nat.le_refl _) (Nat.le_refl _) ?_
    exact ⟨rfl, rfl, hM, fr.rf⟩
  · refine pt_tin (t := 60) (off := 59) eR_count_1 ⟨by decide, by decide⟩ (by decide) (by decide) rfl (by decide) ?_
    refine pt_aload eR_count_60 rfl ?_
    refine pt_get eR_count_61 hR rfl ?_
    refine pt_iret eR_count_64 (Nat.le_refl _) (Nat.le_refl _) ?_
    exact ⟨rfl, rfl, hM, fr.rf⟩
  · refine pt_tin (t := 65) (off := 64) eR_count_1 ⟨by decide, by decide⟩ (by decide) (by decide) rfl (by decide) ?_
    refine pt_aload eR_count_65 rfl ?_
    refine pt_get eR_count_66 hR rfl ?_
    refine pt_iret eR_count_69 (Nat.le_refl _) (Nat.le_refl _) ?_
    exact ⟨rfl, rfl, hM, fr.rf⟩
  · refine pt_tin (t := 70) (off := 69) eR_count_1 ⟨by decide, by decide⟩ (by decide) (by decide) rfl (by decide) ?_
    refine pt_aload eR_count_70 rfl ?_
    refine pt_get eR_count_71 hR rfl ?_
    refine pt_ic eR_count_74 ?_
    refine pt_iald eR_count_75 h_known (by omega) (by omega) (by decide) ?_
    refine pt_iret eR_count_76 (Nat.le_refl _) (Nat.le_refl _) ?_
    exact ⟨rfl, rfl, hM, fr.rf⟩
  · refine pt_tin (t := 77) (off := 76) eR_count_1 ⟨by decide, by decide⟩ (by decide) (by decide) rfl (by decide) ?_
    refine pt_aload eR_count_77 rfl ?_
    refine pt_get eR_count_78 hR rfl ?_
    refine pt_iret eR_count_81 (Nat.le_refl _) (Nat.le_refl _) ?_
    exact ⟨rfl, rfl, hM, fr.rf⟩
  · refine pt_tout (t := 82) eR_count_1 ⟨by omega, by omega⟩ hsw (by decide) ?_
    refine pt_ic eR_count_82 ?_
    refine pt_iret eR_count_83 (Nat.le_refl _) (Nat.le_refl _) ?_
    rw [show fCount q v w = (q, v, -1) by unfold fCount; rw [if_neg (by omega), if_neg (by omega), if_neg (by omega), if_neg (by omega), if_neg (by omega), if_neg (by omega), if_neg (by omega)]]
    exact ⟨rfl, rfl, hM, fr.rf⟩
theorem xD_count (G : pd_G) (sz : Nat) (hp : pd_P) {to dr : Nat} {q : Nat → Int → Int} {v : Nat → Int} (hC : CW hp to dr q v) (hI : IN q v) {w : Int} (j_w : jR w) : pd_c G mD_count 0 [vr 1, vi w] sz hp (cPost hp sz (fCount q v w)) := by
  refine pd_con kD_count [some (vr 1), some (vi w)] rfl rfl (Nat.le_of_ble_eq_true rfl) ?_
  obtain ⟨⟨ig0, ig4⟩, ⟨id0, id1, id2, id3⟩, iB, iM, iU, iF, iS, iP, iI, ⟨is0, is4, isx⟩, ⟨im0, im4, imx⟩, it0, it1⟩ := hI
  have k_w := j_w
  unfold jR at k_w
  have hC0 := hC
  obtain ⟨hto, hDo, hTx, hHs, hHd, hLf, hI0, hI1, hGo, hPl⟩ := hC
  have hDo2 := hDo
  obtain ⟨hD, ⟨imf, hIm, him0, him1⟩, hKp, hSg, hSt, hGd, hGt⟩ := hDo2
  have hTx2 := hTx
  obtain ⟨tx, nu, ta, tb, tc, td, te, hT, hTb, hTn, htx⟩ := hTx2
  have hHs2 := hHs
  obtain ⟨fi, us, we, wo, stt, hHo, hag, hstt⟩ := hHs2
  have hHo2 := hHo
  obtain ⟨hH, hH1, hH2, hH3, hH4, hH5, hH6, hH7⟩ := hHo2
  have hLf2 := hLf
  obtain ⟨Q, hLi, hQ⟩ := hLf2
  have hL := hLi.1
  obtain ⟨hN, hNt, hNl, hNk⟩ := hLi.2.1
  refine pt_iload eD_count_0 rfl ?_
  rcases (show w = 0 ∨ w = 1 ∨ w = 2 ∨ w = 3 ∨ w = 4 ∨ w = 5 ∨ w = 6 ∨ (w < 0 ∨ 6 < w) by omega) with rfl | rfl | rfl | rfl | rfl | rfl | rfl | hsw
  · refine pt_tin (t := 44) (off := 43) eD_count_1 ⟨by decide, by decide⟩ (by decide) (by decide) rfl (by decide) ?_
    refine pt_aload eD_count_44 rfl ?_
    refine pt_get eD_count_45 hD rfl ?_
    refine pt_get eD_count_48 hH rfl ?_
    refine pt_iret eD_count_51 (Nat.le_refl _) (Nat.le_refl _) ?_
    exact ⟨rfl, rfl, ⟨to, dr, hC0⟩, fr.rf⟩
  · refine pt_tin (t := 52) (off := 51) eD_count_1 ⟨by decide, by decide⟩ (by decide) (by decide) rfl (by decide) ?_
    refine pt_aload eD_count_52 rfl ?_
    refine pt_get eD_count_53 hD rfl ?_
    refine pt_get eD_count_56 hH rfl ?_
    refine pt_iret eD_count_59 (Nat.le_refl _) (Nat.le_refl _) ?_
    exact ⟨rfl, rfl, ⟨to, dr, hC0⟩, fr.rf⟩
  · refine pt_tin (t := 60) (off := 59) eD_count_1 ⟨by decide, by decide⟩ (by decide) (by decide) rfl (by decide) ?_
    refine pt_aload eD_count_60 rfl ?_
    refine pt_get eD_count_61 hD rfl ?_
    refine pt_get eD_count_64 hH rfl ?_
    refine pt_iret eD_count_67 (Nat.le_refl _) (Nat.le_refl _) ?_
    exact ⟨rfl, rfl, ⟨to, dr, hC0⟩, fr.rf⟩
  · refine pt_tin (t := 68) (off := 67) eD_count_1 ⟨by decide, by decide⟩ (by decide) (by decide) rfl (by decide) ?_
    refine pt_aload eD_count_68 rfl ?_
    refine pt_get eD_count_69 hD rfl ?_
    refine pt_iret eD_count_72 (Nat.le_refl _) (Nat.le_refl _) ?_
    exact ⟨rfl, rfl, ⟨to, dr, hC0⟩, fr.rf⟩
  · refine pt_tin (t := 73) (off := 72) eD_count_1 ⟨by decide, by decide⟩ (by decide) (by decide) rfl (by decide) ?_
    refine pt_aload eD_count_73 rfl ?_
    refine pt_get eD_count_74 hD rfl ?_
    refine pt_iret eD_count_77 (Nat.le_refl _) (Nat.le_refl _) ?_
    exact ⟨rfl, rfl, ⟨to, dr, hC0⟩, fr.rf⟩
  · refine pt_tin (t := 78) (off := 77) eD_count_1 ⟨by decide, by decide⟩ (by decide) (by decide) rfl (by decide) ?_
    refine pt_aload eD_count_78 rfl ?_
    refine pt_get eD_count_79 hD rfl ?_
    refine pt_get eD_count_82 hL rfl ?_
    refine pt_iret eD_count_85 (Nat.le_refl _) (Nat.le_refl _) ?_
    exact ⟨rfl, rfl, ⟨to, dr, hC0⟩, fr.rf⟩
  · refine pt_tin (t := 86) (off := 85) eD_count_1 ⟨by decide, by decide⟩ (by decide) (by decide) rfl (by decide) ?_
    refine pt_aload eD_count_86 rfl ?_
    refine pt_get eD_count_87 hD rfl ?_
    refine pt_get eD_count_90 hT rfl ?_
    refine pt_iret eD_count_93 (Nat.le_refl _) (Nat.le_refl _) ?_
    exact ⟨rfl, rfl, ⟨to, dr, hC0⟩, fr.rf⟩
  · refine pt_tout (t := 94) eD_count_1 ⟨by omega, by omega⟩ hsw (by decide) ?_
    refine pt_ic eD_count_94 ?_
    refine pt_iret eD_count_95 (Nat.le_refl _) (Nat.le_refl _) ?_
    rw [show fCount q v w = (q, v, -1) by unfold fCount; rw [if_neg (by omega), if_neg (by omega), if_neg (by omega), if_neg (by omega), if_neg (by omega), if_neg (by omega), if_neg (by omega)]]
    exact ⟨rfl, rfl, ⟨to, dr, hC0⟩, fr.rf⟩
theorem xR_good (G : pd_G) (sz : Nat) (hp : pd_P) {q : Nat → Int → Int} {v : Nat → Int} (hM : MW hp q v) (hI : IN q v) {g : Int} (j_g : jR g) {w : Int} (j_w : jR w) : pd_c G mR_good 4 [vr 178, vi g, vi w] sz hp (mPost hp sz (fGood q v g w)) := by
  refine pd_con kR_good [some (vr 178), some (vi g), some (vi w)] rfl rfl (Nat.le_of_ble_eq_true rfl) ?_
  obtain ⟨⟨ig0, ig4⟩, ⟨id0, id1, id2, id3⟩, iB, iM, iU, iF, iS, iP, iI, ⟨is0, is4, isx⟩, ⟨im0, im4, imx⟩, it0, it1⟩ := hI
  have k_g := j_g
  unfold jR at k_g
  have k_w := j_w
  unfold jR at k_w
  have hR := hM.1
  have h_goods := hM.w_goods
  have h_first := hM.w_first
  have h_use := hM.w_use
  have h_weight := hM.w_weight
  have h_worth := hM.w_worth
  have h_now := hM.w_now
  have h_door := hM.w_door
  have h_missed := hM.w_missed
  refine pt_aload eR_good_0 rfl ?_
  refine pt_iload eR_good_1 rfl ?_
  refine pt_kv1r eR_good_2 (cR_isGood G sz _ hR h_goods j_g ig0 ig4) hR rfl (Nat.le_of_ble_eq_true rfl) (by decide) (Nat.le_refl _) (Nat.le_refl _) ?_
  refine pt_zne eR_good_5 (pwi_j _ _ _) (fun c5 => ?_) (fun c5 => ?_)
  · have c5 := pwi_1 c5
    refine pt_iload eR_good_10 rfl ?_
    rcases (show w = 0 ∨ w = 1 ∨ w = 2 ∨ w = 3 ∨ w = 4 ∨ w = 5 ∨ w = 6 ∨ (w < 0 ∨ 6 < w) by omega) with rfl | rfl | rfl | rfl | rfl | rfl | rfl | hsw
    · refine pt_tin (t := 52) (off := 41) eR_good_11 ⟨by decide, by decide⟩ (by decide) (by decide) rfl (by decide) ?_
      refine pt_aload eR_good_52 rfl ?_
      refine pt_get eR_good_53 hR rfl ?_
      refine pt_iload eR_good_56 rfl ?_
      refine pt_iald eR_good_57 h_first (by omega) (by omega) (by decide) ?_
      refine pt_iret eR_good_58 (Nat.le_refl _) (Nat.le_refl _) ?_
      rw [show fGood q v g _ = (q, v, _) by unfold fGood; rw [if_neg (fun z => z c5)]]
      exact ⟨rfl, rfl, hM, fr.rf⟩
    · refine pt_tin (t := 59) (off := 48) eR_good_11 ⟨by decide, by decide⟩ (by decide) (by decide) rfl (by decide) ?_
      refine pt_aload eR_good_59 rfl ?_
      refine pt_get eR_good_60 hR rfl ?_
      refine pt_iload eR_good_63 rfl ?_
      refine pt_iald eR_good_64 h_use (by omega) (by omega) (by decide) ?_
      refine pt_iret eR_good_65 (Nat.le_refl _) (Nat.le_refl _) ?_
      rw [show fGood q v g _ = (q, v, _) by unfold fGood; rw [if_neg (fun z => z c5)]]
      exact ⟨rfl, rfl, hM, fr.rf⟩
    · refine pt_tin (t := 66) (off := 55) eR_good_11 ⟨by decide, by decide⟩ (by decide) (by decide) rfl (by decide) ?_
      refine pt_aload eR_good_66 rfl ?_
      refine pt_get eR_good_67 hR rfl ?_
      refine pt_iload eR_good_70 rfl ?_
      refine pt_iald eR_good_71 h_weight (by omega) (by omega) (by decide) ?_
      refine pt_iret eR_good_72 (Nat.le_refl _) (Nat.le_refl _) ?_
      rw [show fGood q v g _ = (q, v, _) by unfold fGood; rw [if_neg (fun z => z c5)]]
      exact ⟨rfl, rfl, hM, fr.rf⟩
    · refine pt_tin (t := 73) (off := 62) eR_good_11 ⟨by decide, by decide⟩ (by decide) (by decide) rfl (by decide) ?_
      refine pt_aload eR_good_73 rfl ?_
      refine pt_get eR_good_74 hR rfl ?_
      refine pt_iload eR_good_77 rfl ?_
      refine pt_iald eR_good_78 h_worth (by omega) (by omega) (by decide) ?_
      refine pt_iret eR_good_79 (Nat.le_refl _) (Nat.le_refl _) ?_
      rw [show fGood q v g _ = (q, v, _) by unfold fGood; rw [if_neg (fun z => z c5)]]
      exact ⟨rfl, rfl, hM, fr.rf⟩
    · refine pt_tin (t := 80) (off := 69) eR_good_11 ⟨by decide, by decide⟩ (by decide) (by decide) rfl (by decide) ?_
      refine pt_aload eR_good_80 rfl ?_
      refine pt_get eR_good_81 hR rfl ?_
      refine pt_ic eR_good_84 ?_
      refine pt_iload eR_good_85 rfl ?_
      refine pt_iadd eR_good_86 ?_
      refine pt_iald eR_good_87 h_now (by omega) (by omega) (by decide) ?_
      refine pt_iret eR_good_88 (Nat.le_refl _) (Nat.le_refl _) ?_
      rw [show fGood q v g _ = (q, v, _) by unfold fGood; rw [if_neg (fun z => z c5)]]
      exact ⟨rfl, rfl, hM, fr.rf⟩
    · refine pt_tin (t := 89) (off := 78) eR_good_11 ⟨by decide, by decide⟩ (by decide) (by decide) rfl (by decide) ?_
      refine pt_aload eR_good_89 rfl ?_
      refine pt_get eR_good_90 hR rfl ?_
      refine pt_ic eR_good_93 ?_
      refine pt_iload eR_good_95 rfl ?_
      refine pt_iadd eR_good_96 ?_
      refine pt_iald eR_good_97 h_now (by omega) (by omega) (by decide) ?_
      refine pt_iret eR_good_98 (Nat.le_refl _) (Nat.le_refl _) ?_
      rw [show fGood q v g _ = (q, v, _) by unfold fGood; rw [if_neg (fun z => z c5)]]
      exact ⟨rfl, rfl, hM, fr.rf⟩
    · refine pt_tin (t := 99) (off := 88) eR_good_11 ⟨by decide, by decide⟩ (by decide) (by decide) rfl (by decide) ?_
      refine pt_aload eR_good_99 rfl ?_
      refine pt_aload eR_good_100 rfl ?_
      refine pt_get eR_good_101 hR rfl ?_
      refine pt_iload eR_good_104 rfl ?_
      refine pt_kv2r eR_good_105 (cR_canTake G sz _ hR h_door h_missed h_now id0 id1 id2 id3 iS.1 iS.2.1 iS.2.2.1 (by omega) (by omega)) hR rfl (Nat.le_of_ble_eq_true rfl) (by decide) (Nat.le_refl _) (Nat.le_refl _) ?_
      refine pt_iret eR_good_108 (Nat.le_refl _) (Nat.le_refl _) ?_
      rw [show fGood q v g _ = (q, v, _) by unfold fGood; rw [if_neg (fun z => z c5)]]
      exact ⟨rfl, rfl, hM, fr.rf⟩
    · refine pt_tout (t := 109) eR_good_11 ⟨by omega, by omega⟩ hsw (by decide) ?_
      refine pt_ic eR_good_109 ?_
      refine pt_iret eR_good_110 (Nat.le_refl _) (Nat.le_refl _) ?_
      rw [show fGood q v g w = (q, v, -1) by unfold fGood; rw [if_neg (fun z => z c5), if_neg (by omega), if_neg (by omega), if_neg (by omega), if_neg (by omega), if_neg (by omega), if_neg (by omega), if_neg (by omega)]]
      exact ⟨rfl, rfl, hM, fr.rf⟩
  · refine pt_ic eR_good_8 ?_
    refine pt_iret eR_good_9 (Nat.le_refl _) (Nat.le_refl _) ?_
    have c5 := pwi_0 c5
    rw [show fGood q v g w = (q, v, -1) by unfold fGood; rw [if_pos c5]]
    exact ⟨rfl, rfl, hM, fr.rf⟩
theorem xD_good (G : pd_G) (sz : Nat) (hp : pd_P) {to dr : Nat} {q : Nat → Int → Int} {v : Nat → Int} (hC : CW hp to dr q v) (hI : IN q v) {g : Int} (j_g : jR g) {w : Int} (j_w : jR w) : pd_c G mD_good 5 [vr 1, vi g, vi w] sz hp (cPost hp sz (fGood q v g w)) := by
  refine pd_con kD_good [some (vr 1), some (vi g), some (vi w)] rfl rfl (Nat.le_of_ble_eq_true rfl) ?_
  obtain ⟨⟨ig0, ig4⟩, ⟨id0, id1, id2, id3⟩, iB, iM, iU, iF, iS, iP, iI, ⟨is0, is4, isx⟩, ⟨im0, im4, imx⟩, it0, it1⟩ := hI
  have k_g := j_g
  unfold jR at k_g
  have k_w := j_w
  unfold jR at k_w
  have hC0 := hC
  obtain ⟨hto, hDo, hTx, hHs, hHd, hLf, hI0, hI1, hGo, hPl⟩ := hC
  have hDo2 := hDo
  obtain ⟨hD, ⟨imf, hIm, him0, him1⟩, hKp, hSg, hSt, hGd, hGt⟩ := hDo2
  have hHs2 := hHs
  obtain ⟨fi, us, we, wo, stt, hHo, hag, hstt⟩ := hHs2
  have hHo2 := hHo
  obtain ⟨hH, hH1, hH2, hH3, hH4, hH5, hH6, hH7⟩ := hHo2
  have hLf2 := hLf
  obtain ⟨Q, hLi, hQ⟩ := hLf2
  have hL := hLi.1
  obtain ⟨hN, hNt, hNl, hNk⟩ := hLi.2.1
  refine pt_aload eD_good_0 rfl ?_
  refine pt_get eD_good_1 hD rfl ?_
  refine pt_iload eD_good_4 rfl ?_
  refine pt_kv1r eD_good_5 (cH_has G sz _ hH j_g ig0 ig4) hH rfl (Nat.le_of_ble_eq_true rfl) (by decide) (Nat.le_refl _) (Nat.le_refl _) ?_
  refine pt_zne eD_good_8 (pwi_j _ _ _) (fun c8 => ?_) (fun c8 => ?_)
  · have c8 := pwi_1 c8
    refine pt_iload eD_good_13 rfl ?_
    rcases (show w = 0 ∨ w = 1 ∨ w = 2 ∨ w = 3 ∨ w = 4 ∨ w = 5 ∨ w = 6 ∨ (w < 0 ∨ 6 < w) by omega) with rfl | rfl | rfl | rfl | rfl | rfl | rfl | hsw
    · refine pt_tin (t := 56) (off := 42) eD_good_14 ⟨by decide, by decide⟩ (by decide) (by decide) rfl (by decide) ?_
      refine pt_aload eD_good_56 rfl ?_
      refine pt_get eD_good_57 hD rfl ?_
      refine pt_get eD_good_60 hH rfl ?_
      refine pt_iload eD_good_63 rfl ?_
      refine pt_iald eD_good_64 hH1 (by omega) (by omega) (by decide) ?_
      refine pt_iret eD_good_65 (Nat.le_refl _) (Nat.le_refl _) ?_
      have e9 := (hag g c8.1 (by omega)).1
      rw [e9]
      rw [show fGood q v g _ = (q, v, _) by unfold fGood; rw [if_neg (fun z => z c8)]]
      exact ⟨rfl, rfl, ⟨to, dr, hC0⟩, fr.rf⟩
    · refine pt_tin (t := 66) (off := 52) eD_good_14 ⟨by decide, by decide⟩ (by decide) (by decide) rfl (by decide) ?_
      refine pt_aload eD_good_66 rfl ?_
      refine pt_get eD_good_67 hD rfl ?_
      refine pt_get eD_good_70 hH rfl ?_
      refine pt_iload eD_good_73 rfl ?_
      refine pt_iald eD_good_74 hH2 (by omega) (by omega) (by decide) ?_
      refine pt_iret eD_good_75 (Nat.le_refl _) (Nat.le_refl _) ?_
      have e9 := (hag g c8.1 (by omega)).2.1
      rw [e9]
      rw [show fGood q v g _ = (q, v, _) by unfold fGood; rw [if_neg (fun z => z c8)]]
      exact ⟨rfl, rfl, ⟨to, dr, hC0⟩, fr.rf⟩
    · refine pt_tin (t := 76) (off := 62) eD_good_14 ⟨by decide, by decide⟩ (by decide) (by decide) rfl (by decide) ?_
      refine pt_aload eD_good_76 rfl ?_
      refine pt_get eD_good_77 hD rfl ?_
      refine pt_get eD_good_80 hH rfl ?_
      refine pt_iload eD_good_83 rfl ?_
      refine pt_iald eD_good_84 hH3 (by omega) (by omega) (by decide) ?_
      refine pt_iret eD_good_85 (Nat.le_refl _) (Nat.le_refl _) ?_
      have e9 := (hag g c8.1 (by omega)).2.2.1
      rw [e9]
      rw [show fGood q v g _ = (q, v, _) by unfold fGood; rw [if_neg (fun z => z c8)]]
      exact ⟨rfl, rfl, ⟨to, dr, hC0⟩, fr.rf⟩
    · refine pt_tin (t := 86) (off := 72) eD_good_14 ⟨by decide, by decide⟩ (by decide) (by decide) rfl (by decide) ?_
      refine pt_aload eD_good_86 rfl ?_
      refine pt_get eD_good_87 hD rfl ?_
      refine pt_get eD_good_90 hH rfl ?_
      refine pt_iload eD_good_93 rfl ?_
      refine pt_iald eD_good_94 hH4 (by omega) (by omega) (by decide) ?_
      refine pt_iret eD_good_95 (Nat.le_refl _) (Nat.le_refl _) ?_
      have e9 := (hag g c8.1 (by omega)).2.2.2
      rw [e9]
      rw [show fGood q v g _ = (q, v, _) by unfold fGood; rw [if_neg (fun z => z c8)]]
      exact ⟨rfl, rfl, ⟨to, dr, hC0⟩, fr.rf⟩
    · refine pt_tin (t := 96) (off := 82) eD_good_14 ⟨by decide, by decide⟩ (by decide) (by decide) rfl (by decide) ?_
      refine pt_aload eD_good_96 rfl ?_
      refine pt_get eD_good_97 hD rfl ?_
      refine pt_get eD_good_100 hL rfl ?_
      refine pt_get eD_good_103 hN rfl ?_
      refine pt_iload eD_good_106 rfl ?_
      refine pt_iald eD_good_107 hNt (by omega) (by omega) (by decide) ?_
      refine pt_iret eD_good_108 (Nat.le_refl _) (Nat.le_refl _) ?_
      rw [show fGood q v g _ = (q, v, _) by unfold fGood; rw [if_neg (fun z => z c8)]]
      exact ⟨rfl, rfl, ⟨to, dr, hC0⟩, fr.rf⟩
    · refine pt_tin (t := 109) (off := 95) eD_good_14 ⟨by decide, by decide⟩ (by decide) (by decide) rfl (by decide) ?_
      refine pt_aload eD_good_109 rfl ?_
      refine pt_get eD_good_110 hD rfl ?_
      refine pt_get eD_good_113 hL rfl ?_
      refine pt_get eD_good_116 hN rfl ?_
      refine pt_iload eD_good_119 rfl ?_
      refine pt_iald eD_good_120 hNl (by omega) (by omega) (by decide) ?_
      refine pt_iret eD_good_121 (Nat.le_refl _) (Nat.le_refl _) ?_
      rw [show fGood q v g _ = (q, v, _) by unfold fGood; rw [if_neg (fun z => z c8)]]
      exact ⟨rfl, rfl, ⟨to, dr, hC0⟩, fr.rf⟩
    · refine pt_tin (t := 122) (off := 108) eD_good_14 ⟨by decide, by decide⟩ (by decide) (by decide) rfl (by decide) ?_
      refine pt_aload eD_good_122 rfl ?_
      refine pt_get eD_good_123 hD rfl ?_
      refine pt_get eD_good_126 hL rfl ?_
      refine pt_aload eD_good_129 rfl ?_
      refine pt_get eD_good_130 hD rfl ?_
      refine pt_iload eD_good_133 rfl ?_
      refine pt_kv2r eD_good_134 (cS_open G sz _ hN hNk hH hH6 id0 id1 id2 id3 iS.1 iS.2.1 iS.2.2.1 (by omega) (by omega)) hN rfl (Nat.le_of_ble_eq_true rfl) (by decide) (Nat.le_refl _) (Nat.le_refl _) ?_
      refine pt_iret eD_good_137 (Nat.le_refl _) (Nat.le_refl _) ?_
      rw [show fGood q v g _ = (q, v, _) by unfold fGood; rw [if_neg (fun z => z c8)]]
      exact ⟨rfl, rfl, ⟨to, dr, hC0⟩, fr.rf⟩
    · refine pt_tout (t := 138) eD_good_14 ⟨by omega, by omega⟩ hsw (by decide) ?_
      refine pt_ic eD_good_138 ?_
      refine pt_iret eD_good_139 (Nat.le_refl _) (Nat.le_refl _) ?_
      rw [show fGood q v g w = (q, v, -1) by unfold fGood; rw [if_neg (fun z => z c8), if_neg (by omega), if_neg (by omega), if_neg (by omega), if_neg (by omega), if_neg (by omega), if_neg (by omega), if_neg (by omega)]]
      exact ⟨rfl, rfl, ⟨to, dr, hC0⟩, fr.rf⟩
  · refine pt_ic eD_good_11 ?_
    refine pt_iret eD_good_12 (Nat.le_refl _) (Nat.le_refl _) ?_
    have c8 := pwi_0 c8
    rw [show fGood q v g w = (q, v, -1) by unfold fGood; rw [if_pos c8]]
    exact ⟨rfl, rfl, ⟨to, dr, hC0⟩, fr.rf⟩
theorem xR_day (G : pd_G) (sz : Nat) (hp : pd_P) {q : Nat → Int → Int} {v : Nat → Int} (hM : MW hp q v) (hI : IN q v) {d : Int} (j_d : jR d) {g : Int} (j_g : jR g) {w : Int} (j_w : jR w) : pd_c G mR_day 2 [vr 178, vi d, vi g, vi w] sz hp (mPost hp sz (fDay q v d g w)) := by
  refine pd_con kR_day [some (vr 178), some (vi d), some (vi g), some (vi w)] rfl rfl (Nat.le_of_ble_eq_true rfl) ?_
  obtain ⟨⟨ig0, ig4⟩, ⟨id0, id1, id2, id3⟩, iB, iM, iU, iF, iS, iP, iI, ⟨is0, is4, isx⟩, ⟨im0, im4, imx⟩, it0, it1⟩ := hI
  have k_d := j_d
  unfold jR at k_d
  have k_g := j_g
  unfold jR at k_g
  have k_w := j_w
  unfold jR at k_w
  have hR := hM.1
  have h_goods := hM.w_goods
  have h_brought := hM.w_brought
  have h_missed := hM.w_missed
  have h_now := hM.w_now
  refine pt_iload eR_day_0 rfl ?_
  refine pt_ks1r eR_day_1 (cR_isDay G sz _ j_d) (Nat.le_of_ble_eq_true rfl) (by decide) (Nat.le_refl _) (Nat.le_refl _) ?_
  refine pt_zeq eR_day_4 (pwi_j _ _ _) (fun c4 => ?_) (fun c4 => ?_)
  · refine pt_ic eR_day_15 ?_
    refine pt_iret eR_day_16 (Nat.le_refl _) (Nat.le_refl _) ?_
    first
    | (have c4 := pwi_0 c4
       rw [show fDay q v d g w = (q, v, -1) by unfold fDay; rw [if_pos (fun z => c4 z.1)]]
       exact ⟨rfl, rfl, hM, fr.rf⟩)
    | (have c12 := pwi_0 c12
       rw [show fDay q v d g w = (q, v, -1) by unfold fDay; rw [if_pos (fun z => c12 z.2)]]
       exact ⟨rfl, rfl, hM, fr.rf⟩)
  · have c4 := pwi_1 c4
    refine pt_aload eR_day_7 rfl ?_
    refine pt_iload eR_day_8 rfl ?_
    refine pt_kv1r eR_day_9 (cR_isGood G sz _ hR h_goods j_g ig0 ig4) hR rfl (Nat.le_of_ble_eq_true rfl) (by decide) (Nat.le_refl _) (Nat.le_refl _) ?_
    refine pt_zne eR_day_12 (pwi_j _ _ _) (fun c12 => ?_) (fun c12 => ?_)
    · have c12 := pwi_1 c12
      refine pt_iload eR_day_17 rfl ?_
      rcases (show w = 0 ∨ w = 1 ∨ w = 2 ∨ (w < 0 ∨ 2 < w) by omega) with rfl | rfl | rfl | hsw
      · refine pt_tin (t := 44) (off := 26) eR_day_18 ⟨by decide, by decide⟩ (by decide) (by decide) rfl (by decide) ?_
        refine pt_aload eR_day_44 rfl ?_
        refine pt_get eR_day_45 hR rfl ?_
        refine pt_ic eR_day_48 ?_
        refine pt_iload eR_day_49 rfl ?_
        refine pt_imul eR_day_50 ?_
        refine pt_iload eR_day_51 rfl ?_
        refine pt_iadd eR_day_52 ?_
        refine pt_iald eR_day_53 h_brought (by omega) (by omega) (by decide) ?_
        refine pt_iret eR_day_54 (Nat.le_refl _) (Nat.le_refl _) ?_
        rw [show fDay q v d g _ = (q, v, _) by unfold fDay; rw [if_neg (fun z => z ⟨c4, c12⟩)]]
        exact ⟨rfl, rfl, hM, fr.rf⟩
      · refine pt_tin (t := 55) (off := 37) eR_day_18 ⟨by decide, by decide⟩ (by decide) (by decide) rfl (by decide) ?_
        refine pt_aload eR_day_55 rfl ?_
        refine pt_get eR_day_56 hR rfl ?_
        refine pt_ic eR_day_59 ?_
        refine pt_iload eR_day_60 rfl ?_
        refine pt_imul eR_day_61 ?_
        refine pt_iload eR_day_62 rfl ?_
        refine pt_iadd eR_day_63 ?_
        refine pt_iald eR_day_64 h_missed (by omega) (by omega) (by decide) ?_
        refine pt_iret eR_day_65 (Nat.le_refl _) (Nat.le_refl _) ?_
        rw [show fDay q v d g _ = (q, v, _) by unfold fDay; rw [if_neg (fun z => z ⟨c4, c12⟩)]]
        exact ⟨rfl, rfl, hM, fr.rf⟩
      · refine pt_tin (t := 66) (off := 48) eR_day_18 ⟨by decide, by decide⟩ (by decide) (by decide) rfl (by decide) ?_
        refine pt_aload eR_day_66 rfl ?_
        refine pt_get eR_day_67 hR rfl ?_
        refine pt_ic eR_day_70 ?_
        refine pt_ic eR_day_72 ?_
        refine pt_iload eR_day_73 rfl ?_
        refine pt_imul eR_day_74 ?_
        refine pt_iadd eR_day_75 ?_
        refine pt_iload eR_day_76 rfl ?_
        refine pt_iadd eR_day_77 ?_
        refine pt_iald eR_day_78 h_now (by omega) (by omega) (by decide) ?_
        refine pt_iret eR_day_79 (Nat.le_refl _) (Nat.le_refl _) ?_
        rw [show fDay q v d g _ = (q, v, _) by unfold fDay; rw [if_neg (fun z => z ⟨c4, c12⟩)]]
        exact ⟨rfl, rfl, hM, fr.rf⟩
      · refine pt_tout (t := 80) eR_day_18 ⟨by omega, by omega⟩ hsw (by decide) ?_
        refine pt_ic eR_day_80 ?_
        refine pt_iret eR_day_81 (Nat.le_refl _) (Nat.le_refl _) ?_
        rw [show fDay q v d g w = (q, v, -1) by unfold fDay; rw [if_neg (fun z => z ⟨c4, c12⟩), if_neg (by omega), if_neg (by omega), if_neg (by omega)]]
        exact ⟨rfl, rfl, hM, fr.rf⟩
    · refine pt_ic eR_day_15 ?_
      refine pt_iret eR_day_16 (Nat.le_refl _) (Nat.le_refl _) ?_
      first
      | (have c4 := pwi_0 c4
         rw [show fDay q v d g w = (q, v, -1) by unfold fDay; rw [if_pos (fun z => c4 z.1)]]
         exact ⟨rfl, rfl, hM, fr.rf⟩)
      | (have c12 := pwi_0 c12
         rw [show fDay q v d g w = (q, v, -1) by unfold fDay; rw [if_pos (fun z => c12 z.2)]]
         exact ⟨rfl, rfl, hM, fr.rf⟩)
theorem xD_day (G : pd_G) (sz : Nat) (hp : pd_P) {to dr : Nat} {q : Nat → Int → Int} {v : Nat → Int} (hC : CW hp to dr q v) (hI : IN q v) {d : Int} (j_d : jR d) {g : Int} (j_g : jR g) {w : Int} (j_w : jR w) : pd_c G mD_day 2 [vr 1, vi d, vi g, vi w] sz hp (cPost hp sz (fDay q v d g w)) := by
  refine pd_con kD_day [some (vr 1), some (vi d), some (vi g), some (vi w)] rfl rfl (Nat.le_of_ble_eq_true rfl) ?_
  obtain ⟨⟨ig0, ig4⟩, ⟨id0, id1, id2, id3⟩, iB, iM, iU, iF, iS, iP, iI, ⟨is0, is4, isx⟩, ⟨im0, im4, imx⟩, it0, it1⟩ := hI
  have k_d := j_d
  unfold jR at k_d
  have k_g := j_g
  unfold jR at k_g
  have k_w := j_w
  unfold jR at k_w
  have hC0 := hC
  obtain ⟨hto, hDo, hTx, hHs, hHd, hLf, hI0, hI1, hGo, hPl⟩ := hC
  have hDo2 := hDo
  obtain ⟨hD, ⟨imf, hIm, him0, him1⟩, hKp, hSg, hSt, hGd, hGt⟩ := hDo2
  have hHs2 := hHs
  obtain ⟨fi, us, we, wo, stt, hHo, hag, hstt⟩ := hHs2
  have hHo2 := hHo
  obtain ⟨hH, hH1, hH2, hH3, hH4, hH5, hH6, hH7⟩ := hHo2
  have hLf2 := hLf
  obtain ⟨Q, hLi, hQ⟩ := hLf2
  have hL := hLi.1
  obtain ⟨hN, hNt, hNl, hNk⟩ := hLi.2.1
  refine pt_iload eD_day_0 rfl ?_
  refine pt_ic eD_day_1 ?_
  refine pt_ic eD_day_2 ?_
  refine pt_ks3r eD_day_4 (cD_within G sz _ (by unfold jR at *; omega) (by unfold jR at *; omega) (by unfold jR at *; omega)) (Nat.le_of_ble_eq_true rfl) (by decide) (Nat.le_refl _) (Nat.le_refl _) ?_
  refine pt_zeq eD_day_7 (pwi_j _ _ _) (fun c7 => ?_) (fun c7 => ?_)
  · refine pt_ic eD_day_21 ?_
    refine pt_iret eD_day_22 (Nat.le_refl _) (Nat.le_refl _) ?_
    first
    | (have c7 := pwi_0 c7
       rw [show fDay q v d g w = (q, v, -1) by unfold fDay; rw [if_pos (fun z => c7 z.1)]]
       exact ⟨rfl, rfl, ⟨to, dr, hC0⟩, fr.rf⟩)
    | (have c18 := pwi_0 c18
       rw [show fDay q v d g w = (q, v, -1) by unfold fDay; rw [if_pos (fun z => c18 z.2)]]
       exact ⟨rfl, rfl, ⟨to, dr, hC0⟩, fr.rf⟩)
  · have c7 := pwi_1 c7
    refine pt_aload eD_day_10 rfl ?_
    refine pt_get eD_day_11 hD rfl ?_
    refine pt_iload eD_day_14 rfl ?_
    refine pt_kv1r eD_day_15 (cH_has G sz _ hH j_g ig0 ig4) hH rfl (Nat.le_of_ble_eq_true rfl) (by decide) (Nat.le_refl _) (Nat.le_refl _) ?_
    refine pt_zne eD_day_18 (pwi_j _ _ _) (fun c18 => ?_) (fun c18 => ?_)
    · have c18 := pwi_1 c18
      refine pt_iload eD_day_23 rfl ?_
      rcases (show w = 0 ∨ w = 1 ∨ w = 2 ∨ (w < 0 ∨ 2 < w) by omega) with rfl | rfl | rfl | hsw
      · refine pt_tin (t := 52) (off := 28) eD_day_24 ⟨by decide, by decide⟩ (by decide) (by decide) rfl (by decide) ?_
        refine pt_aload eD_day_52 rfl ?_
        refine pt_get eD_day_53 hD rfl ?_
        refine pt_get eD_day_56 hH rfl ?_
        refine pt_iload eD_day_59 rfl ?_
        refine pt_ic eD_day_60 ?_
        refine pt_imul eD_day_61 ?_
        refine pt_iload eD_day_62 rfl ?_
        refine pt_iadd eD_day_63 ?_
        refine pt_iald eD_day_64 hH5 (by omega) (by omega) (by decide) ?_
        refine pt_iret eD_day_65 (Nat.le_refl _) (Nat.le_refl _) ?_
        have e4 : d * 4 + g = 4 * d + g := by omega
        rw [e4]
        rw [show fDay q v d g _ = (q, v, _) by unfold fDay; rw [if_neg (fun z => z ⟨c7, c18⟩)]]
        exact ⟨rfl, rfl, ⟨to, dr, hC0⟩, fr.rf⟩
      · refine pt_tin (t := 66) (off := 42) eD_day_24 ⟨by decide, by decide⟩ (by decide) (by decide) rfl (by decide) ?_
        refine pt_aload eD_day_66 rfl ?_
        refine pt_get eD_day_67 hD rfl ?_
        refine pt_get eD_day_70 hH rfl ?_
        refine pt_iload eD_day_73 rfl ?_
        refine pt_ic eD_day_74 ?_
        refine pt_imul eD_day_75 ?_
        refine pt_iload eD_day_76 rfl ?_
        refine pt_iadd eD_day_77 ?_
        refine pt_iald eD_day_78 hH6 (by omega) (by omega) (by decide) ?_
        refine pt_iret eD_day_79 (Nat.le_refl _) (Nat.le_refl _) ?_
        have e4 : d * 4 + g = 4 * d + g := by omega
        rw [e4]
        rw [show fDay q v d g _ = (q, v, _) by unfold fDay; rw [if_neg (fun z => z ⟨c7, c18⟩)]]
        exact ⟨rfl, rfl, ⟨to, dr, hC0⟩, fr.rf⟩
      · refine pt_tin (t := 80) (off := 56) eD_day_24 ⟨by decide, by decide⟩ (by decide) (by decide) rfl (by decide) ?_
        refine pt_aload eD_day_80 rfl ?_
        refine pt_get eD_day_81 hD rfl ?_
        refine pt_get eD_day_84 hL rfl ?_
        refine pt_get eD_day_87 hN rfl ?_
        refine pt_iload eD_day_90 rfl ?_
        refine pt_ic eD_day_91 ?_
        refine pt_imul eD_day_92 ?_
        refine pt_iload eD_day_93 rfl ?_
        refine pt_iadd eD_day_94 ?_
        refine pt_iald eD_day_95 hNk (by omega) (by omega) (by decide) ?_
        refine pt_iret eD_day_96 (Nat.le_refl _) (Nat.le_refl _) ?_
        have e4 : d * 4 + g = 4 * d + g := by omega
        rw [show 10 + (d * 4 + g) = 10 + 4 * d + g by omega]
        rw [show fDay q v d g _ = (q, v, _) by unfold fDay; rw [if_neg (fun z => z ⟨c7, c18⟩)]]
        exact ⟨rfl, rfl, ⟨to, dr, hC0⟩, fr.rf⟩
      · refine pt_tout (t := 97) eD_day_24 ⟨by omega, by omega⟩ hsw (by decide) ?_
        refine pt_ic eD_day_97 ?_
        refine pt_iret eD_day_98 (Nat.le_refl _) (Nat.le_refl _) ?_
        rw [show fDay q v d g w = (q, v, -1) by unfold fDay; rw [if_neg (fun z => z ⟨c7, c18⟩), if_neg (by omega), if_neg (by omega), if_neg (by omega)]]
        exact ⟨rfl, rfl, ⟨to, dr, hC0⟩, fr.rf⟩
    · refine pt_ic eD_day_21 ?_
      refine pt_iret eD_day_22 (Nat.le_refl _) (Nat.le_refl _) ?_
      first
      | (have c7 := pwi_0 c7
         rw [show fDay q v d g w = (q, v, -1) by unfold fDay; rw [if_pos (fun z => c7 z.1)]]
         exact ⟨rfl, rfl, ⟨to, dr, hC0⟩, fr.rf⟩)
      | (have c18 := pwi_0 c18
         rw [show fDay q v d g w = (q, v, -1) by unfold fDay; rw [if_pos (fun z => c18 z.2)]]
         exact ⟨rfl, rfl, ⟨to, dr, hC0⟩, fr.rf⟩)
