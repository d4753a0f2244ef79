theorem xR_fed (G : pd_G) (sz : Nat) (hp : pd_P) {q : Nat → Int → Int} {v : Nat → Int} (hM : MW hp q v) (hI : IN q v) {n : Int} (j_n : jR n) {k : Int} (j_k : jR k) : pd_c G mR_fed 5 [vr 178, vi n, vi k] sz hp (mPosG hp sz q v (rFed q n k)) := by
  refine pd_con kR_fed [some (vr 178), some (vi n), some (vi k), none, none, none, none, none, none] rfl rfl (Nat.le_of_ble_eq_true rfl) ?_
  obtain ⟨⟨ig0, ig4⟩, ⟨id0, id1, id2, id3⟩, iB, iM, iU, iF, iS, iP, iI, ⟨is0, is4, isx⟩, ⟨im0, im4, imx⟩, it0, it1⟩ := hI
  have k_n := j_n
  unfold jR at k_n
  have k_k := j_k
  unfold jR at k_k
  have hR := hM.1
  have h_goods := hM.w_goods
  have h_brought := hM.w_brought
  have h_missed := hM.w_missed
  have h_use := hM.w_use
  have h_door := hM.w_door
  have h_now := hM.w_now
  have h_tried := hM.w_tried
  refine pt_iload eR_fed_0 rfl ?_
  refine pt_ic eR_fed_1 ?_
  refine pt_ic eR_fed_2 ?_
  refine pt_ks3r eR_fed_4 (cR_in G sz _ (by unfold jR at *; omega) (by unfold jR at *; omega) (by unfold jR at *; omega)) (Nat.le_of_ble_eq_true rfl) (by decide) (Nat.le_refl _) (Nat.le_refl _) ?_
  refine pt_zeq eR_fed_7 (pwi_j _ _ _) (fun c7 => ?_) (fun c7 => ?_)
  · refine pt_ic eR_fed_19 ?_
    refine pt_iret eR_fed_20 (Nat.le_refl _) (Nat.le_refl _) ?_
    first
    | (have c7 := pwi_0 c7
       rw [show rFed q n k = -1 by unfold rFed; rw [if_pos (fun z => c7 z.1)]]
       exact mPosG_0 hM)
    | (have c16 := pwi_0 c16
       rw [show rFed q n k = -1 by unfold rFed; rw [if_pos (fun z => c16 z.2)]]
       exact mPosG_0 hM)
  · have c7 := pwi_1 c7
    refine pt_iload eR_fed_10 rfl ?_
    refine pt_ic eR_fed_11 ?_
    refine pt_ic eR_fed_12 ?_
    refine pt_ks3r eR_fed_13 (cR_in G sz _ (by unfold jR at *; omega) (by unfold jR at *; omega) (by unfold jR at *; omega)) (Nat.le_of_ble_eq_true rfl) (by decide) (Nat.le_refl _) (Nat.le_refl _) ?_
    refine pt_zne eR_fed_16 (pwi_j _ _ _) (fun c16 => ?_) (fun c16 => ?_)
    · have c16 := pwi_1 c16
      have i0 := iS.1
      have i20 := iS.2.1
      have hmn : ((fmn (q 17) n : Nat) : Int) = min (20 - q 17 0) n := Int.toNat_of_nonneg (by omega)
      have hrf : rFed q n k = if k = -1 then (fo (nxf (q 5) (q 8) (q 9) (q 17) (q 2 0) (q 2 1)) (q 3 0) (fmn (q 17) n) (fun g => q 17 (2 + g)) (5 ^ fmn (q 17) n)).1 else if (fo (nxf (q 5) (q 8) (q 9) (q 17) (q 2 0) (q 2 1)) (q 3 0) (fmn (q 17) n) (fun g => q 17 (2 + g)) (5 ^ fmn (q 17) n)).1 = -9 ∨ fmn (q 17) n ≤ k then -9 else fdg (fo (nxf (q 5) (q 8) (q 9) (q 17) (q 2 0) (q 2 1)) (q 3 0) (fmn (q 17) n) (fun g => q 17 (2 + g)) (5 ^ fmn (q 17) n)).2.toNat (fmn (q 17) n - 1 - k.toNat) := by unfold rFed; rw [if_neg (fun z => z ⟨c7, c16⟩)]
      refine pt_ic eR_fed_21 ?_
      refine pt_aload eR_fed_23 rfl ?_
      refine pt_get eR_fed_24 hR rfl ?_
      refine pt_ic eR_fed_27 ?_
      refine pt_iald eR_fed_28 h_now (by omega) (by omega) (by decide) ?_
      refine pt_isub eR_fed_29 ?_
      refine pt_iload eR_fed_30 rfl ?_
      refine pt_cge eR_fed_31 ⟨by omega, by omega⟩ ⟨by omega, by omega⟩ (fun c31 => ?_) (fun c31 => ?_)
      · refine pt_iload eR_fed_46 rfl ?_
        refine pt_istore3 eR_fed_47 rfl ?_
        refine pt_ic eR_fed_48 ?_
        refine pt_istore4 eR_fed_49 rfl ?_
        refine pt_ic eR_fed_51 ?_
        refine pt_istore5 eR_fed_52 rfl ?_
        have hm6 : fmn (q 17) n ≤ 6 := by omega
        have hmd : q 17 0 + (fmn (q 17) n : Nat) ≤ 20 := by omega
        refine pt_lve [some (vr 178), some (vi n), some (vi k), some (vi ((fmn (q 17) n : Nat) : Int)), some (vi ((5 ^ (0 : Int).toNat : Nat) : Int)), some (vi 0), none, none, none] (by rw [hmn]; first | (rw [show min (20 - q 17 0) n = 20 - q 17 0 by omega]; rfl) | (rw [show min (20 - q 17 0) n = n by omega]; rfl)) ?_
        generalize hgm : fmn (q 17) n = M at hmn hrf hm6 hmd ⊢
        refine lR_fe1 G sz hp (M := M) (nn := n) (k := k) hm6 (fun hp5 he5 => ?_) M 0 hp (by omega) (by omega) rfl
        rw [he5]
        refine pt_ic eR_fed_72 ?_
        refine pt_istore5 eR_fed_74 rfl ?_
        refine pt_ic eR_fed_76 ?_
        refine pt_istore6 eR_fed_78 rfl ?_
        refine pt_ic eR_fed_80 ?_
        refine pt_istore7 eR_fed_81 rfl ?_
        refine lR_fe2 G sz hp hR h_goods h_brought h_missed h_use ig0 ig4 iB iM iU h_door id0 id1 id2 id3 iS (M := M) (nn := n) (k := k) hm6 hmd h_now (fun l7 l8 hp6 hI6 => ?_) (5 ^ M) 0 none hp (by omega) ⟨_, pu_self h_tried⟩
        obtain ⟨f6, hI6⟩ := hI6
        have hfr := fo_r (N := nxf (q 5) (q 8) (q 9) (q 17) (q 2 0) (q 2 1)) (gd := q 3 0) (m := M) (s := fun g => q 17 (2 + g)) (5 ^ M)
        have p2 : 5 ^ M ≤ 15625 := Nat.pow_le_pow_right (j := 6) (by decide) hm6
        generalize fo (nxf (q 5) (q 8) (q 9) (q 17) (q 2 0) (q 2 1)) (q 3 0) M (fun g => q 17 (2 + g)) (5 ^ M) = FO at hfr hrf ⊢
        obtain ⟨fw, fd⟩ := FO
        have hfr2 : (fw = -9 ∧ fd = -9) ∨ ((0 ≤ fw ∧ fw ≤ M) ∧ (0 ≤ fd ∧ fd < ((5 ^ M : Nat) : Int))) := hfr
        have hrf2 : rFed q n k = if k = -1 then fw else if fw = -9 ∨ (M : Int) ≤ k then -9 else fdg fd.toNat (M - 1 - k.toNat) := hrf
        clear hfr hrf
        refine pt_iload eR_fed_139 rfl ?_
        refine pt_ic eR_fed_140 ?_
        refine pt_ceq eR_fed_141 ⟨by omega, by omega⟩ ⟨by omega, by omega⟩ (fun c141 => ?_) (fun c141 => ?_)
        · refine pt_iload eR_fed_156 rfl ?_
          refine pt_ic eR_fed_157 ?_
          refine pt_cne eR_fed_158 ⟨by omega, by omega⟩ ⟨by omega, by omega⟩ (fun c158 => ?_) (fun c158 => ?_)
          · refine pt_ic eR_fed_166 ?_
            refine pt_iret eR_fed_168 (Nat.le_refl _) (Nat.le_refl _) ?_
            first
            | (rw [if_pos c158] at hrf2
               rw [hrf2]
               exact ⟨rfl, rfl, ⟨va_up q 22 f6, fun j hj _ _ => va_up_ne _ _ hj, by rw [hI6]; exact hM.s_tried f6⟩, fr.rf.up hI6 (by decide) (by decide)⟩)
            | (rw [if_neg c158, if_pos (by omega)] at hrf2
               rw [hrf2]
               exact ⟨rfl, rfl, ⟨va_up q 22 f6, fun j hj _ _ => va_up_ne _ _ hj, by rw [hI6]; exact hM.s_tried f6⟩, fr.rf.up hI6 (by decide) (by decide)⟩)
          · refine pt_iload eR_fed_161 rfl ?_
            refine pt_goto eR_fed_163 ?_
            refine pt_iret eR_fed_168 (Nat.le_refl _) (Nat.le_refl _) ?_
            first
            | (rw [if_pos c158] at hrf2
               rw [hrf2]
               exact ⟨rfl, rfl, ⟨va_up q 22 f6, fun j hj _ _ => va_up_ne _ _ hj, by rw [hI6]; exact hM.s_tried f6⟩, fr.rf.up hI6 (by decide) (by decide)⟩)
            | (rw [if_neg c158, if_pos (by omega)] at hrf2
               rw [hrf2]
               exact ⟨rfl, rfl, ⟨va_up q 22 f6, fun j hj _ _ => va_up_ne _ _ hj, by rw [hI6]; exact hM.s_tried f6⟩, fr.rf.up hI6 (by decide) (by decide)⟩)
        · refine pt_iload eR_fed_144 rfl ?_
          refine pt_ic eR_fed_146 ?_
          refine pt_ceq eR_fed_148 ⟨by omega, by omega⟩ ⟨by omega, by omega⟩ (fun c148 => ?_) (fun c148 => ?_)
          · refine pt_iload eR_fed_156 rfl ?_
            refine pt_ic eR_fed_157 ?_
            refine pt_cne eR_fed_158 ⟨by omega, by omega⟩ ⟨by omega, by omega⟩ (fun c158 => ?_) (fun c158 => ?_)
            · refine pt_ic eR_fed_166 ?_
              refine pt_iret eR_fed_168 (Nat.le_refl _) (Nat.le_refl _) ?_
              first
              | (rw [if_pos c158] at hrf2
                 rw [hrf2]
                 exact ⟨rfl, rfl, ⟨va_up q 22 f6, fun j hj _ _ => va_up_ne _ _ hj, by rw [hI6]; exact hM.s_tried f6⟩, fr.rf.up hI6 (by decide) (by decide)⟩)
              | (rw [if_neg c158, if_pos (by omega)] at hrf2
                 rw [hrf2]
                 exact ⟨rfl, rfl, ⟨va_up q 22 f6, fun j hj _ _ => va_up_ne _ _ hj, by rw [hI6]; exact hM.s_tried f6⟩, fr.rf.up hI6 (by decide) (by decide)⟩)
            · refine pt_iload eR_fed_161 rfl ?_
              refine pt_goto eR_fed_163 ?_
              refine pt_iret eR_fed_168 (Nat.le_refl _) (Nat.le_refl _) ?_
              first
              | (rw [if_pos c158] at hrf2
                 rw [hrf2]
                 exact ⟨rfl, rfl, ⟨va_up q 22 f6, fun j hj _ _ => va_up_ne _ _ hj, by rw [hI6]; exact hM.s_tried f6⟩, fr.rf.up hI6 (by decide) (by decide)⟩)
              | (rw [if_neg c158, if_pos (by omega)] at hrf2
                 rw [hrf2]
                 exact ⟨rfl, rfl, ⟨va_up q 22 f6, fun j hj _ _ => va_up_ne _ _ hj, by rw [hI6]; exact hM.s_tried f6⟩, fr.rf.up hI6 (by decide) (by decide)⟩)
          · refine pt_iload eR_fed_151 rfl ?_
            refine pt_iload eR_fed_152 rfl ?_
            refine pt_clt eR_fed_153 ⟨by omega, by omega⟩ ⟨by omega, by omega⟩ (fun c153 => ?_) (fun c153 => ?_)
            · refine pt_iload eR_fed_169 rfl ?_
              refine pt_ic eR_fed_170 ?_
              refine pt_isub eR_fed_171 ?_
              refine pt_istore7 eR_fed_172 rfl ?_
              rw [if_neg c141, if_neg (by omega)] at hrf2
              refine pt_lve [some (vr 178), some (vi n), some (vi k), some (vi (M : Int)), some (vi ((5 ^ M : Nat) : Int)), some (vi ((fd.toNat / 5 ^ 0 : Nat) : Int)), some (vi fw), some (vi (k + ((M - 1 - k.toNat : Nat) : Int))), l8] (by rw [Nat.pow_zero, Nat.div_one, Int.toNat_of_nonneg (by omega), show k + ((M - 1 - k.toNat : Nat) : Int) = (M : Int) - 1 by omega]) ?_
              refine lR_fe3 G sz hp6 (X := fd.toNat) (r := M - 1 - k.toNat) (by omega) (by omega) (by omega) ?_ (M - 1 - k.toNat) 0 (by omega) (by omega)
              unfold fdg at hrf2
              have hdl : fd.toNat / 5 ^ (M - 1 - k.toNat) ≤ fd.toNat := Nat.div_le_self _ _
              generalize fd.toNat / 5 ^ (M - 1 - k.toNat) = Y at hrf2 hdl ⊢
              refine pt_iload eR_fed_192 rfl ?_
              refine pt_ic eR_fed_194 ?_
              refine pt_irem eR_fed_195 (by omega) (by omega) (by omega) (by omega) ?_
              refine pt_zne eR_fed_196 ⟨by omega, by omega⟩ (fun c196 => ?_) (fun c196 => ?_)
              · refine pt_iload eR_fed_204 rfl ?_
                refine pt_ic eR_fed_206 ?_
                refine pt_irem eR_fed_207 (by omega) (by omega) (by omega) (by omega) ?_
                refine pt_ic eR_fed_208 ?_
                refine pt_isub eR_fed_209 ?_
                refine pt_iret eR_fed_210 (Nat.le_refl _) (Nat.le_refl _) ?_
                first
                | (rw [if_pos (by omega)] at hrf2
                   rw [hrf2]
                   exact ⟨rfl, rfl, ⟨va_up q 22 f6, fun j hj _ _ => va_up_ne _ _ hj, by rw [hI6]; exact hM.s_tried f6⟩, fr.rf.up hI6 (by decide) (by decide)⟩)
                | (rw [if_neg (by omega)] at hrf2
                   rw [hrf2]
                   exact ⟨rfl, rfl, ⟨va_up q 22 f6, fun j hj _ _ => va_up_ne _ _ hj, by rw [hI6]; exact hM.s_tried f6⟩, fr.rf.up hI6 (by decide) (by decide)⟩)
              · refine pt_ic eR_fed_199 ?_
                refine pt_goto eR_fed_201 ?_
                refine pt_iret eR_fed_210 (Nat.le_refl _) (Nat.le_refl _) ?_
                first
                | (rw [if_pos (by omega)] at hrf2
                   rw [hrf2]
                   exact ⟨rfl, rfl, ⟨va_up q 22 f6, fun j hj _ _ => va_up_ne _ _ hj, by rw [hI6]; exact hM.s_tried f6⟩, fr.rf.up hI6 (by decide) (by decide)⟩)
                | (rw [if_neg (by omega)] at hrf2
                   rw [hrf2]
                   exact ⟨rfl, rfl, ⟨va_up q 22 f6, fun j hj _ _ => va_up_ne _ _ hj, by rw [hI6]; exact hM.s_tried f6⟩, fr.rf.up hI6 (by decide) (by decide)⟩)
            · refine pt_iload eR_fed_156 rfl ?_
              refine pt_ic eR_fed_157 ?_
              refine pt_cne eR_fed_158 ⟨by omega, by omega⟩ ⟨by omega, by omega⟩ (fun c158 => ?_) (fun c158 => ?_)
              · refine pt_ic eR_fed_166 ?_
                refine pt_iret eR_fed_168 (Nat.le_refl _) (Nat.le_refl _) ?_
                first
                | (rw [if_pos c158] at hrf2
                   rw [hrf2]
                   exact ⟨rfl, rfl, ⟨va_up q 22 f6, fun j hj _ _ => va_up_ne _ _ hj, by rw [hI6]; exact hM.s_tried f6⟩, fr.rf.up hI6 (by decide) (by decide)⟩)
                | (rw [if_neg c158, if_pos (by omega)] at hrf2
                   rw [hrf2]
                   exact ⟨rfl, rfl, ⟨va_up q 22 f6, fun j hj _ _ => va_up_ne _ _ hj, by rw [hI6]; exact hM.s_tried f6⟩, fr.rf.up hI6 (by decide) (by decide)⟩)
              · refine pt_iload eR_fed_161 rfl ?_
                refine pt_goto eR_fed_163 ?_
                refine pt_iret eR_fed_168 (Nat.le_refl _) (Nat.le_refl _) ?_
                first
                | (rw [if_pos c158] at hrf2
                   rw [hrf2]
                   exact ⟨rfl, rfl, ⟨va_up q 22 f6, fun j hj _ _ => va_up_ne _ _ hj, by rw [hI6]; exact hM.s_tried f6⟩, fr.rf.up hI6 (by decide) (by decide)⟩)
                | (rw [if_neg c158, if_pos (by omega)] at hrf2
                   rw [hrf2]
                   exact ⟨rfl, rfl, ⟨va_up q 22 f6, fun j hj _ _ => va_up_ne _ _ hj, by rw [hI6]; exact hM.s_tried f6⟩, fr.rf.up hI6 (by decide) (by decide)⟩)
      · refine pt_ic eR_fed_34 ?_
        refine pt_aload eR_fed_36 rfl ?_
        refine pt_get eR_fed_37 hR rfl ?_
        refine pt_ic eR_fed_40 ?_
        refine pt_iald eR_fed_41 h_now (by omega) (by omega) (by decide) ?_
        refine pt_isub eR_fed_42 ?_
        refine pt_goto eR_fed_43 ?_
        refine pt_istore3 eR_fed_47 rfl ?_
        refine pt_ic eR_fed_48 ?_
        refine pt_istore4 eR_fed_49 rfl ?_
        refine pt_ic eR_fed_51 ?_
        refine pt_istore5 eR_fed_52 rfl ?_
        have hm6 : fmn (q 17) n ≤ 6 := by omega
        have hmd : q 17 0 + (fmn (q 17) n : Nat) ≤ 20 := by omega
        refine pt_lve [some (vr 178), some (vi n), some (vi k), some (vi ((fmn (q 17) n : Nat) : Int)), some (vi ((5 ^ (0 : Int).toNat : Nat) : Int)), some (vi 0), none, none, none] (by rw [hmn]; first | (rw [show min (20 - q 17 0) n = 20 - q 17 0 by omega]; rfl) | (rw [show min (20 - q 17 0) n = n by omega]; rfl)) ?_
        generalize hgm : fmn (q 17) n = M at hmn hrf hm6 hmd ⊢
        refine lR_fe1 G sz hp (M := M) (nn := n) (k := k) hm6 (fun hp5 he5 => ?_) M 0 hp (by omega) (by omega) rfl
        rw [he5]
        refine pt_ic eR_fed_72 ?_
        refine pt_istore5 eR_fed_74 rfl ?_
        refine pt_ic eR_fed_76 ?_
        refine pt_istore6 eR_fed_78 rfl ?_
        refine pt_ic eR_fed_80 ?_
        refine pt_istore7 eR_fed_81 rfl ?_
        refine lR_fe2 G sz hp hR h_goods h_brought h_missed h_use ig0 ig4 iB iM iU h_door id0 id1 id2 id3 iS (M := M) (nn := n) (k := k) hm6 hmd h_now (fun l7 l8 hp6 hI6 => ?_) (5 ^ M) 0 none hp (by omega) ⟨_, pu_self h_tried⟩
        obtain ⟨f6, hI6⟩ := hI6
        have hfr := fo_r (N := nxf (q 5) (q 8) (q 9) (q 17) (q 2 0) (q 2 1)) (gd := q 3 0) (m := M) (s := fun g => q 17 (2 + g)) (5 ^ M)
        have p2 : 5 ^ M ≤ 15625 := Nat.pow_le_pow_right (j := 6) (by decide) hm6
        generalize fo (nxf (q 5) (q 8) (q 9) (q 17) (q 2 0) (q 2 1)) (q 3 0) M (fun g => q 17 (2 + g)) (5 ^ M) = FO at hfr hrf ⊢
        obtain ⟨fw, fd⟩ := FO
        have hfr2 : (fw = -9 ∧ fd = -9) ∨ ((0 ≤ fw ∧ fw ≤ M) ∧ (0 ≤ fd ∧ fd < ((5 ^ M : Nat) : Int))) := hfr
        have hrf2 : rFed q n k = if k = -1 then fw else if fw = -9 ∨ (M : Int) ≤ k then -9 else fdg fd.toNat (M - 1 - k.toNat) := hrf
        clear hfr hrf
        refine pt_iload eR_fed_139 rfl ?_
        refine pt_ic eR_fed_140 ?_
        refine pt_ceq eR_fed_141 ⟨by omega, by omega⟩ ⟨by omega, by omega⟩ (fun c141 => ?_) (fun c141 => ?_)
        · refine pt_iload eR_fed_156 rfl ?_
          refine pt_ic eR_fed_157 ?_
          refine pt_cne eR_fed_158 ⟨by omega, by omega⟩ ⟨by omega, by omega⟩ (fun c158 => ?_) (fun c158 => ?_)
          · refine pt_ic eR_fed_166 ?_
            refine pt_iret eR_fed_168 (Nat.le_refl _) (Nat.le_refl _) ?_
            first
            | (rw [if_pos c158] at hrf2
               rw [hrf2]
               exact ⟨rfl, rfl, ⟨va_up q 22 f6, fun j hj _ _ => va_up_ne _ _ hj, by rw [hI6]; exact hM.s_tried f6⟩, fr.rf.up hI6 (by decide) (by decide)⟩)
            | (rw [if_neg c158, if_pos (by omega)] at hrf2
               rw [hrf2]
               exact ⟨rfl, rfl, ⟨va_up q 22 f6, fun j hj _ _ => va_up_ne _ _ hj, by rw [hI6]; exact hM.s_tried f6⟩, fr.rf.up hI6 (by decide) (by decide)⟩)
          · refine pt_iload eR_fed_161 rfl ?_
            refine pt_goto eR_fed_163 ?_
            refine pt_iret eR_fed_168 (Nat.le_refl _) (Nat.le_refl _) ?_
            first
            | (rw [if_pos c158] at hrf2
               rw [hrf2]
               exact ⟨rfl, rfl, ⟨va_up q 22 f6, fun j hj _ _ => va_up_ne _ _ hj, by rw [hI6]; exact hM.s_tried f6⟩, fr.rf.up hI6 (by decide) (by decide)⟩)
            | (rw [if_neg c158, if_pos (by omega)] at hrf2
               rw [hrf2]
               exact ⟨rfl, rfl, ⟨va_up q 22 f6, fun j hj _ _ => va_up_ne _ _ hj, by rw [hI6]; exact hM.s_tried f6⟩, fr.rf.up hI6 (by decide) (by decide)⟩)
        · refine pt_iload eR_fed_144 rfl ?_
          refine pt_ic eR_fed_146 ?_
          refine pt_ceq eR_fed_148 ⟨by omega, by omega⟩ ⟨by omega, by omega⟩ (fun c148 => ?_) (fun c148 => ?_)
          · refine pt_iload eR_fed_156 rfl ?_
            refine pt_ic eR_fed_157 ?_
            refine pt_cne eR_fed_158 ⟨by omega, by omega⟩ ⟨by omega, by omega⟩ (fun c158 => ?_) (fun c158 => ?_)
            · refine pt_ic eR_fed_166 ?_
              refine pt_iret eR_fed_168 (Nat.le_refl _) (Nat.le_refl _) ?_
              first
              | (rw [if_pos c158] at hrf2
                 rw [hrf2]
                 exact ⟨rfl, rfl, ⟨va_up q 22 f6, fun j hj _ _ => va_up_ne _ _ hj, by rw [hI6]; exact hM.s_tried f6⟩, fr.rf.up hI6 (by decide) (by decide)⟩)
              | (rw [if_neg c158, if_pos (by omega)] at hrf2
                 rw [hrf2]
                 exact ⟨rfl, rfl, ⟨va_up q 22 f6, fun j hj _ _ => va_up_ne _ _ hj, by rw [hI6]; exact hM.s_tried f6⟩, fr.rf.up hI6 (by decide) (by decide)⟩)
            · refine pt_iload eR_fed_161 rfl ?_
              refine pt_goto eR_fed_163 ?_
              refine pt_iret eR_fed_168 (Nat.le_refl _) (Nat.le_refl _) ?_
              first
              | (rw [if_pos c158] at hrf2
                 rw [hrf2]
                 exact ⟨rfl, rfl, ⟨va_up q 22 f6, fun j hj _ _ => va_up_ne _ _ hj, by rw [hI6]; exact hM.s_tried f6⟩, fr.rf.up hI6 (by decide) (by decide)⟩)
              | (rw [if_neg c158, if_pos (by omega)] at hrf2
                 rw [hrf2]
                 exact ⟨rfl, rfl, ⟨va_up q 22 f6, fun j hj _ _ => va_up_ne _ _ hj, by rw [hI6]; exact hM.s_tried f6⟩, fr.rf.up hI6 (by decide) (by decide)⟩)
          · refine pt_iload eR_fed_151 rfl ?_
            refine pt_iload eR_fed_152 rfl ?_
            refine pt_clt eR_fed_153 ⟨by omega, by omega⟩ ⟨by omega, by omega⟩ (fun c153 => ?_) (fun c153 => ?_)
            · refine pt_iload eR_fed_169 rfl ?_
              refine pt_ic eR_fed_170 ?_
              refine pt_isub eR_fed_171 ?_
              refine pt_istore7 eR_fed_172 rfl ?_
              rw [if_neg c141, if_neg (by omega)] at hrf2
              refine pt_lve [some (vr 178), some (vi n), some (vi k), some (vi (M : Int)), some (vi ((5 ^ M : Nat) : Int)), some (vi ((fd.toNat / 5 ^ 0 : Nat) : Int)), some (vi fw), some (vi (k + ((M - 1 - k.toNat : Nat) : Int))), l8] (by rw [Nat.pow_zero, Nat.div_one, Int.toNat_of_nonneg (by omega), show k + ((M - 1 - k.toNat : Nat) : Int) = (M : Int) - 1 by omega]) ?_
              refine lR_fe3 G sz hp6 (X := fd.toNat) (r := M - 1 - k.toNat) (by omega) (by omega) (by omega) ?_ (M - 1 - k.toNat) 0 (by omega) (by omega)
              unfold fdg at hrf2
              have hdl : fd.toNat / 5 ^ (M - 1 - k.toNat) ≤ fd.toNat := Nat.div_le_self _ _
              generalize fd.toNat / 5 ^ (M - 1 - k.toNat) = Y at hrf2 hdl ⊢
              refine pt_iload eR_fed_192 rfl ?_
              refine pt_ic eR_fed_194 ?_
              refine pt_irem eR_fed_195 (by omega) (by omega) (by omega) (by omega) ?_
              refine pt_zne eR_fed_196 ⟨by omega, by omega⟩ (fun c196 => ?_) (fun c196 => ?_)
              · refine pt_iload eR_fed_204 rfl ?_
                refine pt_ic eR_fed_206 ?_
                refine pt_irem eR_fed_207 (by omega) (by omega) (by omega) (by omega) ?_
                refine pt_ic eR_fed_208 ?_
                refine pt_isub eR_fed_209 ?_
                refine pt_iret eR_fed_210 (Nat.le_refl _) (Nat.le_refl _) ?_
                first
                | (rw [if_pos (by omega)] at hrf2
                   rw [hrf2]
                   exact ⟨rfl, rfl, ⟨va_up q 22 f6, fun j hj _ _ => va_up_ne _ _ hj, by rw [hI6]; exact hM.s_tried f6⟩, fr.rf.up hI6 (by decide) (by decide)⟩)
                | (rw [if_neg (by omega)] at hrf2
                   rw [hrf2]
                   exact ⟨rfl, rfl, ⟨va_up q 22 f6, fun j hj _ _ => va_up_ne _ _ hj, by rw [hI6]; exact hM.s_tried f6⟩, fr.rf.up hI6 (by decide) (by decide)⟩)
              · refine pt_ic eR_fed_199 ?_
                refine pt_goto eR_fed_201 ?_
                refine pt_iret eR_fed_210 (Nat.le_refl _) (Nat.le_refl _) ?_
                first
                | (rw [if_pos (by omega)] at hrf2
                   rw [hrf2]
                   exact ⟨rfl, rfl, ⟨va_up q 22 f6, fun j hj _ _ => va_up_ne _ _ hj, by rw [hI6]; exact hM.s_tried f6⟩, fr.rf.up hI6 (by decide) (by decide)⟩)
                | (rw [if_neg (by omega)] at hrf2
                   rw [hrf2]
                   exact ⟨rfl, rfl, ⟨va_up q 22 f6, fun j hj _ _ => va_up_ne _ _ hj, by rw [hI6]; exact hM.s_tried f6⟩, fr.rf.up hI6 (by decide) (by decide)⟩)
            · refine pt_iload eR_fed_156 rfl ?_
              refine pt_ic eR_fed_157 ?_
              refine pt_cne eR_fed_158 ⟨by omega, by omega⟩ ⟨by omega, by omega⟩ (fun c158 => ?_) (fun c158 => ?_)
              · refine pt_ic eR_fed_166 ?_
                refine pt_iret eR_fed_168 (Nat.le_refl _) (Nat.le_refl _) ?_
                first
                | (rw [if_pos c158] at hrf2
                   rw [hrf2]
                   exact ⟨rfl, rfl, ⟨va_up q 22 f6, fun j hj _ _ => va_up_ne _ _ hj, by rw [hI6]; exact hM.s_tried f6⟩, fr.rf.up hI6 (by decide) (by decide)⟩)
                | (rw [if_neg c158, if_pos (by omega)] at hrf2
                   rw [hrf2]
                   exact ⟨rfl, rfl, ⟨va_up q 22 f6, fun j hj _ _ => va_up_ne _ _ hj, by rw [hI6]; exact hM.s_tried f6⟩, fr.rf.up hI6 (by decide) (by decide)⟩)
              · refine pt_iload eR_fed_161 rfl ?_
                refine pt_goto eR_fed_163 ?_
                refine pt_iret eR_fed_168 (Nat.le_refl _) (Nat.le_refl _) ?_
                first
                | (rw [if_pos c158] at hrf2
                   rw [hrf2]
                   exact ⟨rfl, rfl, ⟨va_up q 22 f6, fun j hj _ _ => va_up_ne _ _ hj, by rw [hI6]; exact hM.s_tried f6⟩, fr.rf.up hI6 (by decide) (by decide)⟩)
                | (rw [if_neg c158, if_pos (by omega)] at hrf2
                   rw [hrf2]
                   exact ⟨rfl, rfl, ⟨va_up q 22 f6, fun j hj _ _ => va_up_ne _ _ hj, by rw [hI6]; exact hM.s_tried f6⟩, fr.rf.up hI6 (by decide) (by decide)⟩)
    · refine pt_ic eR_fed_19 ?_
      refine pt_iret eR_fed_20 (Nat.le_refl _) (Nat.le_refl _) ?_
      first
      | (have c7 := pwi_0 c7
         rw [show rFed q n k = -1 by unfold rFed; rw [if_pos (fun z => c7 z.1)]]
         exact mPosG_0 hM)
      | (have c16 := pwi_0 c16
         rw [show rFed q n k = -1 by unfold rFed; rw [if_pos (fun z => c16 z.2)]]
         exact mPosG_0 hM)
