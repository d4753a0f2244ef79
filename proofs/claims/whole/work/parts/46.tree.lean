theorem lP_gt2 (G : pd_G) (sz : Nat) (hp : pd_P) {to : Nat} {gd ev bk gp : Int} {br ms us uq σ : Int → Int} {L : Nat} {g : Int} (hto : 63 ≤ to) (hP : hp 58 = PO (L : Int) gp) (hH : hp to = HO to gd ev bk) (hH5 : hp (to + 5) = ia 80 br) (hH6 : hp (to + 6) = ia 80 ms) (hH2 : hp (to + 2) = ia 4 us) (hN : hp (5 + 1) = SO (5 + 1) (σ 0) (σ 1)) (hNt : hp (5 + 1 + 1) = ia 4 (fun g => σ (2 + g))) (hNk : hp (5 + 1 + 3) = ia 80 (fun k => σ (10 + k))) (ig4 : gd ≤ 4) (id0 : 1 ≤ ev) (id1 : ev ≤ 9) (id2 : 1 ≤ bk) (id3 : bk ≤ 9) (iB : okB br) (iM : okB ms) (iU : okU gd uq) (hs : okS ms σ) (hL : L ≤ 6) (hLd : σ 0 + L ≤ 20) (h0 : 0 ≤ g) (h1 : g < gd) (hug : us g = uq g) {R : pd_R} (hx : ∀ (l5 l6 l7 l8 : Option pv) (hp0 : pd_P), (∃ f : Int → Int, hp0 = va_up hp 60 (ia 128 f) ∧ (∀ l x : Nat, l ≤ ((L : Int) : Int).toNat → 2 ^ l ≤ x → x < 2 ^ (l + 1) → f (x : Int) = tn (nxf uq br ms σ ev bk) g (σ (2 + g)) l x)) → pd_t G mP_growTree 4 R 168 [some (vr 58), some (vr to), some (vr (5 + 1)), some (vi g), some (vi ((L : Int))), l5, l6, l7, l8] [] sz hp0) : ∀ (n : Nat) (i : Int) (l5 l6 l7 l8 : Option pv) (hp0 : pd_P), 0 ≤ i → i + n = (L : Int) → (∃ f : Int → Int, hp0 = va_up hp 60 (ia 128 f) ∧ (∀ l x : Nat, l ≤ (i : Int).toNat → 2 ^ l ≤ x → x < 2 ^ (l + 1) → f (x : Int) = tn (nxf uq br ms σ ev bk) g (σ (2 + g)) l x)) → pd_t G mP_growTree 4 R 15 [some (vr 58), some (vr to), some (vr (5 + 1)), some (vi g), some (vi (i)), l5, l6, l7, l8] [] sz hp0 := by
  intro n
  induction n with
  | zero =>
    intro i l5 l6 l7 l8 hp0 hi0 hiE hI
    have hiE2 : (L : Int) = i := by omega
    subst hiE2
    have hx2 := hx l5 l6 l7 l8 hp0 hI
    obtain ⟨f0, hI, hr1⟩ := hI
    have hPz := hP
    have hHz := hH
    have hH5z := hH5
    have hH6z := hH6
    have hH2z := hH2
    have hNz := hN
    have hNtz := hNt
    have hNkz := hNk
    have hP := pg_n hI (by omega) hP
    have hH := pg_n hI (by omega) hH
    have hH5 := pg_n hI (by omega) hH5
    have hH6 := pg_n hI (by omega) hH6
    have hH2 := pg_n hI (by omega) hH2
    have hN := pg_n hI (by omega) hN
    have hNt := pg_n hI (by omega) hNt
    have hNk := pg_n hI (by omega) hNk
    have hTh := pg_s hI
    refine pt_iload eP_growTree_15 rfl ?_
    refine pt_aload eP_growTree_17 rfl ?_
    refine pt_get eP_growTree_18 hP rfl ?_
    refine pt_cge eP_growTree_21 ⟨by omega, by omega⟩ ⟨by omega, by omega⟩ (fun c21 => ?_) (fun c21 => ?_)
    · exact hx2
    · exfalso; omega
  | succ n ih =>
    intro i l5 l6 l7 l8 hp0 hi0 hiE hI
    obtain ⟨f0, hI, hr1⟩ := hI
    have hPz := hP
    have hHz := hH
    have hH5z := hH5
    have hH6z := hH6
    have hH2z := hH2
    have hNz := hN
    have hNtz := hNt
    have hNkz := hNk
    have hP := pg_n hI (by omega) hP
    have hH := pg_n hI (by omega) hH
    have hH5 := pg_n hI (by omega) hH5
    have hH6 := pg_n hI (by omega) hH6
    have hH2 := pg_n hI (by omega) hH2
    have hN := pg_n hI (by omega) hN
    have hNt := pg_n hI (by omega) hNt
    have hNk := pg_n hI (by omega) hNk
    have hTh := pg_s hI
    obtain ⟨l1, rfl⟩ := Int.eq_ofNat_of_zero_le hi0
    have s0 := hs.1
    have hps := p2_s l1
    have hpp : 0 < 2 ^ l1 := Nat.pow_pos (by decide)
    rw [show ((l1 : Int)).toNat = l1 from rfl] at hr1
    refine pt_iload eP_growTree_15 rfl ?_
    refine pt_aload eP_growTree_17 rfl ?_
    refine pt_get eP_growTree_18 hP rfl ?_
    refine pt_cge eP_growTree_21 ⟨by omega, by omega⟩ ⟨by omega, by omega⟩ (fun c21 => ?_) (fun c21 => ?_)
    · exfalso; omega
    · refine pt_aload eP_growTree_24 rfl ?_
      refine pt_get eP_growTree_25 hN rfl ?_
      refine pt_iload eP_growTree_28 rfl ?_
      refine pt_iadd eP_growTree_30 ?_
      refine pt_istore5 eP_growTree_31 rfl ?_
      refine pt_aload eP_growTree_33 rfl ?_
      refine pt_aload eP_growTree_34 rfl ?_
      refine pt_iload eP_growTree_35 rfl ?_
      refine pt_iload eP_growTree_37 rfl ?_
      refine pt_kv3r eP_growTree_38 (cS_openOn G sz _ hN hNk hH hH6 id0 id1 id2 id3 (by omega) (by omega) hs.2.2.1 h0 (by omega)) hN rfl (Nat.le_of_ble_eq_true rfl) (by decide) (Nat.le_refl _) (Nat.le_refl _) ?_
      refine pt_istore6 eP_growTree_41 rfl ?_
      refine pt_ic eP_growTree_43 ?_
      refine pt_iload eP_growTree_44 rfl ?_
      refine pt_ishl (z := ((2 ^ l1 : Nat) : Int)) eP_growTree_46 (jI_shn (by omega)) ?_
      refine pt_istore7 eP_growTree_47 rfl ?_
      refine lP_gt1 G sz hp hto hPz hHz hH5z hH6z hH2z hNz hNtz hNkz ig4 id0 id1 id2 id3 iB iM iU hs hL hLd h0 h1 hug (l1 := l1) (by omega) (fun l8 hp5 hI5 => ?_) (2 ^ (l1 + 1) - 2 ^ l1) ((2 ^ l1 : Nat) : Int) _ hp0 (Int.le_refl _) (by omega) ⟨f0, hI, hr1, fun y k1 k2 => absurd k2 (by omega)⟩
      obtain ⟨f5, hI5, hr5, hr6⟩ := hI5
      refine pt_inc4 eP_growTree_162 rfl ?_
      refine pt_goto eP_growTree_165 ?_
      refine ih ((l1 : Int) + 1) _ _ _ _ hp5 (by omega) (by omega) ⟨f5, hI5, fun l x k1 k2 k3 => ?_⟩
      rw [show ((l1 : Int) + 1).toNat = l1 + 1 by omega] at k1
      rcases (show l ≤ l1 ∨ l = l1 + 1 by omega) with k4 | k4
      · exact hr5 l x k4 k2 k3
      · subst k4
        have hps2 := p2_s (l1 + 1)
        have k5 := hr6 (x / 2) (by omega) (by omega)
        rcases (show x = 2 * (x / 2) ∨ x = 2 * (x / 2) + 1 by omega) with k6 | k6
        · rw [k6]; exact k5.1
        · rw [k6]; exact k5.2
theorem cP_growTree (G : pd_G) (sz : Nat) (hp : pd_P) {to : Nat} {gd ev bk gp : Int} {br ms us uq σ : Int → Int} {L : Nat} {g : Int} (hto : 63 ≤ to) (hP : hp 58 = PO (L : Int) gp) (hH : hp to = HO to gd ev bk) (hH5 : hp (to + 5) = ia 80 br) (hH6 : hp (to + 6) = ia 80 ms) (hH2 : hp (to + 2) = ia 4 us) (hN : hp (5 + 1) = SO (5 + 1) (σ 0) (σ 1)) (hNt : hp (5 + 1 + 1) = ia 4 (fun g => σ (2 + g))) (hNk : hp (5 + 1 + 3) = ia 80 (fun k => σ (10 + k))) (ig4 : gd ≤ 4) (id0 : 1 ≤ ev) (id1 : ev ≤ 9) (id2 : 1 ≤ bk) (id3 : bk ≤ 9) (iB : okB br) (iM : okB ms) (iU : okU gd uq) (hs : okS ms σ) (hL : L ≤ 6) (hLd : σ 0 + L ≤ 20) (h0 : 0 ≤ g) (h1 : g < gd) (hug : us g = uq g) {th : Int → Int} (hTh : hp 60 = ia 128 th) : pd_c G mP_growTree 4 [vr 58, vr to, vr (5 + 1), vi g] sz hp (fun v' sz' hp' => v' = none ∧ sz' = sz ∧ ∃ f : Int → Int, hp' = va_up hp 60 (ia 128 f) ∧ (∀ l x : Nat, l ≤ L → 2 ^ l ≤ x → x < 2 ^ (l + 1) → f (x : Int) = tn (nxf uq br ms σ ev bk) g (σ (2 + g)) l x)) := by
  refine pd_con kP_growTree [some (vr 58), some (vr to), some (vr (5 + 1)), some (vi g), none, none, none, none, none] rfl rfl (Nat.le_of_ble_eq_true rfl) ?_
  refine pt_aload eP_growTree_0 rfl ?_
  refine pt_get eP_growTree_1 hP rfl ?_
  refine pt_ic eP_growTree_4 ?_
  refine pt_aload eP_growTree_5 rfl ?_
  refine pt_get eP_growTree_6 hN rfl ?_
  refine pt_iload eP_growTree_9 rfl ?_
  refine pt_iald eP_growTree_10 hNt (by omega) (by omega) (by decide) ?_
  refine pt_iast eP_growTree_11 hTh (by omega) (by omega) (by decide) ?_
  refine pt_gen ?_
  intro hp1 ev1
  skip
  have hTh := pg_s ev1
  skip
  skip
  skip
  skip
  skip
  skip
  skip
  refine pt_ic eP_growTree_12 ?_
  refine pt_istore4 eP_growTree_13 rfl ?_
  refine lP_gt2 G sz hp hto hP hH hH5 hH6 hH2 hN hNt hNk ig4 id0 id1 id2 id3 iB iM iU hs hL hLd h0 h1 hug (fun l5 l6 l7 l8 hp5 hI5 => ?_) L 0 none none none none hp1 (by omega) (by omega) ⟨_, ev1, fun l x k1 k2 k3 => ?_⟩
  · obtain ⟨f5, hI5, hr5⟩ := hI5
    rw [show ((L : Int)).toNat = L from rfl] at hr5
    refine pt_vret eP_growTree_168 (Nat.le_refl _) (Nat.le_refl _) ?_
    exact ⟨rfl, rfl, f5, hI5, hr5⟩
  · obtain rfl : l = 0 := by omega
    have k4 : x = 1 := by
      rw [show 2 ^ 0 = 1 from rfl] at k2
      rw [show 2 ^ (0 + 1) = 2 from rfl] at k3
      omega
    rw [k4, show ((1 : Nat) : Int) = 1 from rfl, uI_s]
    rfl
theorem lP_rw (G : pd_G) (sz : Nat) (hp : pd_P) {gp : Int} {us br ms σ : Int → Int} {ev bk gd : Int} {L : Nat} {g : Int} {th wf : Int → Int} (hP : hp 58 = PO (L : Int) gp) (hTh : hp 60 = ia 128 th) (ig4 : gd ≤ 4) (iB : okB br) (iM : okB ms) (iU : okU gd us) (hs : okS ms σ) (hL : L ≤ 6) (hLd : σ 0 + L ≤ 20) (h0 : 0 ≤ g) (h1 : g < gd) (hth : (∀ l x : Nat, l ≤ L → 2 ^ l ≤ x → x < 2 ^ (l + 1) → th (x : Int) = tn (nxf us br ms σ ev bk) g (σ (2 + g)) l x)) {R : pd_R} (hx : ∀ l3 l4 (hp0 : pd_P), (∃ f : Int → Int, hp0 = va_up hp 61 (ia 512 f) ∧ (∀ g1 x : Int, g1 ≠ g → 0 ≤ x → x < 128 → f (128 * g1 + x) = wf (128 * g1 + x)) ∧ (∀ x : Nat, 0 < x → x < 2 ^ (L + 1) → 0 ≤ f (128 * g + (x : Int)) ∧ f (128 * g + (x : Int)) ≤ 7) ∧ ∀ l x : Nat, l ≤ L → 2 ^ l ≤ x → x < 2 ^ (l + 1) → 0 < x → f (128 * g + (x : Int)) = wn (nxf us br ms σ ev bk) g (L - l) l (tn (nxf us br ms σ ev bk) g (σ (2 + g)) l x)) → pd_t G mP_reckonWanted 1 R 113 [some (vr 58), some (vi g), some (vi 0), l3, l4] [] sz hp0) : ∀ (n : Nat) (l3 l4 : Option pv) (hp0 : pd_P), n < 2 ^ (L + 1) → (∃ f : Int → Int, hp0 = va_up hp 61 (ia 512 f) ∧ (∀ g1 x : Int, g1 ≠ g → 0 ≤ x → x < 128 → f (128 * g1 + x) = wf (128 * g1 + x)) ∧ (∀ x : Nat, n < x → x < 2 ^ (L + 1) → 0 ≤ f (128 * g + (x : Int)) ∧ f (128 * g + (x : Int)) ≤ 7) ∧ ∀ l x : Nat, l ≤ L → 2 ^ l ≤ x → x < 2 ^ (l + 1) → n < x → f (128 * g + (x : Int)) = wn (nxf us br ms σ ev bk) g (L - l) l (tn (nxf us br ms σ ev bk) g (σ (2 + g)) l x)) → pd_t G mP_reckonWanted 1 R 9 [some (vr 58), some (vi g), some (vi (n : Int)), l3, l4] [] sz hp0 := by
  have hy7 := p2_le (show L + 1 ≤ 7 by omega)
  have hpL := p2_s L
  have hpp : 0 < 2 ^ L := Nat.pow_pos (by decide)
  intro n
  induction n with
  | zero =>
    intro l3 l4 hp0 hn hI
    have hx2 := hx l3 l4 hp0 hI
    refine pt_iload eP_reckonWanted_9 rfl ?_
    refine pt_ic eP_reckonWanted_10 ?_
    refine pt_clt eP_reckonWanted_11 ⟨by omega, by omega⟩ ⟨by omega, by omega⟩ (fun c11 => ?_) (fun c11 => ?_)
    · exact hx2
    · exfalso; omega
  | succ n ih =>
    intro l3 l4 hp0 hn hI
    obtain ⟨f0, hI, hr1, hr2, hr3⟩ := hI
    have hP := pg_n hI (by omega) hP
    have hTh := pg_n hI (by omega) hTh
    have hWa := pg_s hI
    refine pt_iload eP_reckonWanted_9 rfl ?_
    refine pt_ic eP_reckonWanted_10 ?_
    refine pt_clt eP_reckonWanted_11 ⟨by omega, by omega⟩ ⟨by omega, by omega⟩ (fun c11 => ?_) (fun c11 => ?_)
    · exfalso; omega
    · refine pt_iload eP_reckonWanted_14 rfl ?_
      refine pt_ic eP_reckonWanted_15 ?_
      refine pt_imul eP_reckonWanted_18 ?_
      refine pt_iload eP_reckonWanted_19 rfl ?_
      refine pt_iadd eP_reckonWanted_20 ?_
      rw [show g * 128 + ((n + 1 : Nat) : Int) = 128 * g + ((n + 1 : Nat) : Int) by omega]
      refine pt_istore3 eP_reckonWanted_21 rfl ?_
      refine pt_iload eP_reckonWanted_22 rfl ?_
      refine pt_ic eP_reckonWanted_23 ?_
      refine pt_aload eP_reckonWanted_24 rfl ?_
      refine pt_get eP_reckonWanted_25 hP rfl ?_
      refine pt_ishl (z := ((2 ^ L : Nat) : Int)) eP_reckonWanted_28 (jI_shn (by omega)) ?_
      refine pt_clt eP_reckonWanted_29 ⟨by omega, by omega⟩ ⟨by omega, by omega⟩ (fun c29 => ?_) (fun c29 => ?_)
      · have b0 := hr2 (2 * (n + 1)) (by omega) (by omega)
        have b1 := hr2 (2 * (n + 1) + 1) (by omega) (by omega)
        refine pt_aload eP_reckonWanted_57 rfl ?_
        refine pt_get eP_reckonWanted_58 hP rfl ?_
        refine pt_iload eP_reckonWanted_61 rfl ?_
        refine pt_ic eP_reckonWanted_62 ?_
        refine pt_imul eP_reckonWanted_65 ?_
        refine pt_ic eP_reckonWanted_66 ?_
        refine pt_iload eP_reckonWanted_67 rfl ?_
        refine pt_imul eP_reckonWanted_68 ?_
        refine pt_iadd eP_reckonWanted_69 ?_
        refine pt_ic eP_reckonWanted_70 ?_
        refine pt_iadd eP_reckonWanted_71 ?_
        refine pt_iald eP_reckonWanted_72 hWa (by omega) (by omega) (by decide) ?_
        rw [show g * 128 + 2 * ((n + 1 : Nat) : Int) + 1 = 128 * g + ((2 * (n + 1) + 1 : Nat) : Int) by omega]
        refine pt_ic eP_reckonWanted_73 ?_
        refine pt_iadd eP_reckonWanted_74 ?_
        refine pt_istore4 eP_reckonWanted_75 rfl ?_
        refine pt_aload eP_reckonWanted_77 rfl ?_
        refine pt_get eP_reckonWanted_78 hP rfl ?_
        refine pt_iload eP_reckonWanted_81 rfl ?_
        refine pt_ic eP_reckonWanted_82 ?_
        refine pt_aload eP_reckonWanted_84 rfl ?_
        refine pt_get eP_reckonWanted_85 hP rfl ?_
        refine pt_iload eP_reckonWanted_88 rfl ?_
        refine pt_ic eP_reckonWanted_89 ?_
        refine pt_imul eP_reckonWanted_92 ?_
        refine pt_ic eP_reckonWanted_93 ?_
        refine pt_iload eP_reckonWanted_94 rfl ?_
        refine pt_imul eP_reckonWanted_95 ?_
        refine pt_iadd eP_reckonWanted_96 ?_
        refine pt_iald eP_reckonWanted_97 hWa (by omega) (by omega) (by decide) ?_
        rw [show g * 128 + 2 * ((n + 1 : Nat) : Int) = 128 * g + ((2 * (n + 1) : Nat) : Int) by omega]
        refine pt_iload eP_reckonWanted_98 rfl ?_
        refine pt_min eP_reckonWanted_100 ⟨by omega, by omega⟩ ⟨by omega, by omega⟩ (by decide) (Nat.le_of_ble_eq_true rfl) (Nat.le_refl _) (Nat.le_refl _) ?_
        refine pt_min eP_reckonWanted_103 ⟨by omega, by omega⟩ ⟨by omega, by omega⟩ (by decide) (Nat.le_of_ble_eq_true rfl) (Nat.le_refl _) (Nat.le_refl _) ?_
        refine pt_iast eP_reckonWanted_106 hWa (by omega) (by omega) (by decide) ?_
        refine pt_gen ?_
        intro hp1 ev1
        have hP := pg_n ev1 (by omega) hP
        have hTh := pg_n ev1 (by omega) hTh
        have hWa := pg_s ev1
        refine pt_inc2 eP_reckonWanted_107 rfl ?_
        refine pt_goto eP_reckonWanted_110 ?_
        rw [show ((n + 1 : Nat) : Int) + -1 = (n : Int) by omega]
        refine ih _ _ hp1 (by omega) ⟨_, by rw [ev1, hI, bx_uu], fun g1 x k1 k2 k3 => ?_, fun x k1 k2 => ?_, fun l x k1 k2 k3 k4 => ?_⟩
        · rw [uI_n _ _ (by omega)]
          exact hr1 g1 x k1 k2 k3
        · by_cases hx9 : x = n + 1
          · rw [hx9, uI_s]; first | omega | (refine ⟨?_, ?_⟩ <;> omega)
          · rw [uI_n _ _ (by omega)]
            exact hr2 x (by omega) k2
        · by_cases hx9 : x = n + 1
          · subst hx9
            rw [uI_s]
            have k5 := p2_le (show l + 1 ≤ L + 1 by omega)
            rcases (show l = L ∨ l + 1 ≤ L by omega) with k6 | k6
            · subst k6
              first
              | (exfalso; omega)
              | (have k7 := hth l (n + 1) (Nat.le_refl _) k2 k3
                 rw [Nat.sub_self, wn, ← k7]
                 first | rw [if_pos (by omega)] | rw [if_neg (by omega)])
            · have k7 := p2_le k6
              first
              | (exfalso; omega)
              | (have k8 := p2_s (l + 1)
                 have k9 := p2_s l
                 have c0 := hr3 (l + 1) (2 * (n + 1)) k6 (by omega) (by omega) (by omega)
                 have c1 := hr3 (l + 1) (2 * (n + 1) + 1) k6 (by omega) (by omega) (by omega)
                 rw [show L - l = (L - (l + 1)) + 1 by omega, wn, c0, c1, tn_0, tn_1]
                 rfl)
          · rw [uI_n _ _ (by omega)]
            exact hr3 l x k1 k2 k3 (by omega)
      · have ht9 := hth L (n + 1) (Nat.le_refl _) (by omega) (by omega)
        have tb9 := tn_b (us := us) (br := br) (ms := ms) (σ := σ) (ev := ev) (bk := bk) h0 h1 ig4 iB iM iU hs.1 (hs.2.2.2.1 g h0 (by omega)) L (n + 1) (by omega)
        rw [← ht9] at tb9
        refine pt_aload eP_reckonWanted_32 rfl ?_
        refine pt_get eP_reckonWanted_33 hP rfl ?_
        refine pt_iload eP_reckonWanted_36 rfl ?_
        refine pt_aload eP_reckonWanted_37 rfl ?_
        refine pt_get eP_reckonWanted_38 hP rfl ?_
        refine pt_iload eP_reckonWanted_41 rfl ?_
        refine pt_iald eP_reckonWanted_42 hTh (by omega) (by omega) (by decide) ?_
        refine pt_ic eP_reckonWanted_43 ?_
        refine pt_cne eP_reckonWanted_44 ⟨by omega, by omega⟩ ⟨by omega, by omega⟩ (fun c44 => ?_) (fun c44 => ?_)
        · refine pt_ic eP_reckonWanted_52 ?_
          refine pt_iast eP_reckonWanted_53 hWa (by omega) (by omega) (by decide) ?_
          refine pt_gen ?_
          intro hp2 ev2
          have hP := pg_n ev2 (by omega) hP
          have hTh := pg_n ev2 (by omega) hTh
          have hWa := pg_s ev2
          refine pt_goto eP_reckonWanted_54 ?_
          refine pt_inc2 eP_reckonWanted_107 rfl ?_
          refine pt_goto eP_reckonWanted_110 ?_
          rw [show ((n + 1 : Nat) : Int) + -1 = (n : Int) by omega]
          refine ih _ _ hp2 (by omega) ⟨_, by rw [ev2, hI, bx_uu], fun g1 x k1 k2 k3 => ?_, fun x k1 k2 => ?_, fun l x k1 k2 k3 k4 => ?_⟩
          · rw [uI_n _ _ (by omega)]
            exact hr1 g1 x k1 k2 k3
          · by_cases hx9 : x = n + 1
            · rw [hx9, uI_s]; first | omega | (refine ⟨?_, ?_⟩ <;> omega)
            · rw [uI_n _ _ (by omega)]
              exact hr2 x (by omega) k2
          · by_cases hx9 : x = n + 1
            · subst hx9
              rw [uI_s]
              have k5 := p2_le (show l + 1 ≤ L + 1 by omega)
              rcases (show l = L ∨ l + 1 ≤ L by omega) with k6 | k6
              · subst k6
                first
                | (exfalso; omega)
                | (have k7 := hth l (n + 1) (Nat.le_refl _) k2 k3
                   rw [Nat.sub_self, wn, ← k7]
                   first | rw [if_pos (by omega)] | rw [if_neg (by omega)])
              · have k7 := p2_le k6
                first
                | (exfalso; omega)
                | (have k8 := p2_s (l + 1)
                   have k9 := p2_s l
                   have c0 := hr3 (l + 1) (2 * (n + 1)) k6 (by omega) (by omega) (by omega)
                   have c1 := hr3 (l + 1) (2 * (n + 1) + 1) k6 (by omega) (by omega) (by omega)
                   rw [show L - l = (L - (l + 1)) + 1 by omega, wn, c0, c1, tn_0, tn_1]
                   rfl)
            · rw [uI_n _ _ (by omega)]
              exact hr3 l x k1 k2 k3 (by omega)
        · refine pt_ic eP_reckonWanted_47 ?_
          refine pt_goto eP_reckonWanted_49 ?_
          refine pt_iast eP_reckonWanted_53 hWa (by omega) (by omega) (by decide) ?_
          refine pt_gen ?_
          intro hp3 ev3
          have hP := pg_n ev3 (by omega) hP
          have hTh := pg_n ev3 (by omega) hTh
          have hWa := pg_s ev3
          refine pt_goto eP_reckonWanted_54 ?_
          refine pt_inc2 eP_reckonWanted_107 rfl ?_
          refine pt_goto eP_reckonWanted_110 ?_
          rw [show ((n + 1 : Nat) : Int) + -1 = (n : Int) by omega]
          refine ih _ _ hp3 (by omega) ⟨_, by rw [ev3, hI, bx_uu], fun g1 x k1 k2 k3 => ?_, fun x k1 k2 => ?_, fun l x k1 k2 k3 k4 => ?_⟩
          · rw [uI_n _ _ (by omega)]
            exact hr1 g1 x k1 k2 k3
          · by_cases hx9 : x = n + 1
            · rw [hx9, uI_s]; first | omega | (refine ⟨?_, ?_⟩ <;> omega)
            · rw [uI_n _ _ (by omega)]
              exact hr2 x (by omega) k2
          · by_cases hx9 : x = n + 1
            · subst hx9
              rw [uI_s]
              have k5 := p2_le (show l + 1 ≤ L + 1 by omega)
              rcases (show l = L ∨ l + 1 ≤ L by omega) with k6 | k6
              · subst k6
                first
                | (exfalso; omega)
                | (have k7 := hth l (n + 1) (Nat.le_refl _) k2 k3
                   rw [Nat.sub_self, wn, ← k7]
                   first | rw [if_pos (by omega)] | rw [if_neg (by omega)])
              · have k7 := p2_le k6
                first
                | (exfalso; omega)
                | (have k8 := p2_s (l + 1)
                   have k9 := p2_s l
                   have c0 := hr3 (l + 1) (2 * (n + 1)) k6 (by omega) (by omega) (by omega)
                   have c1 := hr3 (l + 1) (2 * (n + 1) + 1) k6 (by omega) (by omega) (by omega)
                   rw [show L - l = (L - (l + 1)) + 1 by omega, wn, c0, c1, tn_0, tn_1]
                   rfl)
            · rw [uI_n _ _ (by omega)]
              exact hr3 l x k1 k2 k3 (by omega)
theorem cP_reckonWanted (G : pd_G) (sz : Nat) (hp : pd_P) {gp : Int} {us br ms σ : Int → Int} {ev bk gd : Int} {L : Nat} {g : Int} {th wf : Int → Int} (hP : hp 58 = PO (L : Int) gp) (hTh : hp 60 = ia 128 th) (ig4 : gd ≤ 4) (iB : okB br) (iM : okB ms) (iU : okU gd us) (hs : okS ms σ) (hL : L ≤ 6) (hLd : σ 0 + L ≤ 20) (h0 : 0 ≤ g) (h1 : g < gd) (hth : (∀ l x : Nat, l ≤ L → 2 ^ l ≤ x → x < 2 ^ (l + 1) → th (x : Int) = tn (nxf us br ms σ ev bk) g (σ (2 + g)) l x)) (hWa : hp 61 = ia 512 wf) : pd_c G mP_reckonWanted 1 [vr 58, vi g] sz hp (fun v' sz' hp' => v' = none ∧ sz' = sz ∧ (∃ f : Int → Int, hp' = va_up hp 61 (ia 512 f) ∧ (∀ g1 x : Int, g1 ≠ g → 0 ≤ x → x < 128 → f (128 * g1 + x) = wf (128 * g1 + x)) ∧ (∀ x : Nat, 0 < x → x < 2 ^ (L + 1) → 0 ≤ f (128 * g + (x : Int)) ∧ f (128 * g + (x : Int)) ≤ 7) ∧ ∀ l x : Nat, l ≤ L → 2 ^ l ≤ x → x < 2 ^ (l + 1) → 0 < x → f (128 * g + (x : Int)) = wn (nxf us br ms σ ev bk) g (L - l) l (tn (nxf us br ms σ ev bk) g (σ (2 + g)) l x))) := by
  refine pd_con kP_reckonWanted [some (vr 58), some (vi g), none, none, none] rfl rfl (Nat.le_of_ble_eq_true rfl) ?_
  have hpp : 0 < 2 ^ (L + 1) := Nat.pow_pos (by decide)
  refine pt_ic eP_reckonWanted_0 ?_
  refine pt_aload eP_reckonWanted_1 rfl ?_
  refine pt_get eP_reckonWanted_2 hP rfl ?_
  refine pt_ishl (z := ((2 ^ (L + 1) : Nat) : Int)) eP_reckonWanted_5 (jI_sh2 (by omega)) ?_
  refine pt_ic eP_reckonWanted_6 ?_
  refine pt_isub eP_reckonWanted_7 ?_
  refine pt_istore2 eP_reckonWanted_8 rfl ?_
  refine pt_lve [some (vr 58), some (vi g), some (vi ((2 ^ (L + 1) - 1 : Nat) : Int)), none, none] (by rw [show ((2 ^ (L + 1) - 1 : Nat) : Int) = ((2 ^ (L + 1) : Nat) : Int) - 1 by omega]) ?_
  refine lP_rw G sz hp hP hTh ig4 iB iM iU hs hL hLd h0 h1 hth (fun l3 l4 hp5 hI5 => ?_) (2 ^ (L + 1) - 1) none none hp (by omega) ⟨wf, pu_self hWa, fun g1 x _ _ _ => rfl, fun x k1 k2 => absurd k1 (by omega), fun l x k1 k2 k3 k4 => ?_⟩
  · refine pt_vret eP_reckonWanted_113 (Nat.le_refl _) (Nat.le_refl _) ?_
    exact ⟨rfl, rfl, hI5⟩
  · have k5 := p2_le (show l + 1 ≤ L + 1 by omega)
    exfalso; omega
theorem lP_aw (G : pd_G) (sz : Nat) (hp : pd_P) {ln gd : Int} {wf nf : Int → Int} (hP : hp 58 = PO ln gd) (hWa : hp 61 = ia 512 wf) (hNo : hp 62 = ia 4 nf) (ig4 : gd ≤ 4) (hnb : ∀ g, 0 ≤ g → g < gd → 0 ≤ nf g ∧ nf g < 128) {R : pd_R} (hx : ∀  (hp0 : pd_P), hp0 = hp → pd_t G mP_allWanted 0 R 38 [some (vr 58), some (vi (sm (fun g => wf (128 * g + nf g)) (gd : Int).toNat)), some (vi (gd))] [] sz hp0) : ∀ (n : Nat) (i : Int)  (hp0 : pd_P), 0 ≤ i → i + n = gd → hp0 = hp → pd_t G mP_allWanted 0 R 4 [some (vr 58), some (vi (sm (fun g => wf (128 * g + nf g)) (i : Int).toNat)), some (vi (i))] [] sz hp0 := by
  intro n
  induction n with
  | zero =>
    intro i  hp0 hi0 hiE he0
    have hiE2 : gd = i := by omega
    subst hiE2
    have hx2 := hx  hp0 he0
    rw [he0] at hx2
    rw [he0]
    refine pt_iload eP_allWanted_4 rfl ?_
    refine pt_aload eP_allWanted_5 rfl ?_
    refine pt_get eP_allWanted_6 hP rfl ?_
    refine pt_cge eP_allWanted_9 ⟨by omega, by omega⟩ ⟨by omega, by omega⟩ (fun c9 => ?_) (fun c9 => ?_)
    · exact hx2
    · exfalso; omega
  | succ n ih =>
    intro i  hp0 hi0 hiE he0
    rw [he0]
    refine pt_iload eP_allWanted_4 rfl ?_
    refine pt_aload eP_allWanted_5 rfl ?_
    refine pt_get eP_allWanted_6 hP rfl ?_
    refine pt_cge eP_allWanted_9 ⟨by omega, by omega⟩ ⟨by omega, by omega⟩ (fun c9 => ?_) (fun c9 => ?_)
    · exfalso; omega
    · have hn9 := hnb i hi0 (by omega)
      refine pt_iload eP_allWanted_12 rfl ?_
      refine pt_aload eP_allWanted_13 rfl ?_
      refine pt_get eP_allWanted_14 hP rfl ?_
      refine pt_iload eP_allWanted_17 rfl ?_
      refine pt_ic eP_allWanted_18 ?_
      refine pt_imul eP_allWanted_21 ?_
      refine pt_aload eP_allWanted_22 rfl ?_
      refine pt_get eP_allWanted_23 hP rfl ?_
      refine pt_iload eP_allWanted_26 rfl ?_
      refine pt_iald eP_allWanted_27 hNo (by omega) (by omega) (by decide) ?_
      refine pt_iadd eP_allWanted_28 ?_
      refine pt_iald eP_allWanted_29 hWa (by omega) (by omega) (by decide) ?_
      rw [show i * 128 + nf i = 128 * i + nf i by omega]
      refine pt_iadd eP_allWanted_30 ?_
      refine pt_istore1 eP_allWanted_31 rfl ?_
      refine pt_inc2 eP_allWanted_32 rfl ?_
      refine pt_goto eP_allWanted_35 ?_
      rw [← sm_s (f := fun g => wf (128 * g + nf g)) hi0]
      exact ih (i + 1)  hp (by omega) (by omega) rfl 
theorem cP_allWanted (G : pd_G) (sz : Nat) (hp : pd_P) {ln gd : Int} {wf nf : Int → Int} (hP : hp 58 = PO ln gd) (hWa : hp 61 = ia 512 wf) (hNo : hp 62 = ia 4 nf) (ig0 : 0 ≤ gd) (ig4 : gd ≤ 4) (hnb : ∀ g, 0 ≤ g → g < gd → 0 ≤ nf g ∧ nf g < 128) : pd_c G mP_allWanted 0 [vr 58] sz hp (pd_pure (vi (sm (fun g => wf (128 * g + nf g)) gd.toNat)) sz hp) := by
  refine pd_con kP_allWanted [some (vr 58), none, none] rfl rfl (Nat.le_of_ble_eq_true rfl) ?_
  refine pt_ic eP_allWanted_0 ?_
  refine pt_istore1 eP_allWanted_1 rfl ?_
  refine pt_ic eP_allWanted_2 ?_
  refine pt_istore2 eP_allWanted_3 rfl ?_
  refine lP_aw G sz hp hP hWa hNo ig4 hnb (fun hp5 he5 => ?_) gd.toNat 0 hp (by omega) (by omega) rfl
  rw [he5]
  refine pt_iload eP_allWanted_38 rfl ?_
  refine pt_iret eP_allWanted_39 (Nat.le_refl _) (Nat.le_refl _) ?_
  exact ⟨rfl, rfl, rfl⟩
theorem lP_de (G : pd_G) (sz : Nat) (hp : pd_P) {ln gd c : Int} {nf : Int → Int} (hP : hp 58 = PO ln gd) (ig4 : gd ≤ 4) (hc0 : -1 ≤ c) (hc4 : c < 4) {R : pd_R} (hx : ∀  (hp0 : pd_P), hp0 = (va_up hp (62) (ia 4 (blk nf (fun x => 2 * nf x + (if x = c then 1 else 0)) 0 (gd)))) → pd_t G mP_descend 0 R 41 [some (vr 58), some (vi c), some (vi (gd))] [] sz hp0) : ∀ (n : Nat) (i : Int)  (hp0 : pd_P), 0 ≤ i → i + n = gd → hp0 = (va_up hp (62) (ia 4 (blk nf (fun x => 2 * nf x + (if x = c then 1 else 0)) 0 (i)))) → pd_t G mP_descend 0 R 2 [some (vr 58), some (vi c), some (vi (i))] [] sz hp0 := by
  intro n
  induction n with
  | zero =>
    intro i  hp0 hi0 hiE he0
    have hiE2 : gd = i := by omega
    subst hiE2
    have hx2 := hx  hp0 he0
    have hP := pg_n he0 (by omega) hP
    have hNo := pg_s he0
    refine pt_iload eP_descend_2 rfl ?_
    refine pt_aload eP_descend_3 rfl ?_
    refine pt_get eP_descend_4 hP rfl ?_
    refine pt_cge eP_descend_7 ⟨by omega, by omega⟩ ⟨by omega, by omega⟩ (fun c7 => ?_) (fun c7 => ?_)
    · exact hx2
    · exfalso; omega
  | succ n ih =>
    intro i  hp0 hi0 hiE he0
    have hP := pg_n he0 (by omega) hP
    have hNo := pg_s he0
    refine pt_iload eP_descend_2 rfl ?_
    refine pt_aload eP_descend_3 rfl ?_
    refine pt_get eP_descend_4 hP rfl ?_
    refine pt_cge eP_descend_7 ⟨by omega, by omega⟩ ⟨by omega, by omega⟩ (fun c7 => ?_) (fun c7 => ?_)
    · exfalso; omega
    · refine pt_aload eP_descend_10 rfl ?_
      refine pt_get eP_descend_11 hP rfl ?_
      refine pt_iload eP_descend_14 rfl ?_
      refine pt_ic eP_descend_15 ?_
      refine pt_aload eP_descend_16 rfl ?_
      refine pt_get eP_descend_17 hP rfl ?_
      refine pt_iload eP_descend_20 rfl ?_
      refine pt_iald eP_descend_21 hNo (by omega) (by omega) (by decide) ?_
      rw [blk_out (by omega)]
      refine pt_imul eP_descend_22 ?_
      refine pt_iload eP_descend_23 rfl ?_
      refine pt_iload eP_descend_24 rfl ?_
      refine pt_cne eP_descend_25 ⟨by omega, by omega⟩ ⟨by omega, by omega⟩ (fun c25 => ?_) (fun c25 => ?_)
      · refine pt_ic eP_descend_32 ?_
        refine pt_iadd eP_descend_33 ?_
        refine pt_iast eP_descend_34 hNo (by omega) (by omega) (by decide) ?_
        refine pt_gen ?_
        intro hp1 ev1
        have hP := pg_n ev1 (by omega) hP
        have hNo := pg_s ev1
        refine pt_inc2 eP_descend_35 rfl ?_
        refine pt_goto eP_descend_38 ?_
        have hfin : hp1 = (va_up hp (62) (ia 4 (blk nf (fun x => 2 * nf x + (if x = c then 1 else 0)) 0 ((i + 1))))) := by
          rw [ev1, he0]
          have k2 := blk_s (f := nf) (g := (fun x => 2 * nf x + (if x = c then 1 else 0))) (a := 0) (n := i) hi0
          rw [Int.zero_add] at k2
          rw [bx_uu, ← k2]
          first | rw [if_neg c25] | rw [if_pos c25]
        exact ih (i + 1)  _ (by omega) (by omega) hfin 
      · refine pt_ic eP_descend_28 ?_
        refine pt_goto eP_descend_29 ?_
        refine pt_iadd eP_descend_33 ?_
        refine pt_iast eP_descend_34 hNo (by omega) (by omega) (by decide) ?_
        refine pt_gen ?_
        intro hp2 ev2
        have hP := pg_n ev2 (by omega) hP
        have hNo := pg_s ev2
        refine pt_inc2 eP_descend_35 rfl ?_
        refine pt_goto eP_descend_38 ?_
        have hfin : hp2 = (va_up hp (62) (ia 4 (blk nf (fun x => 2 * nf x + (if x = c then 1 else 0)) 0 ((i + 1))))) := by
          rw [ev2, he0]
          have k2 := blk_s (f := nf) (g := (fun x => 2 * nf x + (if x = c then 1 else 0))) (a := 0) (n := i) hi0
          rw [Int.zero_add] at k2
          rw [bx_uu, ← k2]
          first | rw [if_neg c25] | rw [if_pos c25]
        exact ih (i + 1)  _ (by omega) (by omega) hfin 
theorem cP_descend (G : pd_G) (sz : Nat) (hp : pd_P) {ln gd c : Int} {nf : Int → Int} (hP : hp 58 = PO ln gd) (hNo : hp 62 = ia 4 nf) (ig0 : 0 ≤ gd) (ig4 : gd ≤ 4) (hc0 : -1 ≤ c) (hc4 : c < 4) : pd_c G mP_descend 0 [vr 58, vi c] sz hp (fun v' sz' hp' => v' = none ∧ sz' = sz ∧ hp' = va_up hp 62 (ia 4 (blk nf (fun x => 2 * nf x + (if x = c then 1 else 0)) 0 gd))) := by
  refine pd_con kP_descend [some (vr 58), some (vi c), none] rfl rfl (Nat.le_of_ble_eq_true rfl) ?_
  refine pt_ic eP_descend_0 ?_
  refine pt_istore2 eP_descend_1 rfl ?_
  refine lP_de G sz hp hP ig4 hc0 hc4 (fun hp5 he5 => ?_) gd.toNat 0 hp (by omega) (by omega) (by rw [blk_0]; exact pu_self hNo)
  refine pt_vret eP_descend_41 (Nat.le_refl _) (Nat.le_refl _) ?_
  exact ⟨rfl, rfl, he5⟩
theorem lP_as (G : pd_G) (sz : Nat) (hp : pd_P) {ln gd : Int} {nf : Int → Int} (hP : hp 58 = PO ln gd) (ig4 : gd ≤ 4) (hnb : ∀ g, 0 ≤ g → g < gd → 0 ≤ nf g ∧ nf g < 1000) {R : pd_R} (hx : ∀  (hp0 : pd_P), hp0 = (va_up hp (62) (ia 4 (blk nf (fun x => nf x / 2) 0 (gd)))) → pd_t G mP_ascend 0 R 30 [some (vr 58), some (vi (gd))] [] sz hp0) : ∀ (n : Nat) (i : Int)  (hp0 : pd_P), 0 ≤ i → i + n = gd → hp0 = (va_up hp (62) (ia 4 (blk nf (fun x => nf x / 2) 0 (i)))) → pd_t G mP_ascend 0 R 2 [some (vr 58), some (vi (i))] [] sz hp0 := by
  intro n
  induction n with
  | zero =>
    intro i  hp0 hi0 hiE he0
    have hiE2 : gd = i := by omega
    subst hiE2
    have hx2 := hx  hp0 he0
    have hP := pg_n he0 (by omega) hP
    have hNo := pg_s he0
    refine pt_iload eP_ascend_2 rfl ?_
    refine pt_aload eP_ascend_3 rfl ?_
    refine pt_get eP_ascend_4 hP rfl ?_
    refine pt_cge eP_ascend_7 ⟨by omega, by omega⟩ ⟨by omega, by omega⟩ (fun c7 => ?_) (fun c7 => ?_)
    · exact hx2
    · exfalso; omega
  | succ n ih =>
    intro i  hp0 hi0 hiE he0
    have hP := pg_n he0 (by omega) hP
    have hNo := pg_s he0
    refine pt_iload eP_ascend_2 rfl ?_
    refine pt_aload eP_ascend_3 rfl ?_
    refine pt_get eP_ascend_4 hP rfl ?_
    refine pt_cge eP_ascend_7 ⟨by omega, by omega⟩ ⟨by omega, by omega⟩ (fun c7 => ?_) (fun c7 => ?_)
    · exfalso; omega
    · have hn9 := hnb i hi0 (by omega)
      refine pt_aload eP_ascend_10 rfl ?_
      refine pt_get eP_ascend_11 hP rfl ?_
      refine pt_iload eP_ascend_14 rfl ?_
      refine pt_aload eP_ascend_15 rfl ?_
      refine pt_get eP_ascend_16 hP rfl ?_
      refine pt_iload eP_ascend_19 rfl ?_
      refine pt_iald eP_ascend_20 hNo (by omega) (by omega) (by decide) ?_
      rw [blk_out (by omega)]
      refine pt_ic eP_ascend_21 ?_
      refine pt_idiv eP_ascend_22 (by omega) (by omega) (by omega) (by omega) ?_
      refine pt_iast eP_ascend_23 hNo (by omega) (by omega) (by decide) ?_
      refine pt_gen ?_
      intro hp1 ev1
      have hP := pg_n ev1 (by omega) hP
      have hNo := pg_s ev1
      refine pt_inc1 eP_ascend_24 rfl ?_
      refine pt_goto eP_ascend_27 ?_
      have hfin : hp1 = (va_up hp (62) (ia 4 (blk nf (fun x => nf x / 2) 0 ((i + 1))))) := by
        rw [ev1, he0]
        have k2 := blk_s (f := nf) (g := fun x => nf x / 2) (a := 0) (n := i) hi0
        rw [Int.zero_add] at k2
        rw [bx_uu, ← k2]
      exact ih (i + 1)  _ (by omega) (by omega) hfin 
theorem cP_ascend (G : pd_G) (sz : Nat) (hp : pd_P) {ln gd : Int} {nf : Int → Int} (hP : hp 58 = PO ln gd) (hNo : hp 62 = ia 4 nf) (ig0 : 0 ≤ gd) (ig4 : gd ≤ 4) (hnb : ∀ g, 0 ≤ g → g < gd → 0 ≤ nf g ∧ nf g < 1000) : pd_c G mP_ascend 0 [vr 58] sz hp (fun v' sz' hp' => v' = none ∧ sz' = sz ∧ hp' = va_up hp 62 (ia 4 (blk nf (fun x => nf x / 2) 0 gd))) := by
  refine pd_con kP_ascend [some (vr 58), none] rfl rfl (Nat.le_of_ble_eq_true rfl) ?_
  refine pt_ic eP_ascend_0 ?_
  refine pt_istore1 eP_ascend_1 rfl ?_
  refine lP_as G sz hp hP ig4 hnb (fun hp5 he5 => ?_) gd.toNat 0 hp (by omega) (by omega) (by rw [blk_0]; exact pu_self hNo)
  refine pt_vret eP_ascend_30 (Nat.le_refl _) (Nat.le_refl _) ?_
  exact ⟨rfl, rfl, he5⟩
