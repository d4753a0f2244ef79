theorem lR_wh (G : pd_G) (sz : Nat) (hp : pd_P) {v : Nat → Int} {f0 we wo T : Int → Int} {w0 g w o c b m r : Int} (hR : hp 178 = RO v) (h_most : hp 194 = ia 305 f0) (h_weight : hp 184 = ia 8 we) (h_worth : hp 185 = ia 8 wo) (hrow : ∀ x, 0 ≤ x → x ≤ 60 → f0 (61 * (o + 1) + x) = T x) (hfb : f0 (61 * o + w) = b) (ho0 : 0 ≤ o) (ho1 : o < 4) (hw0 : 0 ≤ w) (hw1 : w ≤ 60) (hT : ∀ x, 0 ≤ T x ∧ T x ≤ 1080) (hb : 0 ≤ b ∧ b ≤ 1080) (hwo : 0 ≤ wo o ∧ wo o ≤ 9) (hwe : 1 ≤ we o ∧ we o ≤ 9) (hm1 : m < 62) (hm2 : m ≤ c) (hm3 : m * we o ≤ w) (hm4 : m * wo o + T (w - m * we o) = b) {R : pd_R} (hx : pd_t G mR_carry 5 R 131 [some (vr 178), some (vi w0), some (vi g), some (vi w), some (vi r), some (vi o)] [] sz hp) : ∀ (fu : Nat) (n : Int), 0 ≤ n → n ≤ m → m < n + fu → lst (wo o) (we o) c w T b fu n = r → pd_t G mR_carry 5 R 74 [some (vr 178), some (vi w0), some (vi g), some (vi w), some (vi n), some (vi o)] [] sz hp := by
  intro fu
  induction fu with
  | zero =>
    intro n hn0 hnm hnE hres
    exfalso; omega
  | succ fu ih =>
    intro n hn0 hnm hnE hres
    have hmo : n * we o ≤ m * we o := Int.mul_le_mul_of_nonneg_right hnm (by omega)
    have m1 := mul_b hn0 (show n ≤ 62 by omega) hwo.1 hwo.2
    have m2 := mul_b hn0 (show n ≤ 62 by omega) (show 0 ≤ we o by omega) hwe.2
    have hTb := hT (w - n * we o)
    have hrw := hrow (w - n * we o) (by omega) (by omega)
    rw [lst, if_pos ⟨by omega, by omega⟩] at hres
    refine pt_iload eR_carry_74 rfl ?_
    refine pt_aload eR_carry_76 rfl ?_
    refine pt_get eR_carry_77 hR rfl ?_
    refine pt_iload eR_carry_80 rfl ?_
    refine pt_iald eR_carry_82 h_worth (by omega) (by omega) (by decide) ?_
    refine pt_imul eR_carry_83 ?_
    refine pt_aload eR_carry_84 rfl ?_
    refine pt_get eR_carry_85 hR rfl ?_
    refine pt_ic eR_carry_88 ?_
    refine pt_iload eR_carry_90 rfl ?_
    refine pt_ic eR_carry_92 ?_
    refine pt_iadd eR_carry_93 ?_
    refine pt_imul eR_carry_94 ?_
    refine pt_iload eR_carry_95 rfl ?_
    refine pt_iadd eR_carry_96 ?_
    refine pt_iload eR_carry_97 rfl ?_
    refine pt_aload eR_carry_99 rfl ?_
    refine pt_get eR_carry_100 hR rfl ?_
    refine pt_iload eR_carry_103 rfl ?_
    refine pt_iald eR_carry_105 h_weight (by omega) (by omega) (by decide) ?_
    refine pt_imul eR_carry_106 ?_
    refine pt_isub eR_carry_107 ?_
    refine pt_iald eR_carry_108 h_most (by omega) (by omega) (by decide) ?_
    rw [show 61 * (o + 1) + w - n * we o = 61 * (o + 1) + (w - n * we o) by omega, hrw]
    refine pt_iadd eR_carry_109 ?_
    refine pt_aload eR_carry_110 rfl ?_
    refine pt_get eR_carry_111 hR rfl ?_
    refine pt_ic eR_carry_114 ?_
    refine pt_iload eR_carry_116 rfl ?_
    refine pt_imul eR_carry_118 ?_
    refine pt_iload eR_carry_119 rfl ?_
    refine pt_iadd eR_carry_120 ?_
    refine pt_iald eR_carry_121 h_most (by omega) (by omega) (by decide) ?_
    rw [hfb]
    refine pt_ceq eR_carry_122 ⟨by omega, by omega⟩ ⟨by omega, by omega⟩ (fun c122 => ?_) (fun c122 => ?_)
    · rw [if_pos (by omega)] at hres
      rw [hres]
      exact hx
    · refine pt_inc4 eR_carry_125 rfl ?_
      refine pt_goto eR_carry_128 ?_
      rw [if_neg (by omega)] at hres
      have hnn : n ≠ m := fun he => by rw [he] at c122; omega
      exact ih (n + 1) (by omega) (by omega) (by omega) hres
theorem lR_ca (G : pd_G) (sz : Nat) (hp : pd_P) {v : Nat → Int} {gf df ms σ we wo : Int → Int} (hR : hp 178 = RO v) (h_goods : hp 181 = ia 2 gf) (h_door : hp 180 = ia 4 df) (h_missed : hp 187 = ia 160 ms) (h_now : hp 188 = ia 90 σ) (h_weight : hp 184 = ia 8 we) (h_worth : hp 185 = ia 8 wo) (ig0 : 0 ≤ gf 0) (ig4 : gf 0 ≤ 4) (id0 : 1 ≤ df 0) (id1 : df 0 ≤ 9) (id2 : 1 ≤ df 1) (id3 : df 1 ≤ 9) (hs : okS ms σ) (hok : okC (canf (df 0) (df 1) ms σ) wo we (gf 0)) {f0 : Int → Int} {W g : Int} (h_most : hp 194 = ia 305 f0) (hrow : ∀ g1 x, 0 ≤ g1 → g1 ≤ gf 0 → 0 ≤ x → x ≤ 60 → f0 (61 * g1 + x) = Bf (canf (df 0) (df 1) ms σ) wo we (gf 0) (g1) (x)) (hg0 : 0 ≤ g) (hg1 : g < gf 0) (hW0 : 0 ≤ W) (hW1 : W ≤ 60) {R : pd_R} (hx : ∀  (hp0 : pd_P), hp0 = hp → pd_t G mR_carry 5 R 150 [some (vr 178), some (vi W), some (vi g), some (vi (lff (canf (df 0) (df 1) ms σ) wo we (gf 0) W (g + 1 : Int).toNat)), some (vi (if (g + 1 : Int) = 0 then 0 else lcf (canf (df 0) (df 1) ms σ) wo we (gf 0) (g + 1 - 1) (lff (canf (df 0) (df 1) ms σ) wo we (gf 0) W (g + 1 - 1 : Int).toNat))), some (vi (g + 1))] [] sz hp0) : ∀ (n : Nat) (i : Int)  (hp0 : pd_P), 0 ≤ i → i + n = g + 1 → hp0 = hp → pd_t G mR_carry 5 R 65 [some (vr 178), some (vi W), some (vi g), some (vi (lff (canf (df 0) (df 1) ms σ) wo we (gf 0) W (i : Int).toNat)), some (vi (if (i : Int) = 0 then 0 else lcf (canf (df 0) (df 1) ms σ) wo we (gf 0) (i - 1) (lff (canf (df 0) (df 1) ms σ) wo we (gf 0) W (i - 1 : Int).toNat))), some (vi (i))] [] sz hp0 := by
  intro n
  induction n with
  | zero =>
    intro i  hp0 hi0 hiE hI
    have hiE2 : g + 1 = i := by omega
    subst hiE2
    have hx2 := hx  hp0 hI
    rw [hI]
    rw [hI] at hx2
    refine pt_iload eR_carry_65 rfl ?_
    refine pt_iload eR_carry_67 rfl ?_
    refine pt_cgt eR_carry_68 ⟨by omega, by omega⟩ ⟨by omega, by omega⟩ (fun c68 => ?_) (fun c68 => ?_)
    · exact hx2
    · exfalso; omega
  | succ n ih =>
    intro i  hp0 hi0 hiE hI
    rw [hI]
    refine pt_iload eR_carry_65 rfl ?_
    refine pt_iload eR_carry_67 rfl ?_
    refine pt_cgt eR_carry_68 ⟨by omega, by omega⟩ ⟨by omega, by omega⟩ (fun c68 => ?_) (fun c68 => ?_)
    · exfalso; omega
    · refine pt_ic eR_carry_71 ?_
      refine pt_istore4 eR_carry_72 rfl ?_
      obtain ⟨l1, l2⟩ := lff_r hok ig4 hW0 i.toNat (by omega)
      obtain ⟨k1, k2, k3⟩ := hok i hi0 (by omega)
      obtain ⟨r1, r2, r3⟩ := lcf_r hok hi0 (by omega) ig4 l1
      have e9 := lff_s (C := (canf (df 0) (df 1) ms σ)) (WO := wo) (WE := we) (gd := gf 0) (W := W) hi0
      obtain ⟨m, m0, m1, m2, m3, m4⟩ := Bf_hit hok hi0 (by omega) ig4 l1
      refine lR_wh G sz hp hR h_most h_weight h_worth (fun x h0 h1 => hrow (i + 1) x (by omega) (by omega) h0 h1) (hrow i _ hi0 (by omega) l1 (by omega)) hi0 (by omega) l1 (by omega) (fun x => Bf_b hok (by omega) (by omega) ig4 x) (Bf_b hok hi0 (by omega) ig4 _) k2 k3 m1 m2 m3 m4 (r := lcf (canf (df 0) (df 1) ms σ) wo we (gf 0) i (lff (canf (df 0) (df 1) ms σ) wo we (gf 0) W i.toNat)) ?_ 62 0 (by omega) m0 (by omega) rfl
      refine pt_iload eR_carry_131 rfl ?_
      refine pt_iload eR_carry_132 rfl ?_
      refine pt_aload eR_carry_134 rfl ?_
      refine pt_get eR_carry_135 hR rfl ?_
      refine pt_iload eR_carry_138 rfl ?_
      refine pt_iald eR_carry_140 h_weight (by omega) (by omega) (by decide) ?_
      refine pt_imul eR_carry_141 ?_
      refine pt_isub eR_carry_142 ?_
      refine pt_istore3 eR_carry_143 rfl ?_
      refine pt_inc5 eR_carry_144 rfl ?_
      refine pt_goto eR_carry_147 ?_
      refine pt_lve [some (vr 178), some (vi W), some (vi g), some (vi (lff (canf (df 0) (df 1) ms σ) wo we (gf 0) W (i + 1 : Int).toNat)), some (vi (if (i + 1 : Int) = 0 then 0 else lcf (canf (df 0) (df 1) ms σ) wo we (gf 0) (i + 1 - 1) (lff (canf (df 0) (df 1) ms σ) wo we (gf 0) W (i + 1 - 1 : Int).toNat))), some (vi (i + 1))] (by rw [if_neg (by omega), show i + 1 - 1 = i by omega, e9]) ?_
      exact ih (i + 1) hp (by omega) (by omega) rfl
theorem xR_carry (G : pd_G) (sz : Nat) (hp : pd_P) {q : Nat → Int → Int} {v : Nat → Int} (hM : MW hp q v) (hI : IN q v) {w : Int} (j_w : jR w) {g : Int} (j_g : jR g) : pd_c G mR_carry 5 [vr 178, vi w, vi g] sz hp (mPosG hp sz q v (rCarry q w g)) := by
  refine pd_con kR_carry [some (vr 178), some (vi w), some (vi g), none, none, none] rfl rfl (Nat.le_of_ble_eq_true rfl) ?_
  obtain ⟨⟨ig0, ig4⟩, ⟨id0, id1, id2, id3⟩, iB, iM, iU, iF, iS, iP, iI, ⟨is0, is4, isx⟩, ⟨im0, im4, imx⟩, it0, it1⟩ := hI
  have k_w := j_w
  unfold jR at k_w
  have k_g := j_g
  unfold jR at k_g
  have hR := hM.1
  have h_goods := hM.w_goods
  have h_door := hM.w_door
  have h_missed := hM.w_missed
  have h_now := hM.w_now
  have h_weight := hM.w_weight
  have h_worth := hM.w_worth
  have h_most := hM.w_most
  have hok : okC (canf (q 2 0) (q 2 1) (q 9) (q 17)) (q 7) (q 6) (q 3 0) := fun g h0 h1 => ⟨canf_r id2 iS iM h0 (by omega), (iF g h0 h1).2.2, (iF g h0 h1).2.1⟩
  refine pt_iload eR_carry_0 rfl ?_
  refine pt_ic eR_carry_1 ?_
  refine pt_ic eR_carry_2 ?_
  refine pt_ks3r eR_carry_4 (cR_in G sz _ (by unfold jR at *; omega) (by unfold jR at *; omega) (by unfold jR at *; omega)) (Nat.le_of_ble_eq_true rfl) (by decide) (Nat.le_refl _) (Nat.le_refl _) ?_
  refine pt_zeq eR_carry_7 (pwi_j _ _ _) (fun c7 => ?_) (fun c7 => ?_)
  · refine pt_ic eR_carry_23 ?_
    refine pt_iret eR_carry_24 (Nat.le_refl _) (Nat.le_refl _) ?_
    first
    | (have c7 := pwi_0 c7
       rw [show rCarry q w g = -1 by unfold rCarry; rw [if_pos (fun z => c7 z.1)]]
       exact mPosG_0 hM)
    | (have c20 := pwi_0 c20
       rw [show rCarry q w g = -1 by unfold rCarry; rw [if_pos (fun z => z.2.elim c12 c20)]]
       exact mPosG_0 hM)
  · have c7 := pwi_1 c7
    refine pt_iload eR_carry_10 rfl ?_
    refine pt_ic eR_carry_11 ?_
    refine pt_ceq eR_carry_12 ⟨by omega, by omega⟩ ⟨by omega, by omega⟩ (fun c12 => ?_) (fun c12 => ?_)
    · have cg : (0 ≤ w ∧ w ≤ 60) ∧ (g = -1 ∨ (0 ≤ g ∧ g ≤ q 3 0 - 1)) := by
        first
        | exact ⟨c7, Or.inl c12⟩
        | exact ⟨c7, Or.inr (pwi_1 c20)⟩
      have hrc : rCarry q w g = if opf (q 2 0) (q 2 1) (q 17) = -9 then -9 else if g = -1 then Bf (cCf q) (q 7) (q 6) (q 3 0) 0 w else lcf (cCf q) (q 7) (q 6) (q 3 0) g (lff (cCf q) (q 7) (q 6) (q 3 0) w g.toNat) := by unfold rCarry; rw [if_neg (fun z => z cg)]
      have hop := opf_r (ev := q 2 0) (bk := q 2 1) (σ := q 17) id2 iS.1
      have hi9 := iS.2.1
      refine pt_aload eR_carry_25 rfl ?_
      refine pt_aload eR_carry_26 rfl ?_
      refine pt_get eR_carry_27 hR rfl ?_
      refine pt_kv1r eR_carry_30 (cR_opens G sz _ hR h_door h_now id0 id1 id2 id3 iS.1 iS.2.1 iS.2.2.1) hR rfl (Nat.le_of_ble_eq_true rfl) (by decide) (Nat.le_refl _) (Nat.le_refl _) ?_
      refine pt_ic eR_carry_33 ?_
      refine pt_cne eR_carry_35 ⟨by omega, by omega⟩ ⟨by omega, by omega⟩ (fun c35 => ?_) (fun c35 => ?_)
      · refine pt_aload eR_carry_41 rfl ?_
        refine pt_kv0 eR_carry_42 (cR_tellMost G sz _ hR h_goods h_door h_missed h_now h_weight h_worth ig0 ig4 id0 id1 id2 id3 iS hok h_most) hR rfl (Nat.le_of_ble_eq_true rfl) (by decide) (Nat.le_refl _) (Nat.le_refl _) ?_
        rintro v2 sz2 hpx ⟨rfl, hz9, f9, hx9, hr9⟩
        obtain rfl := hz9.symm
        have hM1 : MW hpx (va_up q 23 f9) v := by rw [hx9]; exact hM.s_most f9
        have hR := hM1.1
        have h_most : hpx 194 = ia 305 f9 := hM1.w_most
        have h_goods : hpx 181 = ia 2 (q 3) := hM1.w_goods
        have h_door : hpx 180 = ia 4 (q 2) := hM1.w_door
        have h_missed : hpx 187 = ia 160 (q 9) := hM1.w_missed
        have h_now : hpx 188 = ia 90 (q 17) := hM1.w_now
        have h_weight : hpx 184 = ia 8 (q 6) := hM1.w_weight
        have h_worth : hpx 185 = ia 8 (q 7) := hM1.w_worth
        refine pt_iload eR_carry_45 rfl ?_
        refine pt_ic eR_carry_46 ?_
        refine pt_cne eR_carry_47 ⟨by omega, by omega⟩ ⟨by omega, by omega⟩ (fun c47 => ?_) (fun c47 => ?_)
        · refine pt_iload eR_carry_57 rfl ?_
          refine pt_istore3 eR_carry_58 rfl ?_
          refine pt_ic eR_carry_59 ?_
          refine pt_istore4 eR_carry_60 rfl ?_
          refine pt_ic eR_carry_62 ?_
          refine pt_istore5 eR_carry_63 rfl ?_
          refine lR_ca G sz hpx hR h_goods h_door h_missed h_now h_weight h_worth ig0 ig4 id0 id1 id2 id3 iS hok h_most hr9 (g := g) (W := w) (by omega) (by omega) (by omega) (by omega) (fun hp5 he5 => ?_) (g + 1).toNat 0 hpx (by omega) (by omega) rfl
          rw [he5, if_neg (by omega), show g + 1 - 1 = g by omega]
          refine pt_iload eR_carry_150 rfl ?_
          refine pt_iret eR_carry_152 (Nat.le_refl _) (Nat.le_refl _) ?_
          rw [hrc, if_neg c35, if_neg c47]
          exact ⟨rfl, rfl, ⟨va_up q 23 f9, fun j _ h2 _ => va_up_ne _ _ h2, hM1⟩, fr.rf.up hx9 (by decide) (by decide)⟩
        · refine pt_aload eR_carry_50 rfl ?_
          refine pt_get eR_carry_51 hR rfl ?_
          refine pt_iload eR_carry_54 rfl ?_
          refine pt_iald eR_carry_55 h_most (by omega) (by omega) (by decide) ?_
          refine pt_iret eR_carry_56 (Nat.le_refl _) (Nat.le_refl _) ?_
          rw [hrc, if_neg c35, if_pos c47]
          have h8 := hr9 0 w (by omega) ig0 (by omega) (by omega)
          rw [show 61 * (0 : Int) + w = w by omega] at h8
          rw [h8]
          exact ⟨rfl, rfl, ⟨va_up q 23 f9, fun j _ h2 _ => va_up_ne _ _ h2, hM1⟩, fr.rf.up hx9 (by decide) (by decide)⟩
      · refine pt_ic eR_carry_38 ?_
        refine pt_iret eR_carry_40 (Nat.le_refl _) (Nat.le_refl _) ?_
        rw [hrc, if_pos c35]
        exact mPosG_0 hM
    · refine pt_aload eR_carry_15 rfl ?_
      refine pt_iload eR_carry_16 rfl ?_
      refine pt_kv1r eR_carry_17 (cR_isGood G sz _ hR h_goods j_g ig0 ig4) hR rfl (Nat.le_of_ble_eq_true rfl) (by decide) (Nat.le_refl _) (Nat.le_refl _) ?_
      refine pt_zne eR_carry_20 (pwi_j _ _ _) (fun c20 => ?_) (fun c20 => ?_)
      · have cg : (0 ≤ w ∧ w ≤ 60) ∧ (g = -1 ∨ (0 ≤ g ∧ g ≤ q 3 0 - 1)) := by
          first
          | exact ⟨c7, Or.inl c12⟩
          | exact ⟨c7, Or.inr (pwi_1 c20)⟩
        have hrc : rCarry q w g = if opf (q 2 0) (q 2 1) (q 17) = -9 then -9 else if g = -1 then Bf (cCf q) (q 7) (q 6) (q 3 0) 0 w else lcf (cCf q) (q 7) (q 6) (q 3 0) g (lff (cCf q) (q 7) (q 6) (q 3 0) w g.toNat) := by unfold rCarry; rw [if_neg (fun z => z cg)]
        have hop := opf_r (ev := q 2 0) (bk := q 2 1) (σ := q 17) id2 iS.1
        have hi9 := iS.2.1
        refine pt_aload eR_carry_25 rfl ?_
        refine pt_aload eR_carry_26 rfl ?_
        refine pt_get eR_carry_27 hR rfl ?_
        refine pt_kv1r eR_carry_30 (cR_opens G sz _ hR h_door h_now id0 id1 id2 id3 iS.1 iS.2.1 iS.2.2.1) hR rfl (Nat.le_of_ble_eq_true rfl) (by decide) (Nat.le_refl _) (Nat.le_refl _) ?_
        refine pt_ic eR_carry_33 ?_
        refine pt_cne eR_carry_35 ⟨by omega, by omega⟩ ⟨by omega, by omega⟩ (fun c35 => ?_) (fun c35 => ?_)
        · refine pt_aload eR_carry_41 rfl ?_
          refine pt_kv0 eR_carry_42 (cR_tellMost G sz _ hR h_goods h_door h_missed h_now h_weight h_worth ig0 ig4 id0 id1 id2 id3 iS hok h_most) hR rfl (Nat.le_of_ble_eq_true rfl) (by decide) (Nat.le_refl _) (Nat.le_refl _) ?_
          rintro v2 sz2 hpx ⟨rfl, hz9, f9, hx9, hr9⟩
          obtain rfl := hz9.symm
          have hM1 : MW hpx (va_up q 23 f9) v := by rw [hx9]; exact hM.s_most f9
          have hR := hM1.1
          have h_most : hpx 194 = ia 305 f9 := hM1.w_most
          have h_goods : hpx 181 = ia 2 (q 3) := hM1.w_goods
          have h_door : hpx 180 = ia 4 (q 2) := hM1.w_door
          have h_missed : hpx 187 = ia 160 (q 9) := hM1.w_missed
          have h_now : hpx 188 = ia 90 (q 17) := hM1.w_now
          have h_weight : hpx 184 = ia 8 (q 6) := hM1.w_weight
          have h_worth : hpx 185 = ia 8 (q 7) := hM1.w_worth
          refine pt_iload eR_carry_45 rfl ?_
          refine pt_ic eR_carry_46 ?_
          refine pt_cne eR_carry_47 ⟨by omega, by omega⟩ ⟨by omega, by omega⟩ (fun c47 => ?_) (fun c47 => ?_)
          · refine pt_iload eR_carry_57 rfl ?_
            refine pt_istore3 eR_carry_58 rfl ?_
            refine pt_ic eR_carry_59 ?_
            refine pt_istore4 eR_carry_60 rfl ?_
            refine pt_ic eR_carry_62 ?_
            refine pt_istore5 eR_carry_63 rfl ?_
            refine lR_ca G sz hpx hR h_goods h_door h_missed h_now h_weight h_worth ig0 ig4 id0 id1 id2 id3 iS hok h_most hr9 (g := g) (W := w) (by omega) (by omega) (by omega) (by omega) (fun hp5 he5 => ?_) (g + 1).toNat 0 hpx (by omega) (by omega) rfl
            rw [he5, if_neg (by omega), show g + 1 - 1 = g by omega]
            refine pt_iload eR_carry_150 rfl ?_
            refine pt_iret eR_carry_152 (Nat.le_refl _) (Nat.le_refl _) ?_
            rw [hrc, if_neg c35, if_neg c47]
            exact ⟨rfl, rfl, ⟨va_up q 23 f9, fun j _ h2 _ => va_up_ne _ _ h2, hM1⟩, fr.rf.up hx9 (by decide) (by decide)⟩
          · refine pt_aload eR_carry_50 rfl ?_
            refine pt_get eR_carry_51 hR rfl ?_
            refine pt_iload eR_carry_54 rfl ?_
            refine pt_iald eR_carry_55 h_most (by omega) (by omega) (by decide) ?_
            refine pt_iret eR_carry_56 (Nat.le_refl _) (Nat.le_refl _) ?_
            rw [hrc, if_neg c35, if_pos c47]
            have h8 := hr9 0 w (by omega) ig0 (by omega) (by omega)
            rw [show 61 * (0 : Int) + w = w by omega] at h8
            rw [h8]
            exact ⟨rfl, rfl, ⟨va_up q 23 f9, fun j _ h2 _ => va_up_ne _ _ h2, hM1⟩, fr.rf.up hx9 (by decide) (by decide)⟩
        · refine pt_ic eR_carry_38 ?_
          refine pt_iret eR_carry_40 (Nat.le_refl _) (Nat.le_refl _) ?_
          rw [hrc, if_pos c35]
          exact mPosG_0 hM
      · refine pt_ic eR_carry_23 ?_
        refine pt_iret eR_carry_24 (Nat.le_refl _) (Nat.le_refl _) ?_
        first
        | (have c7 := pwi_0 c7
           rw [show rCarry q w g = -1 by unfold rCarry; rw [if_pos (fun z => c7 z.1)]]
           exact mPosG_0 hM)
        | (have c20 := pwi_0 c20
           rw [show rCarry q w g = -1 by unfold rCarry; rw [if_pos (fun z => z.2.elim c12 c20)]]
           exact mPosG_0 hM)
theorem cD_worthWith (G : pd_G) (sz : Nat) (hp : pd_P) {to dr : Nat} {se ga gd ev bk : Int} {we wo be : Int → Int} {g n w : Int} (hD : hp 1 = DO to dr se ga) (hH : hp to = HO to gd ev bk) (hH3 : hp (to + 3) = ia 4 we) (hH4 : hp (to + 4) = ia 4 wo) (hBe : hp 57 = ia 305 be) (h0 : 0 ≤ g) (h1 : g < 4) (h2 : 0 ≤ w - n * we g) (h3 : w - n * we g ≤ 60) : pd_c G mD_worthWith 0 [vr 1, vi g, vi n, vi w] sz hp (pd_pure (vi (n * wo g + be (61 * (g + 1) + (w - n * we g)))) sz hp) := by
  refine pd_con kD_worthWith [some (vr 1), some (vi g), some (vi n), some (vi w)] rfl rfl (Nat.le_of_ble_eq_true rfl) ?_
  refine pt_iload eD_worthWith_0 rfl ?_
  refine pt_aload eD_worthWith_1 rfl ?_
  refine pt_get eD_worthWith_2 hD rfl ?_
  refine pt_get eD_worthWith_5 hH rfl ?_
  refine pt_iload eD_worthWith_8 rfl ?_
  refine pt_iald eD_worthWith_9 hH4 (by omega) (by omega) (by decide) ?_
  refine pt_imul eD_worthWith_10 ?_
  refine pt_aload eD_worthWith_11 rfl ?_
  refine pt_get eD_worthWith_12 hD rfl ?_
  refine pt_iload eD_worthWith_15 rfl ?_
  refine pt_ic eD_worthWith_16 ?_
  refine pt_iadd eD_worthWith_17 ?_
  refine pt_ic eD_worthWith_18 ?_
  refine pt_imul eD_worthWith_20 ?_
  refine pt_iload eD_worthWith_21 rfl ?_
  refine pt_iadd eD_worthWith_22 ?_
  refine pt_iload eD_worthWith_23 rfl ?_
  refine pt_aload eD_worthWith_24 rfl ?_
  refine pt_get eD_worthWith_25 hD rfl ?_
  refine pt_get eD_worthWith_28 hH rfl ?_
  refine pt_iload eD_worthWith_31 rfl ?_
  refine pt_iald eD_worthWith_32 hH3 (by omega) (by omega) (by decide) ?_
  refine pt_imul eD_worthWith_33 ?_
  refine pt_isub eD_worthWith_34 ?_
  refine pt_iald eD_worthWith_35 hBe (by omega) (by omega) (by decide) ?_
  rw [show (g + 1) * 61 + w - n * we g = 61 * (g + 1) + (w - n * we g) by omega]
  refine pt_iadd eD_worthWith_36 ?_
  refine pt_iret eD_worthWith_37 (Nat.le_refl _) (Nat.le_refl _) ?_
  exact ⟨rfl, rfl, rfl⟩
theorem lD_rl1 (G : pd_G) (sz : Nat) (hp : pd_P) {to dr : Nat} {se ga gd ev bk kn : Int} {ms σ we wo WE WO : Int → Int} (hto : 5 + 4 ≤ to) (hD : hp 1 = DO to dr se ga) (hH : hp to = HO to gd ev bk) (hH6 : hp (to + 6) = ia 80 ms) (hH3 : hp (to + 3) = ia 4 we) (hH4 : hp (to + 4) = ia 4 wo) (hL : hp 5 = LO 5 kn) (hN : hp (5 + 1) = SO (5 + 1) (σ 0) (σ 1)) (hNk : hp (5 + 1 + 3) = ia 80 (fun k => σ (10 + k))) (ig0 : 0 ≤ gd) (ig4 : gd ≤ 4) (id0 : 1 ≤ ev) (id1 : ev ≤ 9) (id2 : 1 ≤ bk) (id3 : bk ≤ 9) (hs : okS ms σ) (hok : okC (canf ev bk ms σ) WO WE gd) (hag : ∀ g, 0 ≤ g → g < gd → we g = WE g ∧ wo g = WO g) {be : Int → Int} {W g w : Int} (hBe : hp 57 = ia 305 be) (hrow : ∀ x, 0 ≤ x → x ≤ W → be (61 * (g + 1) + x) = Bf (canf ev bk ms σ) WO WE gd (g + 1) (x)) (hg0 : 0 ≤ g) (hg1 : g < gd) (hw0 : 0 ≤ w) (hw1 : w ≤ W) (hW : W ≤ 60) {R : pd_R} (hx : ∀ l6, pd_t G mD_reckonLoads 5 R 121 [some (vr 1), some (vi W), some (vi g), some (vi ((canf ev bk ms σ) g)), some (vi w), some (vi (Bf (canf ev bk ms σ) WO WE gd (g) (w))), l6] [] sz hp) : ∀ (fu : Nat) (n v0 : Int), 0 ≤ n → n + fu = 62 → 0 ≤ v0 → v0 ≤ 1350 → mxr (WO g) (WE g) ((canf ev bk ms σ) g) w (Bf (canf ev bk ms σ) WO WE gd (g + 1)) fu n v0 = Bf (canf ev bk ms σ) WO WE gd (g) (w) → pd_t G mD_reckonLoads 5 R 76 [some (vr 1), some (vi W), some (vi g), some (vi ((canf ev bk ms σ) g)), some (vi w), some (vi v0), some (vi n)] [] sz hp := by
  intro fu
  induction fu with
  | zero =>
    intro n v0 hn0 hnE hv0 hv1 hres
    have k0 := hok g hg0 hg1
    have k1 := k0.1
    have k2 := k0.2.1
    have k3 := k0.2.2
    have m1 := mul_b hn0 (show n ≤ 62 by omega) k2.1 k2.2
    have m2 := mul_b hn0 (show n ≤ 62 by omega) (show 0 ≤ WE g by omega) k3.2
    have ag := hag g hg0 hg1
    have ae := ag.1
    have ao := ag.2
    have hres2 : v0 = Bf (canf ev bk ms σ) WO WE gd (g) (w) := hres
    refine pt_iload eD_reckonLoads_76 rfl ?_
    refine pt_iload eD_reckonLoads_78 rfl ?_
    refine pt_cgt eD_reckonLoads_79 ⟨by omega, by omega⟩ ⟨by omega, by omega⟩ (fun c79 => ?_) (fun c79 => ?_)
    · rw [hres2]
      exact hx _
    · exfalso; omega
  | succ fu ih =>
    intro n v0 hn0 hnE hv0 hv1 hres
    have k0 := hok g hg0 hg1
    have k1 := k0.1
    have k2 := k0.2.1
    have k3 := k0.2.2
    have m1 := mul_b hn0 (show n ≤ 62 by omega) k2.1 k2.2
    have m2 := mul_b hn0 (show n ≤ 62 by omega) (show 0 ≤ WE g by omega) k3.2
    have ag := hag g hg0 hg1
    have ae := ag.1
    have ao := ag.2
    rw [mxr] at hres
    have hBb := Bf_b hok (g := g + 1) (by omega) (by omega) ig4 (w - n * WE g)
    refine pt_iload eD_reckonLoads_76 rfl ?_
    refine pt_iload eD_reckonLoads_78 rfl ?_
    refine pt_cgt eD_reckonLoads_79 ⟨by omega, by omega⟩ ⟨by omega, by omega⟩ (fun c79 => ?_) (fun c79 => ?_)
    · rw [if_neg (by omega)] at hres
      rw [hres]
      exact hx _
    · refine pt_iload eD_reckonLoads_82 rfl ?_
      refine pt_aload eD_reckonLoads_84 rfl ?_
      refine pt_get eD_reckonLoads_85 hD rfl ?_
      refine pt_get eD_reckonLoads_88 hH rfl ?_
      refine pt_iload eD_reckonLoads_91 rfl ?_
      refine pt_iald eD_reckonLoads_92 hH3 (by omega) (by omega) (by decide) ?_
      rw [ae]
      refine pt_imul eD_reckonLoads_93 ?_
      refine pt_iload eD_reckonLoads_94 rfl ?_
      refine pt_cgt eD_reckonLoads_96 ⟨by omega, by omega⟩ ⟨by omega, by omega⟩ (fun c96 => ?_) (fun c96 => ?_)
      · rw [if_neg (by omega)] at hres
        rw [hres]
        exact hx _
      · have m3 := mul_b hn0 (show n ≤ 30 by omega) k2.1 k2.2
        have hrw := hrow (w - n * WE g) (by omega) (by omega)
        rw [if_pos ⟨by omega, by omega⟩] at hres
        refine pt_iload eD_reckonLoads_99 rfl ?_
        refine pt_aload eD_reckonLoads_101 rfl ?_
        refine pt_iload eD_reckonLoads_102 rfl ?_
        refine pt_iload eD_reckonLoads_103 rfl ?_
        refine pt_iload eD_reckonLoads_105 rfl ?_
        refine pt_kv3r eD_reckonLoads_107 (cD_worthWith G sz _ hD hH hH3 hH4 hBe hg0 (by omega) (by rw [ae]; omega) (by rw [ae]; omega)) hD rfl (Nat.le_of_ble_eq_true rfl) (by decide) (Nat.le_refl _) (Nat.le_refl _) ?_
        rw [ae, ao, hrw]
        refine pt_max eD_reckonLoads_110 ⟨by omega, by omega⟩ ⟨by omega, by omega⟩ (by decide) (Nat.le_of_ble_eq_true rfl) (Nat.le_refl _) (Nat.le_refl _) ?_
        refine pt_istore5 eD_reckonLoads_113 rfl ?_
        refine pt_inc6 eD_reckonLoads_115 rfl ?_
        refine pt_goto eD_reckonLoads_118 ?_
        exact ih (n + 1) _ (by omega) (by omega) (by omega) (by omega) hres
theorem lD_rl2 (G : pd_G) (sz : Nat) (hp : pd_P) {to dr : Nat} {se ga gd ev bk kn : Int} {ms σ we wo WE WO : Int → Int} (hto : 58 ≤ to) (hD : hp 1 = DO to dr se ga) (hH : hp to = HO to gd ev bk) (hH6 : hp (to + 6) = ia 80 ms) (hH3 : hp (to + 3) = ia 4 we) (hH4 : hp (to + 4) = ia 4 wo) (hL : hp 5 = LO 5 kn) (hN : hp (5 + 1) = SO (5 + 1) (σ 0) (σ 1)) (hNk : hp (5 + 1 + 3) = ia 80 (fun k => σ (10 + k))) (ig0 : 0 ≤ gd) (ig4 : gd ≤ 4) (id0 : 1 ≤ ev) (id1 : ev ≤ 9) (id2 : 1 ≤ bk) (id3 : bk ≤ 9) (hs : okS ms σ) (hok : okC (canf ev bk ms σ) WO WE gd) (hag : ∀ g, 0 ≤ g → g < gd → we g = WE g ∧ wo g = WO g) {W g : Int} (hg0 : 0 ≤ g) (hg1 : g < gd) (hW0 : 0 ≤ W) (hW1 : W ≤ 60) {R : pd_R} (hx : ∀ (l5 l6 : Option pv) (hp0 : pd_P), (∃ f : Int → Int, hp0 = va_up hp 57 (ia 305 f) ∧ (∀ g1 x, g < g1 → g1 ≤ gd → 0 ≤ x → x ≤ W → f (61 * g1 + x) = Bf (canf ev bk ms σ) WO WE gd (g1) (x)) ∧ ∀ x, 0 ≤ x → x < W + 1 → f (61 * g + x) = Bf (canf ev bk ms σ) WO WE gd (g) (x)) → pd_t G mD_reckonLoads 5 R 141 [some (vr 1), some (vi W), some (vi g), some (vi ((canf ev bk ms σ) g)), some (vi (W + 1)), l5, l6] [] sz hp0) : ∀ (n : Nat) (i : Int) (l5 l6 : Option pv) (hp0 : pd_P), 0 ≤ i → i + n = W + 1 → (∃ f : Int → Int, hp0 = va_up hp 57 (ia 305 f) ∧ (∀ g1 x, g < g1 → g1 ≤ gd → 0 ≤ x → x ≤ W → f (61 * g1 + x) = Bf (canf ev bk ms σ) WO WE gd (g1) (x)) ∧ ∀ x, 0 ≤ x → x < i → f (61 * g + x) = Bf (canf ev bk ms σ) WO WE gd (g) (x)) → pd_t G mD_reckonLoads 5 R 64 [some (vr 1), some (vi W), some (vi g), some (vi ((canf ev bk ms σ) g)), some (vi (i)), l5, l6] [] sz hp0 := by
  intro n
  induction n with
  | zero =>
    intro i l5 l6 hp0 hi0 hiE hI
    have hiE2 : W + 1 = i := by omega
    subst hiE2
    have hx2 := hx l5 l6 hp0 hI
    obtain ⟨f0, hI, hr1, hr2⟩ := hI
    have hD := pg_n hI (by omega) hD
    have hH := pg_n hI (by omega) hH
    have hH6 := pg_n hI (by omega) hH6
    have hH3 := pg_n hI (by omega) hH3
    have hH4 := pg_n hI (by omega) hH4
    have hL := pg_n hI (by omega) hL
    have hN := pg_n hI (by omega) hN
    have hNk := pg_n hI (by omega) hNk
    have hBe := pg_s hI
    refine pt_iload eD_reckonLoads_64 rfl ?_
    refine pt_iload eD_reckonLoads_66 rfl ?_
    refine pt_cgt eD_reckonLoads_67 ⟨by omega, by omega⟩ ⟨by omega, by omega⟩ (fun c67 => ?_) (fun c67 => ?_)
    · exact hx2
    · exfalso; omega
  | succ n ih =>
    intro i l5 l6 hp0 hi0 hiE hI
    obtain ⟨f0, hI, hr1, hr2⟩ := hI
    have hD := pg_n hI (by omega) hD
    have hH := pg_n hI (by omega) hH
    have hH6 := pg_n hI (by omega) hH6
    have hH3 := pg_n hI (by omega) hH3
    have hH4 := pg_n hI (by omega) hH4
    have hL := pg_n hI (by omega) hL
    have hN := pg_n hI (by omega) hN
    have hNk := pg_n hI (by omega) hNk
    have hBe := pg_s hI
    refine pt_iload eD_reckonLoads_64 rfl ?_
    refine pt_iload eD_reckonLoads_66 rfl ?_
    refine pt_cgt eD_reckonLoads_67 ⟨by omega, by omega⟩ ⟨by omega, by omega⟩ (fun c67 => ?_) (fun c67 => ?_)
    · exfalso; omega
    · refine pt_ic eD_reckonLoads_70 ?_
      refine pt_istore5 eD_reckonLoads_71 rfl ?_
      refine pt_ic eD_reckonLoads_73 ?_
      refine pt_istore6 eD_reckonLoads_74 rfl ?_
      have hBb := Bf_b hok (g := g) hg0 (by omega) ig4 i
      refine lD_rl1 G sz hp0 (by omega) hD hH hH6 hH3 hH4 hL hN hNk ig0 ig4 id0 id1 id2 id3 hs hok hag hBe (fun x h0 h1 => hr1 (g + 1) x (by omega) (by omega) h0 h1) hg0 hg1 hi0 (by omega) hW1 (fun l6 => ?_) 62 0 0 (by omega) (by omega) (by omega) (by omega) (Bf_s hg0 hg1 i).symm
      refine pt_aload eD_reckonLoads_121 rfl ?_
      refine pt_get eD_reckonLoads_122 hD rfl ?_
      refine pt_iload eD_reckonLoads_125 rfl ?_
      refine pt_ic eD_reckonLoads_126 ?_
      refine pt_imul eD_reckonLoads_128 ?_
      refine pt_iload eD_reckonLoads_129 rfl ?_
      refine pt_iadd eD_reckonLoads_131 ?_
      refine pt_iload eD_reckonLoads_132 rfl ?_
      rw [show g * 61 + i = 61 * g + i by omega]
      refine pt_iast eD_reckonLoads_134 hBe (by omega) (by omega) (by decide) ?_
      refine pt_gen ?_
      intro hp1 ev1
      have hD := pg_n ev1 (by omega) hD
      have hH := pg_n ev1 (by omega) hH
      have hH3 := pg_n ev1 (by omega) hH3
      have hH4 := pg_n ev1 (by omega) hH4
      have hL := pg_n ev1 (by omega) hL
      have hN := pg_n ev1 (by omega) hN
      have hNk := pg_n ev1 (by omega) hNk
      have hBe := pg_s ev1
      refine pt_inc4 eD_reckonLoads_135 rfl ?_
      refine pt_goto eD_reckonLoads_138 ?_
      refine ih (i + 1) _ _ hp1 (by omega) (by omega) ⟨_, by rw [ev1, hI, bx_uu], fun g1 x h1 h2 h3 h4 => ?_, fun x h1 h2 => ?_⟩
      · rw [uI_n _ _ (by omega)]
        exact hr1 g1 x h1 h2 h3 h4
      · by_cases hxi : x = i
        · rw [hxi, uI_s]
        · rw [uI_n _ _ (by omega)]
          exact hr2 x h1 (by omega)
theorem lD_rl3 (G : pd_G) (sz : Nat) (hp : pd_P) {to dr : Nat} {se ga gd ev bk kn : Int} {ms σ we wo WE WO : Int → Int} (hto : 58 ≤ to) (hD : hp 1 = DO to dr se ga) (hH : hp to = HO to gd ev bk) (hH6 : hp (to + 6) = ia 80 ms) (hH3 : hp (to + 3) = ia 4 we) (hH4 : hp (to + 4) = ia 4 wo) (hL : hp 5 = LO 5 kn) (hN : hp (5 + 1) = SO (5 + 1) (σ 0) (σ 1)) (hNk : hp (5 + 1 + 3) = ia 80 (fun k => σ (10 + k))) (ig0 : 0 ≤ gd) (ig4 : gd ≤ 4) (id0 : 1 ≤ ev) (id1 : ev ≤ 9) (id2 : 1 ≤ bk) (id3 : bk ≤ 9) (hs : okS ms σ) (hok : okC (canf ev bk ms σ) WO WE gd) (hag : ∀ g, 0 ≤ g → g < gd → we g = WE g ∧ wo g = WO g) {W : Int} (hW0 : 0 ≤ W) (hW1 : W ≤ 60) {R : pd_R} (hx : ∀ l3 l4 l5 l6 (hp0 : pd_P), (∃ f : Int → Int, hp0 = va_up hp 57 (ia 305 f) ∧ ∀ g1 x, 0 ≤ g1 → g1 ≤ gd → 0 ≤ x → x ≤ W → f (61 * g1 + x) = Bf (canf ev bk ms σ) WO WE gd (g1) (x)) → pd_t G mD_reckonLoads 5 R 147 [some (vr 1), some (vi W), some (vi (-1)), l3, l4, l5, l6] [] sz hp0) : ∀ (n : Nat) (l3 l4 l5 l6 : Option pv) (hp0 : pd_P), (n : Int) ≤ gd → (∃ f : Int → Int, hp0 = va_up hp 57 (ia 305 f) ∧ ∀ g1 x, (n : Int) ≤ g1 → g1 ≤ gd → 0 ≤ x → x ≤ W → f (61 * g1 + x) = Bf (canf ev bk ms σ) WO WE gd (g1) (x)) → pd_t G mD_reckonLoads 5 R 41 [some (vr 1), some (vi W), some (vi ((n : Int) - 1)), l3, l4, l5, l6] [] sz hp0 := by
  intro n
  induction n with
  | zero =>
    intro l3 l4 l5 l6 hp0 hn hI
    have hx2 := hx l3 l4 l5 l6 hp0 hI
    refine pt_iload eD_reckonLoads_41 rfl ?_
    refine pt_zlt eD_reckonLoads_42 ⟨by omega, by omega⟩ (fun c42 => ?_) (fun c42 => ?_)
    · exact hx2
    · exfalso; omega
  | succ n ih =>
    intro l3 l4 l5 l6 hp0 hn hI
    obtain ⟨f0, hI, hr1⟩ := hI
    have hDb := pg_n hI (by omega) hD
    have hHb := pg_n hI (by omega) hH
    have hH6b := pg_n hI (by omega) hH6
    have hH3b := pg_n hI (by omega) hH3
    have hH4b := pg_n hI (by omega) hH4
    have hLb := pg_n hI (by omega) hL
    have hNb := pg_n hI (by omega) hN
    have hNkb := pg_n hI (by omega) hNk
    refine pt_lve [some (vr 1), some (vi W), some (vi (n : Int)), l3, l4, l5, l6] (by rw [show ((n + 1 : Nat) : Int) - 1 = (n : Int) by omega]) ?_
    refine pt_iload eD_reckonLoads_41 rfl ?_
    refine pt_zlt eD_reckonLoads_42 ⟨by omega, by omega⟩ (fun c42 => ?_) (fun c42 => ?_)
    · exfalso; omega
    · refine pt_aload eD_reckonLoads_45 rfl ?_
      refine pt_get eD_reckonLoads_46 hDb rfl ?_
      refine pt_get eD_reckonLoads_49 hLb rfl ?_
      refine pt_aload eD_reckonLoads_52 rfl ?_
      refine pt_get eD_reckonLoads_53 hDb rfl ?_
      refine pt_iload eD_reckonLoads_56 rfl ?_
      refine pt_kv2r eD_reckonLoads_57 (cS_open G sz _ hNb hNkb hHb hH6b id0 id1 id2 id3 hs.1 hs.2.1 hs.2.2.1 (by omega) (by omega)) hNb rfl (Nat.le_of_ble_eq_true rfl) (by decide) (Nat.le_refl _) (Nat.le_refl _) ?_
      refine pt_istore3 eD_reckonLoads_60 rfl ?_
      refine pt_ic eD_reckonLoads_61 ?_
      refine pt_istore4 eD_reckonLoads_62 rfl ?_
      refine lD_rl2 G sz hp hto hD hH hH6 hH3 hH4 hL hN hNk ig0 ig4 id0 id1 id2 id3 hs hok hag (g := (n : Int)) (by omega) (by omega) hW0 hW1 (fun l5 l6 hp5 hI5 => ?_) (W + 1).toNat 0 l5 l6 hp0 (by omega) (by omega) ⟨f0, hI, fun g1 x h1 h2 h3 h4 => hr1 g1 x (by omega) h2 h3 h4, fun x h1 h2 => absurd h2 (by omega)⟩
      obtain ⟨f5, hI5, hr5, hr6⟩ := hI5
      refine pt_inc2 eD_reckonLoads_141 rfl ?_
      refine pt_goto eD_reckonLoads_144 ?_
      refine ih _ _ _ _ hp5 (by omega) ⟨f5, hI5, fun g1 x h1 h2 h3 h4 => ?_⟩
      rcases (show g1 = (n : Int) ∨ (n : Int) < g1 by omega) with h9 | h9
      · rw [h9]; exact hr6 x h3 (by omega)
      · exact hr5 g1 x h9 h2 h3 h4
theorem lD_rl0 (G : pd_G) (sz : Nat) (hp : pd_P) {to dr : Nat} {se ga gd ev bk W : Int} (hto : 58 ≤ to) (hD : hp 1 = DO to dr se ga) (hH : hp to = HO to gd ev bk) (ig0 : 0 ≤ gd) (ig4 : gd ≤ 4) (hW0 : 0 ≤ W) (hW1 : W ≤ 60) {R : pd_R} (hx : ∀  (hp0 : pd_P), (∃ f : Int → Int, hp0 = va_up hp 57 (ia 305 f) ∧ ∀ x, 0 ≤ x → x < W + 1 → f (61 * gd + x) = 0) → pd_t G mD_reckonLoads 5 R 31 [some (vr 1), some (vi W), some (vi (W + 1)), none, none, none, none] [] sz hp0) : ∀ (n : Nat) (i : Int)  (hp0 : pd_P), 0 ≤ i → i + n = W + 1 → (∃ f : Int → Int, hp0 = va_up hp 57 (ia 305 f) ∧ ∀ x, 0 ≤ x → x < i → f (61 * gd + x) = 0) → pd_t G mD_reckonLoads 5 R 2 [some (vr 1), some (vi W), some (vi (i)), none, none, none, none] [] sz hp0 := by
  intro n
  induction n with
  | zero =>
    intro i  hp0 hi0 hiE hI
    have hiE2 : W + 1 = i := by omega
    subst hiE2
    have hx2 := hx  hp0 hI
    obtain ⟨f0, hI, hr1⟩ := hI
    have hD := pg_n hI (by omega) hD
    have hH := pg_n hI (by omega) hH
    have hBe := pg_s hI
    refine pt_iload eD_reckonLoads_2 rfl ?_
    refine pt_iload eD_reckonLoads_3 rfl ?_
    refine pt_cgt eD_reckonLoads_4 ⟨by omega, by omega⟩ ⟨by omega, by omega⟩ (fun c4 => ?_) (fun c4 => ?_)
    · exact hx2
    · exfalso; omega
  | succ n ih =>
    intro i  hp0 hi0 hiE hI
    obtain ⟨f0, hI, hr1⟩ := hI
    have hD := pg_n hI (by omega) hD
    have hH := pg_n hI (by omega) hH
    have hBe := pg_s hI
    refine pt_iload eD_reckonLoads_2 rfl ?_
    refine pt_iload eD_reckonLoads_3 rfl ?_
    refine pt_cgt eD_reckonLoads_4 ⟨by omega, by omega⟩ ⟨by omega, by omega⟩ (fun c4 => ?_) (fun c4 => ?_)
    · exfalso; omega
    · refine pt_aload eD_reckonLoads_7 rfl ?_
      refine pt_get eD_reckonLoads_8 hD rfl ?_
      refine pt_aload eD_reckonLoads_11 rfl ?_
      refine pt_get eD_reckonLoads_12 hD rfl ?_
      refine pt_get eD_reckonLoads_15 hH rfl ?_
      refine pt_ic eD_reckonLoads_18 ?_
      refine pt_imul eD_reckonLoads_20 ?_
      refine pt_iload eD_reckonLoads_21 rfl ?_
      refine pt_iadd eD_reckonLoads_22 ?_
      refine pt_ic eD_reckonLoads_23 ?_
      rw [show gd * 61 + i = 61 * gd + i by omega]
      refine pt_iast eD_reckonLoads_24 hBe (by omega) (by omega) (by decide) ?_
      refine pt_gen ?_
      intro hp1 ev1
      have hD := pg_n ev1 (by omega) hD
      have hH := pg_n ev1 (by omega) hH
      have hBe := pg_s ev1
      refine pt_inc2 eD_reckonLoads_25 rfl ?_
      refine pt_goto eD_reckonLoads_28 ?_
      refine ih (i + 1)  _ (by omega) (by omega) ?_
      refine ⟨_, by rw [ev1, hI, bx_uu], fun x h1 h2 => ?_⟩
      by_cases hxi : x = i
      · rw [hxi, uI_s]
      · rw [uI_n _ _ (by omega)]
        exact hr1 x h1 (by omega)
theorem cD_reckonLoads (G : pd_G) (sz : Nat) (hp : pd_P) {to dr : Nat} {se ga gd ev bk kn : Int} {ms σ we wo WE WO : Int → Int} (hto : 58 ≤ to) (hD : hp 1 = DO to dr se ga) (hH : hp to = HO to gd ev bk) (hH6 : hp (to + 6) = ia 80 ms) (hH3 : hp (to + 3) = ia 4 we) (hH4 : hp (to + 4) = ia 4 wo) (hL : hp 5 = LO 5 kn) (hN : hp (5 + 1) = SO (5 + 1) (σ 0) (σ 1)) (hNk : hp (5 + 1 + 3) = ia 80 (fun k => σ (10 + k))) (ig0 : 0 ≤ gd) (ig4 : gd ≤ 4) (id0 : 1 ≤ ev) (id1 : ev ≤ 9) (id2 : 1 ≤ bk) (id3 : bk ≤ 9) (hs : okS ms σ) (hok : okC (canf ev bk ms σ) WO WE gd) (hag : ∀ g, 0 ≤ g → g < gd → we g = WE g ∧ wo g = WO g) {f9 : Int → Int} {W : Int} (hW0 : 0 ≤ W) (hW1 : W ≤ 60) (hBe : hp 57 = ia 305 f9) : pd_c G mD_reckonLoads 5 [vr 1, vi W] sz hp (fun v' sz' hp' => v' = none ∧ sz' = sz ∧ (∃ f : Int → Int, hp' = va_up hp 57 (ia 305 f) ∧ ∀ g1 x, 0 ≤ g1 → g1 ≤ gd → 0 ≤ x → x ≤ W → f (61 * g1 + x) = Bf (canf ev bk ms σ) WO WE gd (g1) (x))) := by
  refine pd_con kD_reckonLoads [some (vr 1), some (vi W), none, none, none, none, none] rfl rfl (Nat.le_of_ble_eq_true rfl) ?_
  refine pt_ic eD_reckonLoads_0 ?_
  refine pt_istore2 eD_reckonLoads_1 rfl ?_
  refine lD_rl0 G sz hp hto hD hH ig0 ig4 hW0 hW1 (fun hp5 hI5 => ?_) (W + 1).toNat 0 hp (by omega) (by omega) ⟨f9, pu_self hBe, fun x h1 h2 => absurd h2 (by omega)⟩
  obtain ⟨f5, hI5, hr5⟩ := hI5
  have hDb := pg_n hI5 (by omega) hD
  have hHb := pg_n hI5 (by omega) hH
  refine pt_aload eD_reckonLoads_31 rfl ?_
  refine pt_get eD_reckonLoads_32 hDb rfl ?_
  refine pt_get eD_reckonLoads_35 hHb rfl ?_
  refine pt_ic eD_reckonLoads_38 ?_
  refine pt_isub eD_reckonLoads_39 ?_
  refine pt_istore2 eD_reckonLoads_40 rfl ?_
  refine pt_lve [some (vr 1), some (vi W), some (vi ((gd.toNat : Int) - 1)), none, none, none, none] (by rw [Int.toNat_of_nonneg ig0]) ?_
  refine lD_rl3 G sz hp hto hD hH hH6 hH3 hH4 hL hN hNk ig0 ig4 id0 id1 id2 id3 hs hok hag hW0 hW1 (fun l3 l4 l5 l6 hp6 hI6 => ?_) gd.toNat none none none none hp5 (by omega) ⟨f5, hI5, fun g1 x h1 h2 h3 h4 => ?_⟩
  · refine pt_vret eD_reckonLoads_147 (Nat.le_refl _) (Nat.le_refl _) ?_
    exact ⟨rfl, rfl, hI6⟩
  · rw [show g1 = gd by omega, Bf_e]
    exact hr5 x h3 (by omega)
theorem lD_lc (G : pd_G) (sz : Nat) (hp : pd_P) {to dr : Nat} {se ga gd ev bk kn : Int} {ms σ we wo WE WO : Int → Int} (hto : 5 + 4 ≤ to) (hD : hp 1 = DO to dr se ga) (hH : hp to = HO to gd ev bk) (hH6 : hp (to + 6) = ia 80 ms) (hH3 : hp (to + 3) = ia 4 we) (hH4 : hp (to + 4) = ia 4 wo) (hL : hp 5 = LO 5 kn) (hN : hp (5 + 1) = SO (5 + 1) (σ 0) (σ 1)) (hNk : hp (5 + 1 + 3) = ia 80 (fun k => σ (10 + k))) (ig0 : 0 ≤ gd) (ig4 : gd ≤ 4) (id0 : 1 ≤ ev) (id1 : ev ≤ 9) (id2 : 1 ≤ bk) (id3 : bk ≤ 9) (hs : okS ms σ) (hok : okC (canf ev bk ms σ) WO WE gd) (hag : ∀ g, 0 ≤ g → g < gd → we g = WE g ∧ wo g = WO g) {be : Int → Int} {W g w : Int} (hBe : hp 57 = ia 305 be) (hrow : ∀ g1 x, 0 ≤ g1 → g1 ≤ gd → 0 ≤ x → x ≤ W → be (61 * g1 + x) = Bf (canf ev bk ms σ) WO WE gd (g1) (x)) (hg0 : 0 ≤ g) (hg1 : g < gd) (hw0 : 0 ≤ w) (hw1 : w ≤ W) (hW1 : W ≤ 60) : ∀ (fu : Nat) (n : Int), 0 ≤ n → n + fu = 62 → lst (WO g) (WE g) ((canf ev bk ms σ) g) w (Bf (canf ev bk ms σ) WO WE gd (g + 1)) (Bf (canf ev bk ms σ) WO WE gd (g) (w)) fu n = lcf (canf ev bk ms σ) WO WE gd g w → pd_t G mD_leastCarried 5 (pd_pure (vi (lcf (canf ev bk ms σ) WO WE gd g w)) sz hp) 19 [some (vr 1), some (vi g), some (vi w), some (vi ((canf ev bk ms σ) g)), some (vi n)] [] sz hp := by
  intro fu
  induction fu with
  | zero =>
    intro n hn0 hnE hres
    have k0 := hok g hg0 hg1
    have k1 := k0.1
    have k2 := k0.2.1
    have k3 := k0.2.2
    have m1 := mul_b hn0 (show n ≤ 62 by omega) k2.1 k2.2
    have m2 := mul_b hn0 (show n ≤ 62 by omega) (show 0 ≤ WE g by omega) k3.2
    have ag := hag g hg0 hg1
    have ae := ag.1
    have ao := ag.2
    have hres2 : 0 = lcf (canf ev bk ms σ) WO WE gd g w := hres
    refine pt_iload eD_leastCarried_19 rfl ?_
    refine pt_iload eD_leastCarried_21 rfl ?_
    refine pt_cgt eD_leastCarried_22 ⟨by omega, by omega⟩ ⟨by omega, by omega⟩ (fun c22 => ?_) (fun c22 => ?_)
    · refine pt_ic eD_leastCarried_72 ?_
      refine pt_iret eD_leastCarried_73 (Nat.le_refl _) (Nat.le_refl _) ?_
      rw [← hres2]
      exact ⟨rfl, rfl, rfl⟩
    · exfalso; omega
  | succ fu ih =>
    intro n hn0 hnE hres
    have k0 := hok g hg0 hg1
    have k1 := k0.1
    have k2 := k0.2.1
    have k3 := k0.2.2
    have m1 := mul_b hn0 (show n ≤ 62 by omega) k2.1 k2.2
    have m2 := mul_b hn0 (show n ≤ 62 by omega) (show 0 ≤ WE g by omega) k3.2
    have ag := hag g hg0 hg1
    have ae := ag.1
    have ao := ag.2
    rw [lst] at hres
    have hBb := Bf_b hok (g := g + 1) (by omega) (by omega) ig4 (w - n * WE g)
    have hBc := Bf_b hok (g := g) (by omega) (by omega) ig4 w
    have hrg := hrow g w hg0 (by omega) hw0 hw1
    refine pt_iload eD_leastCarried_19 rfl ?_
    refine pt_iload eD_leastCarried_21 rfl ?_
    refine pt_cgt eD_leastCarried_22 ⟨by omega, by omega⟩ ⟨by omega, by omega⟩ (fun c22 => ?_) (fun c22 => ?_)
    · refine pt_ic eD_leastCarried_72 ?_
      refine pt_iret eD_leastCarried_73 (Nat.le_refl _) (Nat.le_refl _) ?_
      rw [if_neg (by omega)] at hres
      rw [← hres]
      exact ⟨rfl, rfl, rfl⟩
    · refine pt_iload eD_leastCarried_25 rfl ?_
      refine pt_aload eD_leastCarried_27 rfl ?_
      refine pt_get eD_leastCarried_28 hD rfl ?_
      refine pt_get eD_leastCarried_31 hH rfl ?_
      refine pt_iload eD_leastCarried_34 rfl ?_
      refine pt_iald eD_leastCarried_35 hH3 (by omega) (by omega) (by decide) ?_
      rw [ae]
      refine pt_imul eD_leastCarried_36 ?_
      refine pt_iload eD_leastCarried_37 rfl ?_
      refine pt_cgt eD_leastCarried_38 ⟨by omega, by omega⟩ ⟨by omega, by omega⟩ (fun c38 => ?_) (fun c38 => ?_)
      · refine pt_ic eD_leastCarried_72 ?_
        refine pt_iret eD_leastCarried_73 (Nat.le_refl _) (Nat.le_refl _) ?_
        rw [if_neg (by omega)] at hres
        rw [← hres]
        exact ⟨rfl, rfl, rfl⟩
      · have hrw := hrow (g + 1) (w - n * WE g) (by omega) (by omega) (by omega) (by omega)
        rw [if_pos ⟨by omega, by omega⟩] at hres
        refine pt_aload eD_leastCarried_41 rfl ?_
        refine pt_iload eD_leastCarried_42 rfl ?_
        refine pt_iload eD_leastCarried_43 rfl ?_
        refine pt_iload eD_leastCarried_45 rfl ?_
        refine pt_kv3r eD_leastCarried_46 (cD_worthWith G sz _ hD hH hH3 hH4 hBe hg0 (by omega) (by rw [ae]; omega) (by rw [ae]; omega)) hD rfl (Nat.le_of_ble_eq_true rfl) (by decide) (Nat.le_refl _) (Nat.le_refl _) ?_
        rw [ae, ao, hrw]
        refine pt_aload eD_leastCarried_49 rfl ?_
        refine pt_get eD_leastCarried_50 hD rfl ?_
        refine pt_iload eD_leastCarried_53 rfl ?_
        refine pt_ic eD_leastCarried_54 ?_
        refine pt_imul eD_leastCarried_56 ?_
        refine pt_iload eD_leastCarried_57 rfl ?_
        refine pt_iadd eD_leastCarried_58 ?_
        refine pt_iald eD_leastCarried_59 hBe (by omega) (by omega) (by decide) ?_
        rw [show g * 61 + w = 61 * g + w by omega, hrg]
        refine pt_cne eD_leastCarried_60 ⟨by omega, by omega⟩ ⟨by omega, by omega⟩ (fun c60 => ?_) (fun c60 => ?_)
        · refine pt_inc4 eD_leastCarried_66 rfl ?_
          refine pt_goto eD_leastCarried_69 ?_
          rw [if_neg c60] at hres
          exact ih (n + 1) (by omega) (by omega) hres
        · refine pt_iload eD_leastCarried_63 rfl ?_
          refine pt_iret eD_leastCarried_65 (Nat.le_refl _) (Nat.le_refl _) ?_
          rw [if_pos (by omega)] at hres
          rw [← hres]
          exact ⟨rfl, rfl, rfl⟩
theorem cD_leastCarried (G : pd_G) (sz : Nat) (hp : pd_P) {to dr : Nat} {se ga gd ev bk kn : Int} {ms σ we wo WE WO : Int → Int} (hto : 5 + 4 ≤ to) (hD : hp 1 = DO to dr se ga) (hH : hp to = HO to gd ev bk) (hH6 : hp (to + 6) = ia 80 ms) (hH3 : hp (to + 3) = ia 4 we) (hH4 : hp (to + 4) = ia 4 wo) (hL : hp 5 = LO 5 kn) (hN : hp (5 + 1) = SO (5 + 1) (σ 0) (σ 1)) (hNk : hp (5 + 1 + 3) = ia 80 (fun k => σ (10 + k))) (ig0 : 0 ≤ gd) (ig4 : gd ≤ 4) (id0 : 1 ≤ ev) (id1 : ev ≤ 9) (id2 : 1 ≤ bk) (id3 : bk ≤ 9) (hs : okS ms σ) (hok : okC (canf ev bk ms σ) WO WE gd) (hag : ∀ g, 0 ≤ g → g < gd → we g = WE g ∧ wo g = WO g) {be : Int → Int} {W g w : Int} (hBe : hp 57 = ia 305 be) (hrow : ∀ g1 x, 0 ≤ g1 → g1 ≤ gd → 0 ≤ x → x ≤ W → be (61 * g1 + x) = Bf (canf ev bk ms σ) WO WE gd (g1) (x)) (hg0 : 0 ≤ g) (hg1 : g < gd) (hw0 : 0 ≤ w) (hw1 : w ≤ W) (hW1 : W ≤ 60) : pd_c G mD_leastCarried 5 [vr 1, vi g, vi w] sz hp (pd_pure (vi (lcf (canf ev bk ms σ) WO WE gd g w)) sz hp) := by
  refine pd_con kD_leastCarried [some (vr 1), some (vi g), some (vi w), none, none] rfl rfl (Nat.le_of_ble_eq_true rfl) ?_
  refine pt_aload eD_leastCarried_0 rfl ?_
  refine pt_get eD_leastCarried_1 hD rfl ?_
  refine pt_get eD_leastCarried_4 hL rfl ?_
  refine pt_aload eD_leastCarried_7 rfl ?_
  refine pt_get eD_leastCarried_8 hD rfl ?_
  refine pt_iload eD_leastCarried_11 rfl ?_
  refine pt_kv2r eD_leastCarried_12 (cS_open G sz _ hN hNk hH hH6 id0 id1 id2 id3 hs.1 hs.2.1 hs.2.2.1 (by omega) (by omega)) hN rfl (Nat.le_of_ble_eq_true rfl) (by decide) (Nat.le_refl _) (Nat.le_refl _) ?_
  refine pt_istore3 eD_leastCarried_15 rfl ?_
  refine pt_ic eD_leastCarried_16 ?_
  refine pt_istore4 eD_leastCarried_17 rfl ?_
  exact lD_lc G sz hp hto hD hH hH6 hH3 hH4 hL hN hNk ig0 ig4 id0 id1 id2 id3 hs hok hag hBe hrow hg0 hg1 hw0 hw1 hW1 62 0 (by omega) (by omega) rfl
theorem lD_ca (G : pd_G) (sz : Nat) (hp : pd_P) {to dr : Nat} {se ga gd ev bk kn : Int} {ms σ we wo WE WO : Int → Int} (hto : 5 + 4 ≤ to) (hD : hp 1 = DO to dr se ga) (hH : hp to = HO to gd ev bk) (hH6 : hp (to + 6) = ia 80 ms) (hH3 : hp (to + 3) = ia 4 we) (hH4 : hp (to + 4) = ia 4 wo) (hL : hp 5 = LO 5 kn) (hN : hp (5 + 1) = SO (5 + 1) (σ 0) (σ 1)) (hNk : hp (5 + 1 + 3) = ia 80 (fun k => σ (10 + k))) (ig0 : 0 ≤ gd) (ig4 : gd ≤ 4) (id0 : 1 ≤ ev) (id1 : ev ≤ 9) (id2 : 1 ≤ bk) (id3 : bk ≤ 9) (hs : okS ms σ) (hok : okC (canf ev bk ms σ) WO WE gd) (hag : ∀ g, 0 ≤ g → g < gd → we g = WE g ∧ wo g = WO g) {be : Int → Int} {W g : Int} (hBe : hp 57 = ia 305 be) (hrow : ∀ g1 x, 0 ≤ g1 → g1 ≤ gd → 0 ≤ x → x ≤ W → be (61 * g1 + x) = Bf (canf ev bk ms σ) WO WE gd (g1) (x)) (hg0 : 0 ≤ g) (hg1 : g < gd) (hW0 : 0 ≤ W) (hW1 : W ≤ 60) {R : pd_R} (hx : ∀  (hp0 : pd_P), hp0 = hp → pd_t G mD_carry 6 R 105 [some (vr 1), some (vi W), some (vi g), some (vi (lff (canf ev bk ms σ) WO WE gd W (g : Int).toNat)), some (vi (g))] [] sz hp0) : ∀ (n : Nat) (i : Int)  (hp0 : pd_P), 0 ≤ i → i + n = g → hp0 = hp → pd_t G mD_carry 6 R 72 [some (vr 1), some (vi W), some (vi g), some (vi (lff (canf ev bk ms σ) WO WE gd W (i : Int).toNat)), some (vi (i))] [] sz hp0 := by
  intro n
  induction n with
  | zero =>
    intro i  hp0 hi0 hiE he0
    have hiE2 : g = i := by omega
    subst hiE2
    have hx2 := hx  hp0 he0
    rw [he0] at hx2
    rw [he0]
    refine pt_iload eD_carry_72 rfl ?_
    refine pt_iload eD_carry_74 rfl ?_
    refine pt_cge eD_carry_75 ⟨by omega, by omega⟩ ⟨by omega, by omega⟩ (fun c75 => ?_) (fun c75 => ?_)
    · exact hx2
    · exfalso; omega
  | succ n ih =>
    intro i  hp0 hi0 hiE he0
    rw [he0]
    refine pt_iload eD_carry_72 rfl ?_
    refine pt_iload eD_carry_74 rfl ?_
    refine pt_cge eD_carry_75 ⟨by omega, by omega⟩ ⟨by omega, by omega⟩ (fun c75 => ?_) (fun c75 => ?_)
    · exfalso; omega
    · obtain ⟨l1, l2⟩ := lff_r hok ig4 hW0 i.toNat (by omega)
      have e9 := lff_s (C := (canf ev bk ms σ)) (WO := WO) (WE := WE) (gd := gd) (W := W) hi0
      refine pt_iload eD_carry_78 rfl ?_
      refine pt_aload eD_carry_79 rfl ?_
      refine pt_iload eD_carry_80 rfl ?_
      refine pt_iload eD_carry_82 rfl ?_
      refine pt_kv2r eD_carry_83 (cD_leastCarried G sz _ hto hD hH hH6 hH3 hH4 hL hN hNk ig0 ig4 id0 id1 id2 id3 hs hok hag hBe hrow hi0 (by omega) l1 l2 hW1) hD rfl (Nat.le_of_ble_eq_true rfl) (by decide) (Nat.le_refl _) (Nat.le_refl _) ?_
      refine pt_aload eD_carry_86 rfl ?_
      refine pt_get eD_carry_87 hD rfl ?_
      refine pt_get eD_carry_90 hH rfl ?_
      refine pt_iload eD_carry_93 rfl ?_
      refine pt_iald eD_carry_95 hH3 (by omega) (by omega) (by decide) ?_
      rw [(hag i hi0 (by omega)).1]
      refine pt_imul eD_carry_96 ?_
      refine pt_isub eD_carry_97 ?_
      refine pt_istore3 eD_carry_98 rfl ?_
      refine pt_inc4 eD_carry_99 rfl ?_
      refine pt_goto eD_carry_102 ?_
      rw [← e9]
      exact ih (i + 1)  hp (by omega) (by omega) rfl 
theorem xD_carry (G : pd_G) (sz : Nat) (hp : pd_P) {to dr : Nat} {q : Nat → Int → Int} {v : Nat → Int} (hC : CW hp to dr q v) (hI : IN q v) {w : Int} (j_w : jR w) {g : Int} (j_g : jR g) : pd_c G mD_carry 6 [vr 1, vi w, vi g] sz hp (cPost hp sz ((q, v, rCarry q w g))) := by
  refine pd_con kD_carry [some (vr 1), some (vi w), some (vi g), none, none] rfl rfl (Nat.le_of_ble_eq_true rfl) ?_
  obtain ⟨⟨ig0, ig4⟩, ⟨id0, id1, id2, id3⟩, iB, iM, iU, iF, iS, iP, iI, ⟨is0, is4, isx⟩, ⟨im0, im4, imx⟩, it0, it1⟩ := hI
  have k_w := j_w
  unfold jR at k_w
  have k_g := j_g
  unfold jR at k_g
  have hC0 := hC
  obtain ⟨hto, hDo, hTx, hHs, hHd, hLf, hI0, hI1, hGo, hPl⟩ := hC
  have hDo2 := hDo
  obtain ⟨hD, ⟨imf, hIm, him0, him1⟩, hKp, hSg, hSt, hGd, hGt⟩ := hDo2
  have hHs2 := hHs
  obtain ⟨fi, us, we, wo, stt, hHo, hag, hstt⟩ := hHs2
  have hHo2 := hHo
  obtain ⟨hH, hH1, hH2, hH3, hH4, hH5, hH6, hH7⟩ := hHo2
  have hLf2 := hLf
  obtain ⟨Q, hLi, hQ⟩ := hLf2
  have hL := hLi.1
  obtain ⟨hN, hNt, hNl, hNk⟩ := hLi.2.1
  have hPl2 := hPl
  obtain ⟨ln, gp, be, ch, th, wa, no, hBe, hp58, hp59, hp60, hp61, hp62⟩ := hPl2
  have hok : okC (canf (q 2 0) (q 2 1) (q 9) (q 17)) (q 7) (q 6) (q 3 0) := fun g h0 h1 => ⟨canf_r id2 iS iM h0 (by omega), (iF g h0 h1).2.2, (iF g h0 h1).2.1⟩
  refine pt_iload eD_carry_0 rfl ?_
  refine pt_ic eD_carry_1 ?_
  refine pt_ic eD_carry_2 ?_
  refine pt_ks3r eD_carry_4 (cD_within G sz _ (by unfold jR at *; omega) (by unfold jR at *; omega) (by unfold jR at *; omega)) (Nat.le_of_ble_eq_true rfl) (by decide) (Nat.le_refl _) (Nat.le_refl _) ?_
  refine pt_zeq eD_carry_7 (pwi_j _ _ _) (fun c7 => ?_) (fun c7 => ?_)
  · refine pt_ic eD_carry_26 ?_
    refine pt_iret eD_carry_27 (Nat.le_refl _) (Nat.le_refl _) ?_
    first
    | (have c7 := pwi_0 c7
       rw [show rCarry q w g = -1 by unfold rCarry; rw [if_pos (fun z => c7 z.1)]]
       exact ⟨rfl, rfl, ⟨to, dr, hC0⟩, fr.rf⟩)
    | (have c23 := pwi_0 c23
       rw [show rCarry q w g = -1 by unfold rCarry; rw [if_pos (fun z => z.2.elim c12 c23)]]
       exact ⟨rfl, rfl, ⟨to, dr, hC0⟩, fr.rf⟩)
  · have c7 := pwi_1 c7
    refine pt_iload eD_carry_10 rfl ?_
    refine pt_ic eD_carry_11 ?_
    refine pt_ceq eD_carry_12 ⟨by omega, by omega⟩ ⟨by omega, by omega⟩ (fun c12 => ?_) (fun c12 => ?_)
    · have cg : (0 ≤ w ∧ w ≤ 60) ∧ (g = -1 ∨ (0 ≤ g ∧ g ≤ q 3 0 - 1)) := by
        first
        | exact ⟨c7, Or.inl c12⟩
        | exact ⟨c7, Or.inr (pwi_1 c23)⟩
      have hrc : rCarry q w g = if opf (q 2 0) (q 2 1) (q 17) = -9 then -9 else if g = -1 then Bf (cCf q) (q 7) (q 6) (q 3 0) 0 w else lcf (cCf q) (q 7) (q 6) (q 3 0) g (lff (cCf q) (q 7) (q 6) (q 3 0) w g.toNat) := by unfold rCarry; rw [if_neg (fun z => z cg)]
      have hop := opf_r (ev := q 2 0) (bk := q 2 1) (σ := q 17) id2 iS.1
      have hi9 := iS.2.1
      refine pt_aload eD_carry_28 rfl ?_
      refine pt_get eD_carry_29 hD rfl ?_
      refine pt_get eD_carry_32 hL rfl ?_
      refine pt_aload eD_carry_35 rfl ?_
      refine pt_get eD_carry_36 hD rfl ?_
      refine pt_kv1r eD_carry_39 (cS_leads G sz _ hN hH id0 id1 id2 id3 iS.1 iS.2.1 iS.2.2.1) hN rfl (Nat.le_of_ble_eq_true rfl) (by decide) (Nat.le_refl _) (Nat.le_refl _) ?_
      refine pt_ic eD_carry_42 ?_
      refine pt_cne eD_carry_44 ⟨by omega, by omega⟩ ⟨by omega, by omega⟩ (fun c44 => ?_) (fun c44 => ?_)
      · refine pt_aload eD_carry_50 rfl ?_
        refine pt_iload eD_carry_51 rfl ?_
        refine pt_kv1 eD_carry_52 (cD_reckonLoads G sz _ (by omega) hD hH hH6 hH3 hH4 hL hN hNk ig0 ig4 id0 id1 id2 id3 iS hok (fun g h0 h1 => ⟨(hag g h0 h1).2.2.1, (hag g h0 h1).2.2.2⟩) (by omega) (by omega) hBe) hD rfl (Nat.le_of_ble_eq_true rfl) (by decide) (Nat.le_refl _) (Nat.le_refl _) ?_
        rintro v2 sz2 hpx ⟨rfl, hz9, f9, hx9, hr9⟩
        obtain rfl := hz9.symm
        have hD := pg_n hx9 (by omega) hD
        have hH := pg_n hx9 (by omega) hH
        have hH6 := pg_n hx9 (by omega) hH6
        have hH3 := pg_n hx9 (by omega) hH3
        have hH4 := pg_n hx9 (by omega) hH4
        have hL := pg_n hx9 (by omega) hL
        have hN := pg_n hx9 (by omega) hN
        have hNk := pg_n hx9 (by omega) hNk
        have hBe := pg_s hx9
        have hfr : fr hp hpx 57 58 := fr.rf.up hx9 (by decide) (by decide)
        refine pt_iload eD_carry_55 rfl ?_
        refine pt_ic eD_carry_56 ?_
        refine pt_cne eD_carry_57 ⟨by omega, by omega⟩ ⟨by omega, by omega⟩ (fun c57 => ?_) (fun c57 => ?_)
        · refine pt_iload eD_carry_67 rfl ?_
          refine pt_istore3 eD_carry_68 rfl ?_
          refine pt_ic eD_carry_69 ?_
          refine pt_istore4 eD_carry_70 rfl ?_
          obtain ⟨l1, l2⟩ := lff_r (W := w) hok ig4 (by omega) g.toNat (by omega)
          refine lD_ca G sz hpx (by omega) hD hH hH6 hH3 hH4 hL hN hNk ig0 ig4 id0 id1 id2 id3 iS hok (fun g h0 h1 => ⟨(hag g h0 h1).2.2.1, (hag g h0 h1).2.2.2⟩) hBe hr9 (g := g) (W := w) (by omega) (by omega) (by omega) (by omega) (fun hp5 he5 => ?_) g.toNat 0 hpx (by omega) (by omega) rfl
          rw [he5]
          refine pt_aload eD_carry_105 rfl ?_
          refine pt_iload eD_carry_106 rfl ?_
          refine pt_iload eD_carry_107 rfl ?_
          refine pt_kv2r eD_carry_108 (cD_leastCarried G sz _ (by omega) hD hH hH6 hH3 hH4 hL hN hNk ig0 ig4 id0 id1 id2 id3 iS hok (fun g h0 h1 => ⟨(hag g h0 h1).2.2.1, (hag g h0 h1).2.2.2⟩) hBe hr9 (by omega) (by omega) l1 l2 (by omega)) hD rfl (Nat.le_of_ble_eq_true rfl) (by decide) (Nat.le_refl _) (Nat.le_refl _) ?_
          refine pt_iret eD_carry_111 (Nat.le_refl _) (Nat.le_refl _) ?_
          rw [hrc, if_neg c44, if_neg c57]
          refine ⟨rfl, rfl, ⟨to, dr, hto, hDo.keep hfr (by omega), hTx.keep hfr (by omega), hHs.keep hfr (by omega), hHd.keep hfr (by omega), hLf.keep hfr (by omega), hI0.keep hfr (by omega), hI1.keep hfr (by omega), hGo.keep hfr (by omega), ?_⟩, fun k hk => hfr k (by omega)⟩
          exact ⟨ln, gp, f9, ch, th, wa, no, hBe, hfr.at (by decide) hp58, hfr.at (by decide) hp59, hfr.at (by decide) hp60, hfr.at (by decide) hp61, hfr.at (by decide) hp62⟩
        · refine pt_aload eD_carry_60 rfl ?_
          refine pt_get eD_carry_61 hD rfl ?_
          refine pt_iload eD_carry_64 rfl ?_
          refine pt_iald eD_carry_65 hBe (by omega) (by omega) (by decide) ?_
          refine pt_iret eD_carry_66 (Nat.le_refl _) (Nat.le_refl _) ?_
          rw [hrc, if_neg c44, if_pos c57]
          have h8 := hr9 0 w (by omega) ig0 (by omega) (by omega)
          rw [show 61 * (0 : Int) + w = w by omega] at h8
          rw [h8]
          refine ⟨rfl, rfl, ⟨to, dr, hto, hDo.keep hfr (by omega), hTx.keep hfr (by omega), hHs.keep hfr (by omega), hHd.keep hfr (by omega), hLf.keep hfr (by omega), hI0.keep hfr (by omega), hI1.keep hfr (by omega), hGo.keep hfr (by omega), ?_⟩, fun k hk => hfr k (by omega)⟩
          exact ⟨ln, gp, f9, ch, th, wa, no, hBe, hfr.at (by decide) hp58, hfr.at (by decide) hp59, hfr.at (by decide) hp60, hfr.at (by decide) hp61, hfr.at (by decide) hp62⟩
      · refine pt_ic eD_carry_47 ?_
        refine pt_iret eD_carry_49 (Nat.le_refl _) (Nat.le_refl _) ?_
        rw [hrc, if_pos c44]
        exact ⟨rfl, rfl, ⟨to, dr, hC0⟩, fr.rf⟩
    · refine pt_aload eD_carry_15 rfl ?_
      refine pt_get eD_carry_16 hD rfl ?_
      refine pt_iload eD_carry_19 rfl ?_
      refine pt_kv1r eD_carry_20 (cH_has G sz _ hH j_g ig0 ig4) hH rfl (Nat.le_of_ble_eq_true rfl) (by decide) (Nat.le_refl _) (Nat.le_refl _) ?_
      refine pt_zne eD_carry_23 (pwi_j _ _ _) (fun c23 => ?_) (fun c23 => ?_)
      · have cg : (0 ≤ w ∧ w ≤ 60) ∧ (g = -1 ∨ (0 ≤ g ∧ g ≤ q 3 0 - 1)) := by
          first
          | exact ⟨c7, Or.inl c12⟩
          | exact ⟨c7, Or.inr (pwi_1 c23)⟩
        have hrc : rCarry q w g = if opf (q 2 0) (q 2 1) (q 17) = -9 then -9 else if g = -1 then Bf (cCf q) (q 7) (q 6) (q 3 0) 0 w else lcf (cCf q) (q 7) (q 6) (q 3 0) g (lff (cCf q) (q 7) (q 6) (q 3 0) w g.toNat) := by unfold rCarry; rw [if_neg (fun z => z cg)]
        have hop := opf_r (ev := q 2 0) (bk := q 2 1) (σ := q 17) id2 iS.1
        have hi9 := iS.2.1
        refine pt_aload eD_carry_28 rfl ?_
        refine pt_get eD_carry_29 hD rfl ?_
        refine pt_get eD_carry_32 hL rfl ?_
        refine pt_aload eD_carry_35 rfl ?_
        refine pt_get eD_carry_36 hD rfl ?_
        refine pt_kv1r eD_carry_39 (cS_leads G sz _ hN hH id0 id1 id2 id3 iS.1 iS.2.1 iS.2.2.1) hN rfl (Nat.le_of_ble_eq_true rfl) (by decide) (Nat.le_refl _) (Nat.le_refl _) ?_
        refine pt_ic eD_carry_42 ?_
        refine pt_cne eD_carry_44 ⟨by omega, by omega⟩ ⟨by omega, by omega⟩ (fun c44 => ?_) (fun c44 => ?_)
        · refine pt_aload eD_carry_50 rfl ?_
          refine pt_iload eD_carry_51 rfl ?_
          refine pt_kv1 eD_carry_52 (cD_reckonLoads G sz _ (by omega) hD hH hH6 hH3 hH4 hL hN hNk ig0 ig4 id0 id1 id2 id3 iS hok (fun g h0 h1 => ⟨(hag g h0 h1).2.2.1, (hag g h0 h1).2.2.2⟩) (by omega) (by omega) hBe) hD rfl (Nat.le_of_ble_eq_true rfl) (by decide) (Nat.le_refl _) (Nat.le_refl _) ?_
          rintro v2 sz2 hpx ⟨rfl, hz9, f9, hx9, hr9⟩
          obtain rfl := hz9.symm
          have hD := pg_n hx9 (by omega) hD
          have hH := pg_n hx9 (by omega) hH
          have hH6 := pg_n hx9 (by omega) hH6
          have hH3 := pg_n hx9 (by omega) hH3
          have hH4 := pg_n hx9 (by omega) hH4
          have hL := pg_n hx9 (by omega) hL
          have hN := pg_n hx9 (by omega) hN
          have hNk := pg_n hx9 (by omega) hNk
          have hBe := pg_s hx9
          have hfr : fr hp hpx 57 58 := fr.rf.up hx9 (by decide) (by decide)
          refine pt_iload eD_carry_55 rfl ?_
          refine pt_ic eD_carry_56 ?_
          refine pt_cne eD_carry_57 ⟨by omega, by omega⟩ ⟨by omega, by omega⟩ (fun c57 => ?_) (fun c57 => ?_)
          · refine pt_iload eD_carry_67 rfl ?_
            refine pt_istore3 eD_carry_68 rfl ?_
            refine pt_ic eD_carry_69 ?_
            refine pt_istore4 eD_carry_70 rfl ?_
            obtain ⟨l1, l2⟩ := lff_r (W := w) hok ig4 (by omega) g.toNat (by omega)
            refine lD_ca G sz hpx (by omega) hD hH hH6 hH3 hH4 hL hN hNk ig0 ig4 id0 id1 id2 id3 iS hok (fun g h0 h1 => ⟨(hag g h0 h1).2.2.1, (hag g h0 h1).2.2.2⟩) hBe hr9 (g := g) (W := w) (by omega) (by omega) (by omega) (by omega) (fun hp5 he5 => ?_) g.toNat 0 hpx (by omega) (by omega) rfl
            rw [he5]
            refine pt_aload eD_carry_105 rfl ?_
            refine pt_iload eD_carry_106 rfl ?_
            refine pt_iload eD_carry_107 rfl ?_
            refine pt_kv2r eD_carry_108 (cD_leastCarried G sz _ (by omega) hD hH hH6 hH3 hH4 hL hN hNk ig0 ig4 id0 id1 id2 id3 iS hok (fun g h0 h1 => ⟨(hag g h0 h1).2.2.1, (hag g h0 h1).2.2.2⟩) hBe hr9 (by omega) (by omega) l1 l2 (by omega)) hD rfl (Nat.le_of_ble_eq_true rfl) (by decide) (Nat.le_refl _) (Nat.le_refl _) ?_
            refine pt_iret eD_carry_111 (Nat.le_refl _) (Nat.le_refl _) ?_
            rw [hrc, if_neg c44, if_neg c57]
            refine ⟨rfl, rfl, ⟨to, dr, hto, hDo.keep hfr (by omega), hTx.keep hfr (by omega), hHs.keep hfr (by omega), hHd.keep hfr (by omega), hLf.keep hfr (by omega), hI0.keep hfr (by omega), hI1.keep hfr (by omega), hGo.keep hfr (by omega), ?_⟩, fun k hk => hfr k (by omega)⟩
            exact ⟨ln, gp, f9, ch, th, wa, no, hBe, hfr.at (by decide) hp58, hfr.at (by decide) hp59, hfr.at (by decide) hp60, hfr.at (by decide) hp61, hfr.at (by decide) hp62⟩
          · refine pt_aload eD_carry_60 rfl ?_
            refine pt_get eD_carry_61 hD rfl ?_
            refine pt_iload eD_carry_64 rfl ?_
            refine pt_iald eD_carry_65 hBe (by omega) (by omega) (by decide) ?_
            refine pt_iret eD_carry_66 (Nat.le_refl _) (Nat.le_refl _) ?_
            rw [hrc, if_neg c44, if_pos c57]
            have h8 := hr9 0 w (by omega) ig0 (by omega) (by omega)
            rw [show 61 * (0 : Int) + w = w by omega] at h8
            rw [h8]
            refine ⟨rfl, rfl, ⟨to, dr, hto, hDo.keep hfr (by omega), hTx.keep hfr (by omega), hHs.keep hfr (by omega), hHd.keep hfr (by omega), hLf.keep hfr (by omega), hI0.keep hfr (by omega), hI1.keep hfr (by omega), hGo.keep hfr (by omega), ?_⟩, fun k hk => hfr k (by omega)⟩
            exact ⟨ln, gp, f9, ch, th, wa, no, hBe, hfr.at (by decide) hp58, hfr.at (by decide) hp59, hfr.at (by decide) hp60, hfr.at (by decide) hp61, hfr.at (by decide) hp62⟩
        · refine pt_ic eD_carry_47 ?_
          refine pt_iret eD_carry_49 (Nat.le_refl _) (Nat.le_refl _) ?_
          rw [hrc, if_pos c44]
          exact ⟨rfl, rfl, ⟨to, dr, hC0⟩, fr.rf⟩
      · refine pt_ic eD_carry_26 ?_
        refine pt_iret eD_carry_27 (Nat.le_refl _) (Nat.le_refl _) ?_
        first
        | (have c7 := pwi_0 c7
           rw [show rCarry q w g = -1 by unfold rCarry; rw [if_pos (fun z => c7 z.1)]]
           exact ⟨rfl, rfl, ⟨to, dr, hC0⟩, fr.rf⟩)
        | (have c23 := pwi_0 c23
           rw [show rCarry q w g = -1 by unfold rCarry; rw [if_pos (fun z => z.2.elim c12 c23)]]
           exact ⟨rfl, rfl, ⟨to, dr, hC0⟩, fr.rf⟩)
