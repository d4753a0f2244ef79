/-! sums; the first day on which one is hungry -/
def sm (f : Int → Int) : Nat → Int
  | 0 => 0
  | n + 1 => sm f n + f n
theorem sm_s {f : Int → Int} {i : Int} (h : 0 ≤ i) : sm f (i + 1).toNat = sm f i.toNat + f i := by
  rw [show (i + 1).toNat = i.toNat + 1 by omega, sm, Int.toNat_of_nonneg h]
def fsd (h : Int → Int) : Nat → Int → Int
  | 0, a => a
  | n + 1, a => if 0 < h a then a else fsd h n (a + 1)
theorem fsd_sp {h : Int → Int} : ∀ (n : Nat) (a : Int), a ≤ fsd h n a ∧ fsd h n a ≤ a + n ∧ (fsd h n a < a + n → 0 < h (fsd h n a)) ∧ ∀ x, a ≤ x → x < fsd h n a → ¬ 0 < h x
  | 0, a => ⟨Int.le_refl _, by show a ≤ a + 0; omega, fun h0 => absurd (show a < a + 0 from h0) (by omega), fun x h0 h1 => absurd (show x < a from h1) (by omega)⟩
  | n + 1, a => by
    obtain ⟨s1, s2, s3, s4⟩ := fsd_sp (h := h) n (a + 1)
    rw [fsd]
    by_cases h0 : 0 < h a
    · rw [if_pos h0]
      exact ⟨Int.le_refl _, by omega, fun _ => h0, fun x h1 h2 => absurd h2 (by omega)⟩
    · rw [if_neg h0]
      refine ⟨by omega, by omega, fun h1 => s3 (by omega), fun x h1 h2 => ?_⟩
      by_cases h3 : x = a
      · rw [h3]; exact h0
      · exact s4 x (by omega) h2
theorem fsd_un {h : Int → Int} {n : Nat} {a r : Int} (h1 : a ≤ r) (h2 : r ≤ a + n) (h3 : r < a + n → 0 < h r) (h4 : ∀ x, a ≤ x → x < r → ¬ 0 < h x) : fsd h n a = r := by
  obtain ⟨s1, s2, s3, s4⟩ := fsd_sp (h := h) n a
  rcases (show fsd h n a < r ∨ r < fsd h n a ∨ fsd h n a = r by omega) with hc | hc | hc
  · exact absurd (s3 (by omega)) (h4 _ s1 hc)
  · exact absurd (h3 (by omega)) (s4 _ h1 hc)
  · exact hc
def hq (us br ms σ : Int → Int) (gd : Int) (n : Int) (d : Int) : Int := hnf us br ms (pn us br ms σ gd (d - σ 0).toNat) n.toNat
theorem hnf_b {us br ms σ : Int → Int} : ∀ n : Nat, 0 ≤ hnf us br ms σ n ∧ hnf us br ms σ n ≤ n
  | 0 => ⟨Int.le_refl _, Int.le_refl _⟩
  | n + 1 => by
    have h := hnf_b (us := us) (br := br) (ms := ms) (σ := σ) n
    rw [hnf]
    split <;> omega
def rNow (q : Nat → Int → Int) (w : Int) : Int := if w = 0 then q 17 0 else if w = 1 then opf (q 2 0) (q 2 1) (q 17) else if w = 2 then q 17 1 else if w = 3 then sm (fun g => q 17 (6 + g)) 4 else if w = 4 then sm (fun k => q 17 (10 + k)) 80 else if w = 5 then (if fsd (hq (q 5) (q 8) (q 9) (q 17) (q 3 0) (q 3 0)) (20 - q 17 0).toNat (q 17 0) < 20 then fsd (hq (q 5) (q 8) (q 9) (q 17) (q 3 0) (q 3 0)) (20 - q 17 0).toNat (q 17 0) else -9) else -1
theorem lR_fh (G : pd_G) (sz : Nat) (hp : pd_P) {v : Nat → Int} {gf br ms us : Int → Int} (hR : hp 178 = RO v) (h_goods : hp 181 = ia 2 gf) (h_brought : hp 186 = ia 160 br) (h_missed : hp 187 = ia 160 ms) (h_use : hp 183 = ia 8 us) (ig0 : 0 ≤ gf 0) (ig4 : gf 0 ≤ 4) (iB : okB br) (iM : okB ms) (iU : okU (gf 0) us) {σ : Int → Int} (hs : okS ms σ) {r : Int} : ∀ (n k : Nat) (hp0 : pd_P), σ 0 + k + n = 20 → hp0 = va_up hp 193 (ia 90 (pn us br ms σ (gf 0) k)) → r = fsd (hq us br ms σ (gf 0) (gf 0)) n (σ 0 + k) → pd_t G mR_firstHungry 2 (fun v' sz' hp' => v' = some (vi (if r < 20 then r else -9)) ∧ sz' = sz ∧ ∃ f, hp' = va_up hp 193 (ia 90 f)) 4 [some (vr 178)] [] sz hp0 := by
  have i0 := hs.1
  intro n
  induction n with
  | zero =>
    intro k hp0 hk he0 hr
    have hR := pg_n he0 (by decide) hR
    have h_tried := pg_s he0
    have hr2 : r = σ 0 + k := hr
    refine pt_aload eR_firstHungry_4 rfl ?_
    refine pt_get eR_firstHungry_5 hR rfl ?_
    refine pt_ic eR_firstHungry_8 ?_
    refine pt_iald eR_firstHungry_9 h_tried (by omega) (by omega) (by decide) ?_
    rw [pn_0]
    refine pt_ic eR_firstHungry_10 ?_
    refine pt_cge eR_firstHungry_12 ⟨by omega, by omega⟩ ⟨by omega, by omega⟩ (fun c12 => ?_) (fun c12 => ?_)
    · refine pt_ic eR_firstHungry_35 ?_
      refine pt_iret eR_firstHungry_37 (Nat.le_refl _) (Nat.le_refl _) ?_
      exact ⟨by rw [if_neg (by omega)], rfl, _, he0⟩
    · exfalso; omega
  | succ n ih =>
    intro k hp0 hk he0 hr
    have hR := pg_n he0 (by decide) hR
    have h_goods := pg_n he0 (by decide) h_goods
    have h_brought := pg_n he0 (by decide) h_brought
    have h_missed := pg_n he0 (by decide) h_missed
    have h_use := pg_n he0 (by decide) h_use
    have h_tried := pg_s he0
    have hok := pn_ok (br := br) ig0 ig4 iM iU hs k (by omega)
    have hk2 : hq us br ms σ (gf 0) (gf 0) (σ 0 + k) = hnf us br ms (pn us br ms σ (gf 0) k) (gf 0).toNat := by
      unfold hq
      rw [show (σ 0 + (k : Int) - σ 0).toNat = k by omega]
    have hb9 := hnf_b (us := us) (br := br) (ms := ms) (σ := pn us br ms σ (gf 0) k) (gf 0).toNat
    rw [fsd, hk2] at hr
    refine pt_aload eR_firstHungry_4 rfl ?_
    refine pt_get eR_firstHungry_5 hR rfl ?_
    refine pt_ic eR_firstHungry_8 ?_
    refine pt_iald eR_firstHungry_9 h_tried (by omega) (by omega) (by decide) ?_
    rw [pn_0]
    refine pt_ic eR_firstHungry_10 ?_
    refine pt_cge eR_firstHungry_12 ⟨by omega, by omega⟩ ⟨by omega, by omega⟩ (fun c12 => ?_) (fun c12 => ?_)
    · refine pt_ic eR_firstHungry_35 ?_
      refine pt_iret eR_firstHungry_37 (Nat.le_refl _) (Nat.le_refl _) ?_
      exfalso; omega
    · refine pt_aload eR_firstHungry_15 rfl ?_
      refine pt_aload eR_firstHungry_16 rfl ?_
      refine pt_get eR_firstHungry_17 hR rfl ?_
      refine pt_kv1 eR_firstHungry_20 (cR_passOn G sz _ (Or.inr rfl) hR h_goods h_brought h_missed h_use ig0 ig4 iB iM iU (hok).2.2.2.1 (hok).1 (by rw [pn_0]; omega) h_tried) hR rfl (Nat.le_of_ble_eq_true rfl) (by decide) (Nat.le_refl _) (Nat.le_refl _) ?_
      rintro v2 sz2 hpx ⟨rfl, hz9, hx9⟩
      obtain rfl := hz9.symm
      have hR := pg_n hx9 (by decide) hR
      have h_goods := pg_n hx9 (by decide) h_goods
      have h_brought := pg_n hx9 (by decide) h_brought
      have h_missed := pg_n hx9 (by decide) h_missed
      have h_use := pg_n hx9 (by decide) h_use
      have h_tried := pg_s hx9
      refine pt_zle eR_firstHungry_23 ⟨by omega, by omega⟩ (fun c23 => ?_) (fun c23 => ?_)
      · refine ih (k + 1) _ (by omega) (by rw [hx9, he0, bx_uu]; rfl) ?_
        rw [hr, if_neg (by omega)]
        rw [show (σ 0 + ((k + 1 : Nat) : Int)) = σ 0 + k + 1 by omega]
      · refine pt_aload eR_firstHungry_26 rfl ?_
        refine pt_get eR_firstHungry_27 hR rfl ?_
        refine pt_ic eR_firstHungry_30 ?_
        refine pt_iald eR_firstHungry_31 h_tried (by omega) (by omega) (by decide) ?_
        refine pt_ic eR_firstHungry_32 ?_
        refine pt_isub eR_firstHungry_33 ?_
        refine pt_iret eR_firstHungry_34 (Nat.le_refl _) (Nat.le_refl _) ?_
        rw [if_pos (by omega)] at hr
        refine ⟨?_, rfl, _, by rw [hx9, he0, bx_uu]⟩
        rw [passf_0, pn_0, if_pos (by omega), hr, show σ 0 + (k : Int) + 1 - 1 = σ 0 + k by omega]
theorem cR_firstHungry (G : pd_G) (sz : Nat) (hp : pd_P) {v : Nat → Int} {gf br ms us : Int → Int} (hR : hp 178 = RO v) (h_goods : hp 181 = ia 2 gf) (h_brought : hp 186 = ia 160 br) (h_missed : hp 187 = ia 160 ms) (h_use : hp 183 = ia 8 us) (ig0 : 0 ≤ gf 0) (ig4 : gf 0 ≤ 4) (iB : okB br) (iM : okB ms) (iU : okU (gf 0) us) {σ τ : Int → Int} (hs : okS ms σ) (h_now : hp 188 = ia 90 σ) (h_tried : hp 193 = ia 90 τ) : pd_c G mR_firstHungry 2 [vr 178] sz hp (fun v' sz' hp' => v' = some (vi (if fsd (hq us br ms σ (gf 0) (gf 0)) (20 - σ 0).toNat (σ 0) < 20 then fsd (hq us br ms σ (gf 0) (gf 0)) (20 - σ 0).toNat (σ 0) else -9)) ∧ sz' = sz ∧ ∃ f, hp' = va_up hp 193 (ia 90 f)) := by
  refine pd_con kR_firstHungry [some (vr 178)] rfl rfl (Nat.le_of_ble_eq_true rfl) ?_
  have i20 := hs.2.1
  refine pt_aload eR_firstHungry_0 rfl ?_
  refine pt_kv0 eR_firstHungry_1 (cR_take G sz _ hR h_now h_tried) hR rfl (Nat.le_of_ble_eq_true rfl) (by decide) (Nat.le_refl _) (Nat.le_refl _) ?_
  rintro v2 sz2 hpx ⟨rfl, hz9, hx9⟩
  obtain rfl := hz9.symm
  exact lR_fh G sz hp hR h_goods h_brought h_missed h_use ig0 ig4 iB iM iU hs (20 - σ 0).toNat 0 hpx (by omega) hx9 (by rw [show (σ 0 + ((0 : Nat) : Int)) = σ 0 by omega])
theorem lR_now3 (G : pd_G) (sz : Nat) (hp : pd_P) {v : Nat → Int} {σ : Int → Int} {w : Int} (hR : hp 178 = RO v) (h_now : hp 188 = ia 90 σ) {R : pd_R} (hx : ∀  (hp0 : pd_P), hp0 = hp → pd_t G mR_now 3 R 88 [some (vr 178), some (vi w), some (vi (sm (fun g => σ (6 + g)) (4 : Int).toNat)), some (vi (4))] [] sz hp0) : ∀ (n : Nat) (i : Int)  (hp0 : pd_P), 0 ≤ i → i + n = 4 → hp0 = hp → pd_t G mR_now 3 R 65 [some (vr 178), some (vi w), some (vi (sm (fun g => σ (6 + g)) (i : Int).toNat)), some (vi (i))] [] sz hp0 := by
  intro n
  induction n with
  | zero =>
    intro i  hp0 hi0 hiE he0
    have hiE2 : 4 = i := by omega
    subst hiE2
    have hx2 := hx  hp0 he0
    rw [he0] at hx2
    rw [he0]
    refine pt_iload eR_now_65 rfl ?_
    refine pt_ic eR_now_66 ?_
    refine pt_cge eR_now_67 ⟨by omega, by omega⟩ ⟨by omega, by omega⟩ (fun c67 => ?_) (fun c67 => ?_)
    · exact hx2
    · exfalso; omega
  | succ n ih =>
    intro i  hp0 hi0 hiE he0
    rw [he0]
    refine pt_iload eR_now_65 rfl ?_
    refine pt_ic eR_now_66 ?_
    refine pt_cge eR_now_67 ⟨by omega, by omega⟩ ⟨by omega, by omega⟩ (fun c67 => ?_) (fun c67 => ?_)
    · exfalso; omega
    · refine pt_iload eR_now_70 rfl ?_
      refine pt_aload eR_now_71 rfl ?_
      refine pt_get eR_now_72 hR rfl ?_
      refine pt_ic eR_now_75 ?_
      refine pt_iload eR_now_77 rfl ?_
      refine pt_iadd eR_now_78 ?_
      refine pt_iald eR_now_79 h_now (by omega) (by omega) (by decide) ?_
      refine pt_iadd eR_now_80 ?_
      refine pt_istore2 eR_now_81 rfl ?_
      refine pt_inc3 eR_now_82 rfl ?_
      refine pt_goto eR_now_85 ?_
      rw [← sm_s (f := fun g => σ (6 + g)) hi0]
      exact ih (i + 1)  hp (by omega) (by omega) rfl 
theorem lR_now4 (G : pd_G) (sz : Nat) (hp : pd_P) {v : Nat → Int} {σ : Int → Int} {w : Int} (hR : hp 178 = RO v) (h_now : hp 188 = ia 90 σ) {R : pd_R} (hx : ∀  (hp0 : pd_P), hp0 = hp → pd_t G mR_now 3 R 114 [some (vr 178), some (vi w), some (vi (sm (fun k => σ (10 + k)) (90 - 10 : Int).toNat)), some (vi (90))] [] sz hp0) : ∀ (n : Nat) (i : Int)  (hp0 : pd_P), 10 ≤ i → i + n = 90 → hp0 = hp → pd_t G mR_now 3 R 93 [some (vr 178), some (vi w), some (vi (sm (fun k => σ (10 + k)) (i - 10 : Int).toNat)), some (vi (i))] [] sz hp0 := by
  intro n
  induction n with
  | zero =>
    intro i  hp0 hi0 hiE he0
    have hiE2 : 90 = i := by omega
    subst hiE2
    have hx2 := hx  hp0 he0
    rw [he0] at hx2
    rw [he0]
    refine pt_iload eR_now_93 rfl ?_
    refine pt_ic eR_now_94 ?_
    refine pt_cge eR_now_96 ⟨by omega, by omega⟩ ⟨by omega, by omega⟩ (fun c96 => ?_) (fun c96 => ?_)
    · exact hx2
    · exfalso; omega
  | succ n ih =>
    intro i  hp0 hi0 hiE he0
    rw [he0]
    refine pt_iload eR_now_93 rfl ?_
    refine pt_ic eR_now_94 ?_
    refine pt_cge eR_now_96 ⟨by omega, by omega⟩ ⟨by omega, by omega⟩ (fun c96 => ?_) (fun c96 => ?_)
    · exfalso; omega
    · refine pt_iload eR_now_99 rfl ?_
      refine pt_aload eR_now_100 rfl ?_
      refine pt_get eR_now_101 hR rfl ?_
      refine pt_iload eR_now_104 rfl ?_
      refine pt_iald eR_now_105 h_now (by omega) (by omega) (by decide) ?_
      refine pt_iadd eR_now_106 ?_
      refine pt_istore2 eR_now_107 rfl ?_
      refine pt_inc3 eR_now_108 rfl ?_
      refine pt_goto eR_now_111 ?_
      have hs9 := sm_s (f := fun k => σ (10 + k)) (i := i - 10) (by omega)
      rw [show i - 10 + 1 = i + 1 - 10 by omega, show 10 + (i - 10) = i by omega] at hs9
      rw [← hs9]
      exact ih (i + 1)  hp (by omega) (by omega) rfl 
theorem xR_now (G : pd_G) (sz : Nat) (hp : pd_P) {q : Nat → Int → Int} {v : Nat → Int} (hM : MW hp q v) (hI : IN q v) {w : Int} (j_w : jR w) : pd_c G mR_now 3 [vr 178, vi w] sz hp (mPosT hp sz q v (rNow q w)) := by
  refine pd_con kR_now [some (vr 178), some (vi w), none, none] rfl rfl (Nat.le_of_ble_eq_true rfl) ?_
  obtain ⟨⟨ig0, ig4⟩, ⟨id0, id1, id2, id3⟩, iB, iM, iU, iF, iS, iP, iI, ⟨is0, is4, isx⟩, ⟨im0, im4, imx⟩, it0, it1⟩ := hI
  have k_w := j_w
  unfold jR at k_w
  have hR := hM.1
  have h_now := hM.w_now
  have h_goods := hM.w_goods
  have h_door := hM.w_door
  have h_brought := hM.w_brought
  have h_missed := hM.w_missed
  have h_use := hM.w_use
  have h_tried := hM.w_tried
  refine pt_ic eR_now_0 ?_
  refine pt_istore2 eR_now_1 rfl ?_
  refine pt_iload eR_now_2 rfl ?_
  rcases (show w = 0 ∨ w = 1 ∨ w = 2 ∨ w = 3 ∨ w = 4 ∨ w = 5 ∨ (w < 0 ∨ 5 < w) by omega) with rfl | rfl | rfl | rfl | rfl | rfl | hsw
  · refine pt_tin (t := 40) (off := 37) eR_now_3 ⟨by decide, by decide⟩ (by decide) (by decide) rfl (by decide) ?_
    refine pt_aload eR_now_40 rfl ?_
    refine pt_get eR_now_41 hR rfl ?_
    refine pt_ic eR_now_44 ?_
    refine pt_iald eR_now_45 h_now (by omega) (by omega) (by decide) ?_
    refine pt_iret eR_now_46 (Nat.le_refl _) (Nat.le_refl _) ?_
    exact mPosT_0 hM
  · refine pt_tin (t := 47) (off := 44) eR_now_3 ⟨by decide, by decide⟩ (by decide) (by decide) rfl (by decide) ?_
    refine pt_aload eR_now_47 rfl ?_
    refine pt_aload eR_now_48 rfl ?_
    refine pt_get eR_now_49 hR rfl ?_
    refine pt_kv1r eR_now_52 (cR_opens G sz _ hR h_door h_now id0 id1 id2 id3 iS.1 iS.2.1 iS.2.2.1) hR rfl (Nat.le_of_ble_eq_true rfl) (by decide) (Nat.le_refl _) (Nat.le_refl _) ?_
    refine pt_iret eR_now_55 (Nat.le_refl _) (Nat.le_refl _) ?_
    exact mPosT_0 hM
  · refine pt_tin (t := 56) (off := 53) eR_now_3 ⟨by decide, by decide⟩ (by decide) (by decide) rfl (by decide) ?_
    refine pt_aload eR_now_56 rfl ?_
    refine pt_get eR_now_57 hR rfl ?_
    refine pt_ic eR_now_60 ?_
    refine pt_iald eR_now_61 h_now (by omega) (by omega) (by decide) ?_
    refine pt_iret eR_now_62 (Nat.le_refl _) (Nat.le_refl _) ?_
    exact mPosT_0 hM
  · refine pt_tin (t := 63) (off := 60) eR_now_3 ⟨by decide, by decide⟩ (by decide) (by decide) rfl (by decide) ?_
    refine pt_ic eR_now_63 ?_
    refine pt_istore3 eR_now_64 rfl ?_
    refine lR_now3 G sz hp (σ := q 17) hR h_now (fun hp5 he5 => ?_) 4 0 hp (by omega) (by omega) rfl
    rw [he5]
    refine pt_iload eR_now_88 rfl ?_
    refine pt_iret eR_now_89 (Nat.le_refl _) (Nat.le_refl _) ?_
    exact mPosT_0 hM
  · refine pt_tin (t := 90) (off := 87) eR_now_3 ⟨by decide, by decide⟩ (by decide) (by decide) rfl (by decide) ?_
    refine pt_ic eR_now_90 ?_
    refine pt_istore3 eR_now_92 rfl ?_
    refine lR_now4 G sz hp (σ := q 17) hR h_now (fun hp5 he5 => ?_) 80 10 hp (by omega) (by omega) rfl
    rw [he5]
    refine pt_iload eR_now_114 rfl ?_
    refine pt_iret eR_now_115 (Nat.le_refl _) (Nat.le_refl _) ?_
    exact mPosT_0 hM
  · refine pt_tin (t := 116) (off := 113) eR_now_3 ⟨by decide, by decide⟩ (by decide) (by decide) rfl (by decide) ?_
    refine pt_aload eR_now_116 rfl ?_
    refine pt_kv0 eR_now_117 (cR_firstHungry G sz _ hR h_goods h_brought h_missed h_use ig0 ig4 iB iM iU iS h_now h_tried) hR rfl (Nat.le_of_ble_eq_true rfl) (by decide) (Nat.le_refl _) (Nat.le_refl _) ?_
    rintro v2 sz2 hpx ⟨rfl, hz9, f9, hx9⟩
    obtain rfl := hz9.symm
    refine pt_iret eR_now_120 (Nat.le_refl _) (Nat.le_refl _) ?_
    exact ⟨rfl, rfl, ⟨f9, by rw [hx9]; exact hM.s_tried f9⟩, fr.rf.up hx9 (by decide) (by decide)⟩
  · refine pt_tout (t := 121) eR_now_3 ⟨by omega, by omega⟩ hsw (by decide) ?_
    refine pt_ic eR_now_121 ?_
    refine pt_iret eR_now_122 (Nat.le_refl _) (Nat.le_refl _) ?_
    rw [show rNow q w = -1 by unfold rNow; rw [if_neg (by omega), if_neg (by omega), if_neg (by omega), if_neg (by omega), if_neg (by omega), if_neg (by omega)]]
    exact mPosT_0 hM
theorem lD_sum (G : pd_G) (sz : Nat) (hp : pd_P) {A N : Nat} {f : Int → Int} (hA : hp A = ia N f) (hN : N ≤ 100) {R : pd_R} (hx : ∀  (hp0 : pd_P), hp0 = hp → pd_t G mD_sum 0 R 22 [some (vr A), some (vi (sm f ((N : Int) : Int).toNat)), some (vi ((N : Int)))] [] sz hp0) : ∀ (n : Nat) (i : Int)  (hp0 : pd_P), 0 ≤ i → i + n = (N : Int) → hp0 = hp → pd_t G mD_sum 0 R 4 [some (vr A), some (vi (sm f (i : Int).toNat)), some (vi (i))] [] sz hp0 := by
  intro n
  induction n with
  | zero =>
    intro i  hp0 hi0 hiE he0
    have hiE2 : (N : Int) = i := by omega
    subst hiE2
    have hx2 := hx  hp0 he0
    rw [he0] at hx2
    rw [he0]
    refine pt_iload eD_sum_4 rfl ?_
    refine pt_aload eD_sum_5 rfl ?_
    refine pt_alen eD_sum_6 hA rfl ?_
    refine pt_cge eD_sum_7 ⟨by omega, by omega⟩ ⟨by omega, by omega⟩ (fun c7 => ?_) (fun c7 => ?_)
    · exact hx2
    · exfalso; omega
  | succ n ih =>
    intro i  hp0 hi0 hiE he0
    rw [he0]
    refine pt_iload eD_sum_4 rfl ?_
    refine pt_aload eD_sum_5 rfl ?_
    refine pt_alen eD_sum_6 hA rfl ?_
    refine pt_cge eD_sum_7 ⟨by omega, by omega⟩ ⟨by omega, by omega⟩ (fun c7 => ?_) (fun c7 => ?_)
    · exfalso; omega
    · refine pt_iload eD_sum_10 rfl ?_
      refine pt_aload eD_sum_11 rfl ?_
      refine pt_iload eD_sum_12 rfl ?_
      refine pt_iald eD_sum_13 hA (by omega) (by omega) (by omega) ?_
      refine pt_iadd eD_sum_14 ?_
      refine pt_istore1 eD_sum_15 rfl ?_
      refine pt_inc2 eD_sum_16 rfl ?_
      refine pt_goto eD_sum_19 ?_
      rw [← sm_s (f := f) hi0]
      exact ih (i + 1)  hp (by omega) (by omega) rfl 
theorem cD_sum (G : pd_G) (sz : Nat) (hp : pd_P) {A N : Nat} {f : Int → Int} (hA : hp A = ia N f) (hN : N ≤ 100) : pd_c G mD_sum 0 [vr A] sz hp (pd_pure (vi (sm f N)) sz hp) := by
  refine pd_con kD_sum [some (vr A), none, none] rfl rfl (Nat.le_of_ble_eq_true rfl) ?_
  refine pt_ic eD_sum_0 ?_
  refine pt_istore1 eD_sum_1 rfl ?_
  refine pt_ic eD_sum_2 ?_
  refine pt_istore2 eD_sum_3 rfl ?_
  refine lD_sum G sz hp hA hN (fun hp5 he5 => ?_) N 0 hp (by omega) (by omega) rfl
  rw [he5]
  refine pt_iload eD_sum_22 rfl ?_
  refine pt_iret eD_sum_23 (Nat.le_refl _) (Nat.le_refl _) ?_
  exact ⟨rfl, rfl, rfl⟩
theorem hnf_g {us br ms σ : Int → Int} {i : Int} (h0 : 0 ≤ i) : 0 < hnf us br ms σ (i + 1).toNat ↔ (0 < hnf us br ms σ i.toNat ∨ rr us br ms σ i < 0) := by
  have hb := hnf_b (us := us) (br := br) (ms := ms) (σ := σ) i.toNat
  by_cases h : rr us br ms σ i < 0
  · rw [← hnf_y h0 h]
    exact ⟨fun _ => Or.inr h, fun _ => by omega⟩
  · rw [← hnf_n h0 h]
    exact ⟨fun h1 => Or.inl h1, fun h1 => by omega⟩
def fl (us br ms σ : Int → Int) (gd n : Int) : Int := fsd (hq us br ms σ gd n) (20 - σ 0).toNat (σ 0)
theorem fl_0 {us br ms σ : Int → Int} {gd : Int} (h : σ 0 ≤ 20) : fl us br ms σ gd 0 = 20 := fsd_un h (by omega) (fun h1 => by omega) (fun x h1 h2 => by show ¬ 0 < (0 : Int); omega)
theorem fl_r {us br ms σ : Int → Int} {gd n : Int} (h : σ 0 ≤ 20) : σ 0 ≤ fl us br ms σ gd n ∧ fl us br ms σ gd n ≤ 20 := by
  obtain ⟨s1, s2, s3, s4⟩ := fsd_sp (h := hq us br ms σ gd n) (20 - σ 0).toNat (σ 0)
  unfold fl
  omega
/-- with one good more: it is the same, or the day of this good -/
theorem fl_same {us br ms σ : Int → Int} {gd n : Int} (h : σ 0 ≤ 20) (h0 : 0 ≤ n) (hn : ∀ x, σ 0 ≤ x → x < fl us br ms σ gd n → ¬ rr us br ms (pn us br ms σ gd (x - σ 0).toNat) n < 0) : fl us br ms σ gd (n + 1) = fl us br ms σ gd n := by
  obtain ⟨s1, s2, s3, s4⟩ := fsd_sp (h := hq us br ms σ gd n) (20 - σ 0).toNat (σ 0)
  exact fsd_un s1 s2 (fun h1 => (hnf_g h0).2 (Or.inl (s3 h1))) (fun x h1 h2 h3 => ((hnf_g h0).1 h3).elim (s4 x h1 h2) (hn x h1 h2))
theorem fl_less {us br ms σ : Int → Int} {gd n d : Int} (h : σ 0 ≤ 20) (h0 : 0 ≤ n) (hd0 : σ 0 ≤ d) (hd1 : d < fl us br ms σ gd n) (hn : ∀ x, σ 0 ≤ x → x < d → ¬ rr us br ms (pn us br ms σ gd (x - σ 0).toNat) n < 0) (hd : rr us br ms (pn us br ms σ gd (d - σ 0).toNat) n < 0) : fl us br ms σ gd (n + 1) = d := by
  obtain ⟨s1, s2, s3, s4⟩ := fsd_sp (h := hq us br ms σ gd n) (20 - σ 0).toNat (σ 0)
  have hd2 : d < fsd (hq us br ms σ gd n) (20 - σ 0).toNat (σ 0) := hd1
  exact fsd_un hd0 (by omega) (fun _ => (hnf_g h0).2 (Or.inr hd)) (fun x h1 h2 h3 => ((hnf_g h0).1 h3).elim (s4 x h1 (by omega)) (hn x h1 h2))
theorem lD_fl1 (G : pd_G) (sz : Nat) (hp : pd_P) {to dr : Nat} {se ga gd ev bk : Int} {br ms us uq σ : Int → Int} (hD : hp 1 = DO to dr se ga) (hH : hp to = HO to gd ev bk) (hH5 : hp (to + 5) = ia 80 br) (hH6 : hp (to + 6) = ia 80 ms) (hH2 : hp (to + 2) = ia 4 us) (hg0 : 0 ≤ gd) (hg4 : gd ≤ 4) (hb : okB br) (hm : okB ms) (hu : okU gd uq) (hs : okS ms σ) (hs0 : 0 ≤ σ 0) (hug : ∀ g, 0 ≤ g → g < gd → us g = uq g) {g : Int} (h0 : 0 ≤ g) (h1 : g < gd) {R : pd_R} (hx : ∀ l3 l4, pd_t G mD_firstLack 2 R 73 [some (vr 1), some (vi (fl uq br ms σ gd (g + 1))), some (vi g), l3, l4] [] sz hp) : ∀ (n : Nat) (i : Int), σ 0 ≤ i → i + n = fl uq br ms σ gd g → (∀ x, σ 0 ≤ x → x < i → ¬ rr uq br ms (pn uq br ms σ gd (x - σ 0).toNat) g < 0) → pd_t G mD_firstLack 2 R 41 [some (vr 1), some (vi (fl uq br ms σ gd g)), some (vi g), some (vi (pn uq br ms σ gd (i - σ 0).toNat (2 + g))), some (vi i)] [] sz hp := by
  have hfl := fl_r (us := uq) (br := br) (ms := ms) (gd := gd) (n := g) hs.2.1
  intro n
  induction n with
  | zero =>
    intro i hi0 hiE hno
    have hie : i = fl uq br ms σ gd g := by omega
    refine pt_iload eD_firstLack_41 rfl ?_
    refine pt_iload eD_firstLack_43 rfl ?_
    refine pt_cge eD_firstLack_44 ⟨by omega, by omega⟩ ⟨by omega, by omega⟩ (fun c44 => ?_) (fun c44 => ?_)
    · have h9 := hx (some (vi (pn uq br ms σ gd (i - σ 0).toNat (2 + g)))) (some (vi i))
      rw [fl_same hs.2.1 h0 (fun x hx0 hx1 => hno x hx0 (by omega))] at h9
      exact h9
    · exfalso; omega
  | succ n ih =>
    intro i hi0 hiE hno
    refine pt_iload eD_firstLack_41 rfl ?_
    refine pt_iload eD_firstLack_43 rfl ?_
    refine pt_cge eD_firstLack_44 ⟨by omega, by omega⟩ ⟨by omega, by omega⟩ (fun c44 => ?_) (fun c44 => ?_)
    · exfalso; omega
    · have hok := pn_ok (br := br) hg0 hg4 hm hu hs (i - σ 0).toNat (by omega)
      have hT1 := hok.2.2.2.1 g h0 (by omega)
      have hb1 := hb (4 * i + g) (by omega) (by omega)
      have hm1 := hm (4 * i + g) (by omega) (by omega)
      have hu1 := hu g h0 h1
      refine pt_aload eD_firstLack_47 rfl ?_
      refine pt_get eD_firstLack_48 hD rfl ?_
      refine pt_iload eD_firstLack_51 rfl ?_
      refine pt_iload eD_firstLack_52 rfl ?_
      refine pt_iload eD_firstLack_54 rfl ?_
      refine pt_kv3r eD_firstLack_55 (cH_rest G sz _ hH hH5 hH6 hH2 hT1.1 hT1.2 (by omega) (by omega) h0 (by omega) hb1 hm1 (by rw [hug g h0 h1]; exact hu1)) hH rfl (Nat.le_of_ble_eq_true rfl) (by decide) (Nat.le_refl _) (Nat.le_refl _) ?_
      have hrv : rsf (pn uq br ms σ gd (i - σ 0).toNat (2 + g)) (br (4 * i + g)) (ms (4 * i + g)) (us g) = rr uq br ms (pn uq br ms σ gd (i - σ 0).toNat) g := by
        unfold rr
        rw [pn_0, hug g h0 h1, show σ 0 + ((i - σ 0).toNat : Int) = i by omega]
      rw [hrv]
      have ht := pn_t (us := uq) (br := br) (ms := ms) (σ := σ) (i - σ 0).toNat h0 h1 hg4
      rw [show (i - σ 0).toNat + 1 = (i + 1 - σ 0).toNat by omega] at ht
      generalize hrv2 : (if rr uq br ms (pn uq br ms σ gd (i - σ 0).toNat) g < 0 then -1 else rr uq br ms (pn uq br ms σ gd (i - σ 0).toNat) g) = rv
      have hrv3 : (rr uq br ms (pn uq br ms σ gd (i - σ 0).toNat) g < 0 ∧ rv = -1) ∨ (0 ≤ rr uq br ms (pn uq br ms σ gd (i - σ 0).toNat) g ∧ rv = rr uq br ms (pn uq br ms σ gd (i - σ 0).toNat) g) := by
        rw [← hrv2]
        split <;> omega
      have hrv4 : -1 ≤ rv ∧ rv ≤ 999 := by
        have hrr : rr uq br ms (pn uq br ms σ gd (i - σ 0).toNat) g = max 0 (min (pn uq br ms σ gd (i - σ 0).toNat (2 + g) + br (4 * i + g)) 999 - ms (4 * i + g)) - uq g := by rw [← hrv, hug g h0 h1]; rfl
        omega
      refine pt_istore3 eD_firstLack_58 rfl ?_
      refine pt_iload eD_firstLack_59 rfl ?_
      refine pt_ic eD_firstLack_60 ?_
      refine pt_cne eD_firstLack_61 ⟨by omega, by omega⟩ ⟨by omega, by omega⟩ (fun c61 => ?_) (fun c61 => ?_)
      · first
        | (have e1 : (pn uq br ms σ gd (i + 1 - σ 0).toNat (2 + g)) = rv := by omega
           refine pt_inc4 eD_firstLack_67 rfl ?_
           refine pt_goto eD_firstLack_70 ?_
           refine pt_lve [some (vr 1), some (vi (fl uq br ms σ gd g)), some (vi g), some (vi (pn uq br ms σ gd (i + 1 - σ 0).toNat (2 + g))), some (vi (i + 1))] (by rw [e1]) ?_
           refine ih (i + 1) (by omega) (by omega) (fun x hx0 hx1 => ?_)
           by_cases hxi : x = i
           · rw [hxi]; omega
           · exact hno x hx0 (by omega))
        | (have e2 := fl_less (n := g) hs.2.1 h0 hi0 (by omega) hno (by omega)
           have h9 := hx (some (vi rv)) (some (vi (i + 1)))
           rw [e2] at h9
           refine pt_inc4 eD_firstLack_67 rfl ?_
           refine pt_goto eD_firstLack_70 ?_
           refine pt_iload eD_firstLack_41 rfl ?_
           refine pt_iload eD_firstLack_43 rfl ?_
           refine pt_cge eD_firstLack_44 ⟨by omega, by omega⟩ ⟨by omega, by omega⟩ (fun c44b => ?_) (fun c44b => ?_)
           · exact h9
           · exfalso; omega)
      · refine pt_iload eD_firstLack_64 rfl ?_
        refine pt_istore1 eD_firstLack_66 rfl ?_
        first
        | (have e1 : (pn uq br ms σ gd (i + 1 - σ 0).toNat (2 + g)) = rv := by omega
           refine pt_inc4 eD_firstLack_67 rfl ?_
           refine pt_goto eD_firstLack_70 ?_
           refine pt_lve [some (vr 1), some (vi (fl uq br ms σ gd g)), some (vi g), some (vi (pn uq br ms σ gd (i + 1 - σ 0).toNat (2 + g))), some (vi (i + 1))] (by rw [e1]) ?_
           refine ih (i + 1) (by omega) (by omega) (fun x hx0 hx1 => ?_)
           by_cases hxi : x = i
           · rw [hxi]; omega
           · exact hno x hx0 (by omega))
        | (have e2 := fl_less (n := g) hs.2.1 h0 hi0 (by omega) hno (by omega)
           have h9 := hx (some (vi rv)) (some (vi (i + 1)))
           rw [e2] at h9
           refine pt_inc4 eD_firstLack_67 rfl ?_
           refine pt_goto eD_firstLack_70 ?_
           refine pt_iload eD_firstLack_41 rfl ?_
           refine pt_iload eD_firstLack_43 rfl ?_
           refine pt_cge eD_firstLack_44 ⟨by omega, by omega⟩ ⟨by omega, by omega⟩ (fun c44b => ?_) (fun c44b => ?_)
           · exact h9
           · exfalso; omega)

theorem lD_fl2 (G : pd_G) (sz : Nat) (hp : pd_P) {to dr : Nat} {se ga gd ev bk : Int} {br ms us uq σ : Int → Int} (hD : hp 1 = DO to dr se ga) (hH : hp to = HO to gd ev bk) (hH5 : hp (to + 5) = ia 80 br) (hH6 : hp (to + 6) = ia 80 ms) (hH2 : hp (to + 2) = ia 4 us) (hg0 : 0 ≤ gd) (hg4 : gd ≤ 4) (hb : okB br) (hm : okB ms) (hu : okU gd uq) (hs : okS ms σ) (hs0 : 0 ≤ σ 0) (hug : ∀ g, 0 ≤ g → g < gd → us g = uq g) {kn : Int} (hL : hp 5 = LO 5 kn) (hN : hp (5 + 1) = SO (5 + 1) (σ 0) (σ 1)) (hNt : hp (5 + 1 + 1) = ia 4 (fun g => σ (2 + g))) {R : pd_R} (hx : ∀ l3 l4, pd_t G mD_firstLack 2 R 79 [some (vr 1), some (vi (fl uq br ms σ gd gd)), some (vi gd), l3, l4] [] sz hp) : ∀ (n : Nat) (i : Int) (l3 l4 : Option pv), 0 ≤ i → i + n = gd → pd_t G mD_firstLack 2 R 5 [some (vr 1), some (vi (fl uq br ms σ gd i)), some (vi i), l3, l4] [] sz hp := by
  intro n
  induction n with
  | zero =>
    intro i l3 l4 hi0 hiE
    have hiE2 : i = gd := by omega
    subst hiE2
    have hx2 := hx l3 l4
    refine pt_iload eD_firstLack_5 rfl ?_
    refine pt_aload eD_firstLack_6 rfl ?_
    refine pt_get eD_firstLack_7 hD rfl ?_
    refine pt_get eD_firstLack_10 hH rfl ?_
    refine pt_cge eD_firstLack_13 ⟨by omega, by omega⟩ ⟨by omega, by omega⟩ (fun c13 => ?_) (fun c13 => ?_)
    · exact hx2
    · exfalso; omega
  | succ n ih =>
    intro i l3 l4 hi0 hiE
    refine pt_iload eD_firstLack_5 rfl ?_
    refine pt_aload eD_firstLack_6 rfl ?_
    refine pt_get eD_firstLack_7 hD rfl ?_
    refine pt_get eD_firstLack_10 hH rfl ?_
    refine pt_cge eD_firstLack_13 ⟨by omega, by omega⟩ ⟨by omega, by omega⟩ (fun c13 => ?_) (fun c13 => ?_)
    · exfalso; omega
    · refine pt_aload eD_firstLack_16 rfl ?_
      refine pt_get eD_firstLack_17 hD rfl ?_
      refine pt_get eD_firstLack_20 hL rfl ?_
      refine pt_get eD_firstLack_23 hN rfl ?_
      refine pt_iload eD_firstLack_26 rfl ?_
      refine pt_iald eD_firstLack_27 hNt (by omega) (by omega) (by decide) ?_
      refine pt_istore3 eD_firstLack_28 rfl ?_
      refine pt_aload eD_firstLack_29 rfl ?_
      refine pt_get eD_firstLack_30 hD rfl ?_
      refine pt_get eD_firstLack_33 hL rfl ?_
      refine pt_get eD_firstLack_36 hN rfl ?_
      refine pt_istore4 eD_firstLack_39 rfl ?_
      have hfl := fl_r (us := uq) (br := br) (ms := ms) (gd := gd) (n := i) hs.2.1
      have z0 : (σ 0 - σ 0).toNat = 0 := by omega
      refine pt_lve [some (vr 1), some (vi (fl uq br ms σ gd i)), some (vi i), some (vi (pn uq br ms σ gd (σ 0 - σ 0).toNat (2 + i))), some (vi (σ 0))] (by rw [z0]; rfl) ?_
      refine lD_fl1 G sz hp hD hH hH5 hH6 hH2 hg0 hg4 hb hm hu hs hs0 hug hi0 (by omega) (fun l3 l4 => ?_) (fl uq br ms σ gd i - σ 0).toNat (σ 0) (Int.le_refl _) (by omega) (fun x h1 h2 => by omega)
      refine pt_inc2 eD_firstLack_73 rfl ?_
      refine pt_goto eD_firstLack_76 ?_
      exact ih (i + 1) l3 l4 (by omega) (by omega)
theorem cD_firstLack (G : pd_G) (sz : Nat) (hp : pd_P) {to dr : Nat} {se ga gd ev bk : Int} {br ms us uq σ : Int → Int} (hD : hp 1 = DO to dr se ga) (hH : hp to = HO to gd ev bk) (hH5 : hp (to + 5) = ia 80 br) (hH6 : hp (to + 6) = ia 80 ms) (hH2 : hp (to + 2) = ia 4 us) (hg0 : 0 ≤ gd) (hg4 : gd ≤ 4) (hb : okB br) (hm : okB ms) (hu : okU gd uq) (hs : okS ms σ) (hs0 : 0 ≤ σ 0) (hug : ∀ g, 0 ≤ g → g < gd → us g = uq g) {kn : Int} (hL : hp 5 = LO 5 kn) (hN : hp (5 + 1) = SO (5 + 1) (σ 0) (σ 1)) (hNt : hp (5 + 1 + 1) = ia 4 (fun g => σ (2 + g))) : pd_c G mD_firstLack 2 [vr 1] sz hp (pd_pure (vi (if fl uq br ms σ gd gd < 20 then fl uq br ms σ gd gd else -9)) sz hp) := by
  refine pd_con kD_firstLack [some (vr 1), none, none, none, none] rfl rfl (Nat.le_of_ble_eq_true rfl) ?_
  have hfl := fl_r (us := uq) (br := br) (ms := ms) (gd := gd) (n := gd) hs.2.1
  refine pt_ic eD_firstLack_0 ?_
  refine pt_istore1 eD_firstLack_2 rfl ?_
  refine pt_ic eD_firstLack_3 ?_
  refine pt_istore2 eD_firstLack_4 rfl ?_
  refine pt_lve [some (vr 1), some (vi (fl uq br ms σ gd 0)), some (vi 0), none, none] (by rw [fl_0 hs.2.1]) ?_
  refine lD_fl2 G sz hp hD hH hH5 hH6 hH2 hg0 hg4 hb hm hu hs hs0 hug hL hN hNt (fun l3 l4 => ?_) gd.toNat 0 none none (by omega) (by omega)
  refine pt_iload eD_firstLack_79 rfl ?_
  refine pt_ic eD_firstLack_80 ?_
  refine pt_cge eD_firstLack_82 ⟨by omega, by omega⟩ ⟨by omega, by omega⟩ (fun c82 => ?_) (fun c82 => ?_)
  · refine pt_ic eD_firstLack_89 ?_
    refine pt_iret eD_firstLack_91 (Nat.le_refl _) (Nat.le_refl _) ?_
    first
    | (rw [if_pos (by omega)]; exact ⟨rfl, rfl, rfl⟩)
    | (rw [if_neg (by omega)]; exact ⟨rfl, rfl, rfl⟩)
  · refine pt_iload eD_firstLack_85 rfl ?_
    refine pt_goto eD_firstLack_86 ?_
    refine pt_iret eD_firstLack_91 (Nat.le_refl _) (Nat.le_refl _) ?_
    first
    | (rw [if_pos (by omega)]; exact ⟨rfl, rfl, rfl⟩)
    | (rw [if_neg (by omega)]; exact ⟨rfl, rfl, rfl⟩)
theorem xD_now (G : pd_G) (sz : Nat) (hp : pd_P) {to dr : Nat} {q : Nat → Int → Int} {v : Nat → Int} (hC : CW hp to dr q v) (hI : IN q v) {w : Int} (j_w : jR w) : pd_c G mD_now 4 [vr 1, vi w] sz hp (cPost hp sz ((q, v, rNow q w))) := by
  refine pd_con kD_now [some (vr 1), some (vi w)] rfl rfl (Nat.le_of_ble_eq_true rfl) ?_
  obtain ⟨⟨ig0, ig4⟩, ⟨id0, id1, id2, id3⟩, iB, iM, iU, iF, iS, iP, iI, ⟨is0, is4, isx⟩, ⟨im0, im4, imx⟩, it0, it1⟩ := hI
  have k_w := j_w
  unfold jR at k_w
  have hC0 := hC
  obtain ⟨hto, hDo, hTx, hHs, hHd, hLf, hI0, hI1, hGo, hPl⟩ := hC
  have hDo2 := hDo
  obtain ⟨hD, ⟨imf, hIm, him0, him1⟩, hKp, hSg, hSt, hGd, hGt⟩ := hDo2
  have hHs2 := hHs
  obtain ⟨fi, us, we, wo, stt, hHo, hag, hstt⟩ := hHs2
  have hHo2 := hHo
  obtain ⟨hH, hH1, hH2, hH3, hH4, hH5, hH6, hH7⟩ := hHo2
  have hLf2 := hLf
  obtain ⟨Q, hLi, hQ⟩ := hLf2
  have hL := hLi.1
  obtain ⟨hN, hNt, hNl, hNk⟩ := hLi.2.1
  refine pt_iload eD_now_0 rfl ?_
  rcases (show w = 0 ∨ w = 1 ∨ w = 2 ∨ w = 3 ∨ w = 4 ∨ w = 5 ∨ (w < 0 ∨ 5 < w) by omega) with rfl | rfl | rfl | rfl | rfl | rfl | hsw
  · refine pt_tin (t := 40) (off := 39) eD_now_1 ⟨by decide, by decide⟩ (by decide) (by decide) rfl (by decide) ?_
    refine pt_aload eD_now_40 rfl ?_
    refine pt_get eD_now_41 hD rfl ?_
    refine pt_get eD_now_44 hL rfl ?_
    refine pt_get eD_now_47 hN rfl ?_
    refine pt_iret eD_now_50 (Nat.le_refl _) (Nat.le_refl _) ?_
    exact ⟨rfl, rfl, ⟨to, dr, hC0⟩, fr.rf⟩
  · refine pt_tin (t := 51) (off := 50) eD_now_1 ⟨by decide, by decide⟩ (by decide) (by decide) rfl (by decide) ?_
    refine pt_aload eD_now_51 rfl ?_
    refine pt_get eD_now_52 hD rfl ?_
    refine pt_get eD_now_55 hL rfl ?_
    refine pt_aload eD_now_58 rfl ?_
    refine pt_get eD_now_59 hD rfl ?_
    refine pt_kv1r eD_now_62 (cS_leads G sz _ hN hH id0 id1 id2 id3 iS.1 iS.2.1 iS.2.2.1) hN rfl (Nat.le_of_ble_eq_true rfl) (by decide) (Nat.le_refl _) (Nat.le_refl _) ?_
    refine pt_iret eD_now_65 (Nat.le_refl _) (Nat.le_refl _) ?_
    exact ⟨rfl, rfl, ⟨to, dr, hC0⟩, fr.rf⟩
  · refine pt_tin (t := 66) (off := 65) eD_now_1 ⟨by decide, by decide⟩ (by decide) (by decide) rfl (by decide) ?_
    refine pt_aload eD_now_66 rfl ?_
    refine pt_get eD_now_67 hD rfl ?_
    refine pt_get eD_now_70 hL rfl ?_
    have i1 := iS.2.2.1
    refine pt_get eD_now_73 hN rfl ?_
    refine pt_zeq eD_now_76 ⟨by omega, by omega⟩ (fun c76 => ?_) (fun c76 => ?_)
    · refine pt_ic eD_now_83 ?_
      refine pt_iret eD_now_84 (Nat.le_refl _) (Nat.le_refl _) ?_
      have e1 : rNow q 2 = q 17 1 := rfl
      rw [e1]
      first
      | (rw [show q 17 1 = 1 by omega]; exact ⟨rfl, rfl, ⟨to, dr, hC0⟩, fr.rf⟩)
      | (rw [show q 17 1 = 0 by omega]; exact ⟨rfl, rfl, ⟨to, dr, hC0⟩, fr.rf⟩)
    · refine pt_ic eD_now_79 ?_
      refine pt_goto eD_now_80 ?_
      refine pt_iret eD_now_84 (Nat.le_refl _) (Nat.le_refl _) ?_
      have e1 : rNow q 2 = q 17 1 := rfl
      rw [e1]
      first
      | (rw [show q 17 1 = 1 by omega]; exact ⟨rfl, rfl, ⟨to, dr, hC0⟩, fr.rf⟩)
      | (rw [show q 17 1 = 0 by omega]; exact ⟨rfl, rfl, ⟨to, dr, hC0⟩, fr.rf⟩)
  · refine pt_tin (t := 85) (off := 84) eD_now_1 ⟨by decide, by decide⟩ (by decide) (by decide) rfl (by decide) ?_
    refine pt_aload eD_now_85 rfl ?_
    refine pt_get eD_now_86 hD rfl ?_
    refine pt_get eD_now_89 hL rfl ?_
    refine pt_get eD_now_92 hN rfl ?_
    refine pt_ks1r eD_now_95 (cD_sum G sz _ hNl (by decide)) (Nat.le_of_ble_eq_true rfl) (by decide) (Nat.le_refl _) (Nat.le_refl _) ?_
    refine pt_iret eD_now_98 (Nat.le_refl _) (Nat.le_refl _) ?_
    exact ⟨rfl, rfl, ⟨to, dr, hC0⟩, fr.rf⟩
  · refine pt_tin (t := 99) (off := 98) eD_now_1 ⟨by decide, by decide⟩ (by decide) (by decide) rfl (by decide) ?_
    refine pt_aload eD_now_99 rfl ?_
    refine pt_get eD_now_100 hD rfl ?_
    refine pt_get eD_now_103 hL rfl ?_
    refine pt_get eD_now_106 hN rfl ?_
    refine pt_ks1r eD_now_109 (cD_sum G sz _ hNk (by decide)) (Nat.le_of_ble_eq_true rfl) (by decide) (Nat.le_refl _) (Nat.le_refl _) ?_
    refine pt_iret eD_now_112 (Nat.le_refl _) (Nat.le_refl _) ?_
    exact ⟨rfl, rfl, ⟨to, dr, hC0⟩, fr.rf⟩
  · refine pt_tin (t := 113) (off := 112) eD_now_1 ⟨by decide, by decide⟩ (by decide) (by decide) rfl (by decide) ?_
    refine pt_aload eD_now_113 rfl ?_
    refine pt_kv0r eD_now_114 (cD_firstLack G sz _ hD hH hH5 hH6 hH2 ig0 ig4 iB iM iU iS iS.1 (fun g h0 h1 => (hag g h0 h1).2.1) hL hN hNt) hD rfl (Nat.le_of_ble_eq_true rfl) (by decide) (Nat.le_refl _) (Nat.le_refl _) ?_
    refine pt_iret eD_now_117 (Nat.le_refl _) (Nat.le_refl _) ?_
    exact ⟨rfl, rfl, ⟨to, dr, hC0⟩, fr.rf⟩
  · refine pt_tout (t := 118) eD_now_1 ⟨by omega, by omega⟩ hsw (by decide) ?_
    refine pt_ic eD_now_118 ?_
    refine pt_iret eD_now_119 (Nat.le_refl _) (Nat.le_refl _) ?_
    rw [show rNow q w = -1 by unfold rNow; rw [if_neg (by omega), if_neg (by omega), if_neg (by omega), if_neg (by omega), if_neg (by omega), if_neg (by omega)]]
    exact ⟨rfl, rfl, ⟨to, dr, hC0⟩, fr.rf⟩
