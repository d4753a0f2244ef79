theorem lR_keep1 (G : pd_G) (sz : Nat) (hp : pd_P) {v : Nat → Int} {sf σ : Int → Int} {j : Int} (hj0 : 0 ≤ j) (hj1 : j ≤ 1) (hR : hp 178 = RO v) (h_now : hp 188 = ia 90 σ) {R : pd_R} (hx : ∀  (hp0 : pd_P), hp0 = (va_up hp (191) (ia 180 (blk sf σ (90 * j) (90)))) → pd_t G mR_keep 1 R 42 [some (vr 178), some (vi j), some (vi 90)] [] sz hp0) : ∀ (n : Nat) (i : Int)  (hp0 : pd_P), 0 ≤ i → i + n = 90 → hp0 = (va_up hp (191) (ia 180 (blk sf σ (90 * j) (i)))) → pd_t G mR_keep 1 R 13 [some (vr 178), some (vi j), some (vi i)] [] sz hp0 := by
  intro n
  induction n with
  | zero =>
    intro i  hp0 hi0 hiE he0
    have hiE2 : 90 = i := by omega
    subst hiE2
    have hx2 := hx  hp0 he0
    have hR := pg_n he0 (by omega) hR
    have h_now := pg_n he0 (by omega) h_now
    have h_store := pg_s he0
    refine pt_iload eR_keep_13 rfl ?_
    refine pt_ic eR_keep_14 ?_
    refine pt_cge eR_keep_16 ⟨by omega, by omega⟩ ⟨by omega, by omega⟩ (fun c16 => ?_) (fun c16 => ?_)
    · exact hx2
    · exfalso; omega
  | succ n ih =>
    intro i  hp0 hi0 hiE he0
    have hR := pg_n he0 (by omega) hR
    have h_now := pg_n he0 (by omega) h_now
    have h_store := pg_s he0
    refine pt_iload eR_keep_13 rfl ?_
    refine pt_ic eR_keep_14 ?_
    refine pt_cge eR_keep_16 ⟨by omega, by omega⟩ ⟨by omega, by omega⟩ (fun c16 => ?_) (fun c16 => ?_)
    · exfalso; omega
    · refine pt_aload eR_keep_19 rfl ?_
      refine pt_get eR_keep_20 hR rfl ?_
      refine pt_ic eR_keep_23 ?_
      refine pt_iload eR_keep_25 rfl ?_
      refine pt_imul eR_keep_26 ?_
      refine pt_iload eR_keep_27 rfl ?_
      refine pt_iadd eR_keep_28 ?_
      refine pt_aload eR_keep_29 rfl ?_
      refine pt_get eR_keep_30 hR rfl ?_
      refine pt_iload eR_keep_33 rfl ?_
      refine pt_iald eR_keep_34 h_now (by omega) (by omega) (by decide) ?_
      refine pt_iast eR_keep_35 h_store (by omega) (by omega) (by decide) ?_
      refine pt_gen ?_
      intro hp1 ev1
      have hR := pg_n ev1 (by omega) hR
      have h_now := pg_n ev1 (by omega) h_now
      have h_store := pg_s ev1
      refine pt_inc2 eR_keep_36 rfl ?_
      refine pt_goto eR_keep_39 ?_
      have hfin : hp1 = (va_up hp (191) (ia 180 (blk sf σ (90 * j) ((i + 1))))) := by
        rw [ev1, he0]
        rw [bx_uu, blk_s hi0]
      exact ih (i + 1)  _ (by omega) (by omega) hfin 
theorem lR_keep2 (G : pd_G) (sz : Nat) (hp : pd_P) {v : Nat → Int} {bf : Int → Int} {j : Int} (hj0 : 0 ≤ j) (hj1 : j ≤ 1) (hR : hp 178 = RO v) {R : pd_R} (hx : ∀  (hp0 : pd_P), hp0 = (va_up hp (190) (ia 2700 (blk bf bf (900 * (1 + j)) (900)))) → pd_t G mR_keep 1 R 77 [some (vr 178), some (vi j), some (vi 900)] [] sz hp0) : ∀ (n : Nat) (i : Int)  (hp0 : pd_P), 0 ≤ i → i + n = 900 → hp0 = (va_up hp (190) (ia 2700 (blk bf bf (900 * (1 + j)) (i)))) → pd_t G mR_keep 1 R 44 [some (vr 178), some (vi j), some (vi i)] [] sz hp0 := by
  intro n
  induction n with
  | zero =>
    intro i  hp0 hi0 hiE he0
    have hiE2 : 900 = i := by omega
    subst hiE2
    have hx2 := hx  hp0 he0
    have hR := pg_n he0 (by omega) hR
    have h_before := pg_s he0
    refine pt_iload eR_keep_44 rfl ?_
    refine pt_ic eR_keep_45 ?_
    refine pt_cge eR_keep_48 ⟨by omega, by omega⟩ ⟨by omega, by omega⟩ (fun c48 => ?_) (fun c48 => ?_)
    · exact hx2
    · exfalso; omega
  | succ n ih =>
    intro i  hp0 hi0 hiE he0
    have hR := pg_n he0 (by omega) hR
    have h_before := pg_s he0
    refine pt_iload eR_keep_44 rfl ?_
    refine pt_ic eR_keep_45 ?_
    refine pt_cge eR_keep_48 ⟨by omega, by omega⟩ ⟨by omega, by omega⟩ (fun c48 => ?_) (fun c48 => ?_)
    · exfalso; omega
    · refine pt_aload eR_keep_51 rfl ?_
      refine pt_get eR_keep_52 hR rfl ?_
      refine pt_ic eR_keep_55 ?_
      refine pt_ic eR_keep_58 ?_
      refine pt_iload eR_keep_59 rfl ?_
      refine pt_iadd eR_keep_60 ?_
      refine pt_imul eR_keep_61 ?_
      refine pt_iload eR_keep_62 rfl ?_
      refine pt_iadd eR_keep_63 ?_
      refine pt_aload eR_keep_64 rfl ?_
      refine pt_get eR_keep_65 hR rfl ?_
      refine pt_iload eR_keep_68 rfl ?_
      refine pt_iald eR_keep_69 h_before (by omega) (by omega) (by decide) ?_
      rw [blk_out (by omega)]
      refine pt_iast eR_keep_70 h_before (by omega) (by omega) (by decide) ?_
      refine pt_gen ?_
      intro hp1 ev1
      have hR := pg_n ev1 (by omega) hR
      have h_before := pg_s ev1
      refine pt_inc2 eR_keep_71 rfl ?_
      refine pt_goto eR_keep_74 ?_
      have hfin : hp1 = (va_up hp (190) (ia 2700 (blk bf bf (900 * (1 + j)) ((i + 1))))) := by
        rw [ev1, he0]
        rw [bx_uu, blk_s hi0]
      exact ih (i + 1)  _ (by omega) (by omega) hfin 
theorem lR_back1 (G : pd_G) (sz : Nat) (hp : pd_P) {v : Nat → Int} {sf σ : Int → Int} {j : Int} (hj0 : 0 ≤ j) (hj1 : j ≤ 1) (hR : hp 178 = RO v) (h_store : hp 191 = ia 180 sf) {R : pd_R} (hx : ∀  (hp0 : pd_P), hp0 = (va_up hp (188) (ia 90 (blk σ (fun x => sf (90 * j + x)) 0 (90)))) → pd_t G mR_back 1 R 54 [some (vr 178), some (vi j), some (vi 90)] [] sz hp0) : ∀ (n : Nat) (i : Int)  (hp0 : pd_P), 0 ≤ i → i + n = 90 → hp0 = (va_up hp (188) (ia 90 (blk σ (fun x => sf (90 * j + x)) 0 (i)))) → pd_t G mR_back 1 R 25 [some (vr 178), some (vi j), some (vi i)] [] sz hp0 := by
  intro n
  induction n with
  | zero =>
    intro i  hp0 hi0 hiE he0
    have hiE2 : 90 = i := by omega
    subst hiE2
    have hx2 := hx  hp0 he0
    have hR := pg_n he0 (by omega) hR
    have h_now := pg_s he0
    have h_store := pg_n he0 (by omega) h_store
    refine pt_iload eR_back_25 rfl ?_
    refine pt_ic eR_back_26 ?_
    refine pt_cge eR_back_28 ⟨by omega, by omega⟩ ⟨by omega, by omega⟩ (fun c28 => ?_) (fun c28 => ?_)
    · exact hx2
    · exfalso; omega
  | succ n ih =>
    intro i  hp0 hi0 hiE he0
    have hR := pg_n he0 (by omega) hR
    have h_now := pg_s he0
    have h_store := pg_n he0 (by omega) h_store
    refine pt_iload eR_back_25 rfl ?_
    refine pt_ic eR_back_26 ?_
    refine pt_cge eR_back_28 ⟨by omega, by omega⟩ ⟨by omega, by omega⟩ (fun c28 => ?_) (fun c28 => ?_)
    · exfalso; omega
    · refine pt_aload eR_back_31 rfl ?_
      refine pt_get eR_back_32 hR rfl ?_
      refine pt_iload eR_back_35 rfl ?_
      refine pt_aload eR_back_36 rfl ?_
      refine pt_get eR_back_37 hR rfl ?_
      refine pt_ic eR_back_40 ?_
      refine pt_iload eR_back_42 rfl ?_
      refine pt_imul eR_back_43 ?_
      refine pt_iload eR_back_44 rfl ?_
      refine pt_iadd eR_back_45 ?_
      refine pt_iald eR_back_46 h_store (by omega) (by omega) (by decide) ?_
      refine pt_iast eR_back_47 h_now (by omega) (by omega) (by decide) ?_
      refine pt_gen ?_
      intro hp1 ev1
      have hR := pg_n ev1 (by omega) hR
      have h_now := pg_s ev1
      have h_store := pg_n ev1 (by omega) h_store
      refine pt_inc2 eR_back_48 rfl ?_
      refine pt_goto eR_back_51 ?_
      have hfin : hp1 = (va_up hp (188) (ia 90 (blk σ (fun x => sf (90 * j + x)) 0 ((i + 1))))) := by
        rw [ev1, he0]
        have k2 := blk_s (f := σ) (g := fun x => sf (90 * j + x)) (a := 0) (n := i) hi0
        rw [Int.zero_add] at k2
        rw [bx_uu, ← k2]
      exact ih (i + 1)  _ (by omega) (by omega) hfin 
theorem lR_back2 (G : pd_G) (sz : Nat) (hp : pd_P) {v : Nat → Int} {bf : Int → Int} {j : Int} (hj0 : 0 ≤ j) (hj1 : j ≤ 1) (hR : hp 178 = RO v) {R : pd_R} (hx : ∀  (hp0 : pd_P), hp0 = (va_up hp (190) (ia 2700 (blk bf (fun x => bf (900 * (1 + j) + x)) 0 (900)))) → pd_t G mR_back 1 R 89 [some (vr 178), some (vi j), some (vi 900)] [] sz hp0) : ∀ (n : Nat) (i : Int)  (hp0 : pd_P), 0 ≤ i → i + n = 900 → hp0 = (va_up hp (190) (ia 2700 (blk bf (fun x => bf (900 * (1 + j) + x)) 0 (i)))) → pd_t G mR_back 1 R 56 [some (vr 178), some (vi j), some (vi i)] [] sz hp0 := by
  intro n
  induction n with
  | zero =>
    intro i  hp0 hi0 hiE he0
    have hiE2 : 900 = i := by omega
    subst hiE2
    have hx2 := hx  hp0 he0
    have hR := pg_n he0 (by omega) hR
    have h_before := pg_s he0
    refine pt_iload eR_back_56 rfl ?_
    refine pt_ic eR_back_57 ?_
    refine pt_cge eR_back_60 ⟨by omega, by omega⟩ ⟨by omega, by omega⟩ (fun c60 => ?_) (fun c60 => ?_)
    · exact hx2
    · exfalso; omega
  | succ n ih =>
    intro i  hp0 hi0 hiE he0
    have hR := pg_n he0 (by omega) hR
    have h_before := pg_s he0
    refine pt_iload eR_back_56 rfl ?_
    refine pt_ic eR_back_57 ?_
    refine pt_cge eR_back_60 ⟨by omega, by omega⟩ ⟨by omega, by omega⟩ (fun c60 => ?_) (fun c60 => ?_)
    · exfalso; omega
    · refine pt_aload eR_back_63 rfl ?_
      refine pt_get eR_back_64 hR rfl ?_
      refine pt_iload eR_back_67 rfl ?_
      refine pt_aload eR_back_68 rfl ?_
      refine pt_get eR_back_69 hR rfl ?_
      refine pt_ic eR_back_72 ?_
      refine pt_ic eR_back_75 ?_
      refine pt_iload eR_back_76 rfl ?_
      refine pt_iadd eR_back_77 ?_
      refine pt_imul eR_back_78 ?_
      refine pt_iload eR_back_79 rfl ?_
      refine pt_iadd eR_back_80 ?_
      refine pt_iald eR_back_81 h_before (by omega) (by omega) (by decide) ?_
      rw [blk_out (by omega)]
      refine pt_iast eR_back_82 h_before (by omega) (by omega) (by decide) ?_
      refine pt_gen ?_
      intro hp1 ev1
      have hR := pg_n ev1 (by omega) hR
      have h_before := pg_s ev1
      refine pt_inc2 eR_back_83 rfl ?_
      refine pt_goto eR_back_86 ?_
      have hfin : hp1 = (va_up hp (190) (ia 2700 (blk bf (fun x => bf (900 * (1 + j) + x)) 0 ((i + 1))))) := by
        rw [ev1, he0]
        have k2 := blk_s (f := bf) (g := fun x => bf (900 * (1 + j) + x)) (a := 0) (n := i) hi0
        rw [Int.zero_add] at k2
        rw [bx_uu, ← k2]
      exact ih (i + 1)  _ (by omega) (by omega) hfin 
theorem xR_keep (G : pd_G) (sz : Nat) (hp : pd_P) {q : Nat → Int → Int} {v : Nat → Int} (hM : MW hp q v) (hI : IN q v) {j : Int} (j_j : jR j) : pd_c G mR_keep 1 [vr 178, vi j] sz hp (mPost hp sz (fKeep q v j)) := by
  refine pd_con kR_keep [some (vr 178), some (vi j), none] rfl rfl (Nat.le_of_ble_eq_true rfl) ?_
  obtain ⟨⟨ig0, ig4⟩, ⟨id0, id1, id2, id3⟩, iB, iM, iU, iF, iS, iP, iI, ⟨is0, is4, isx⟩, ⟨im0, im4, imx⟩, it0, it1⟩ := hI
  have k_j := j_j
  unfold jR at k_j
  have hR := hM.1
  have h_now := hM.w_now
  have h_store := hM.w_store
  have h_before := hM.w_before
  have h_known := hM.w_known
  have h_isKept := hM.w_isKept
  refine pt_iload eR_keep_0 rfl ?_
  refine pt_ic eR_keep_1 ?_
  refine pt_ic eR_keep_2 ?_
  refine pt_ks3r eR_keep_3 (cR_in G sz _ (by unfold jR at *; omega) (by unfold jR at *; omega) (by unfold jR at *; omega)) (Nat.le_of_ble_eq_true rfl) (by decide) (Nat.le_refl _) (Nat.le_refl _) ?_
  refine pt_zne eR_keep_6 (pwi_j _ _ _) (fun c6 => ?_) (fun c6 => ?_)
  · have c6 := pwi_1 c6
    refine pt_ic eR_keep_11 ?_
    refine pt_istore2 eR_keep_12 rfl ?_
    refine lR_keep1 G sz hp (sf := q 20) c6.1 c6.2 hR h_now (fun hp5 he5 => ?_) 90 0 hp (by omega) (by omega) (by rw [blk_0]; exact pu_self h_store)
    have hM5 := hM.s_store (blk (q 20) (q 17) (90 * j) 90)
    rw [← he5] at hM5
    have h_before : hp5 190 = ia 2700 (q 19) := hM5.w_before
    refine pt_ic eR_keep_42 ?_
    refine pt_istore2 eR_keep_43 rfl ?_
    refine lR_keep2 G sz hp5 (bf := q 19) c6.1 c6.2 hM5.1 (fun hp6 he6 => ?_) 900 0 hp5 (by omega) (by omega) (by rw [blk_0]; exact pu_self h_before)
    have hM6 := hM5.s_before (blk (q 19) (q 19) (900 * (1 + j)) 900)
    rw [← he6] at hM6
    have hR := hM6.1
    have h_known : hp6 189 = ia 3 (q 18) := hM6.w_known
    have h_isKept : hp6 192 = za 2 (q 21) := hM6.w_isKept
    have h_now : hp6 188 = ia 90 (q 17) := hM6.w_now
    refine pt_aload eR_keep_77 rfl ?_
    refine pt_get eR_keep_78 hR rfl ?_
    refine pt_ic eR_keep_81 ?_
    refine pt_iload eR_keep_82 rfl ?_
    refine pt_iadd eR_keep_83 ?_
    refine pt_aload eR_keep_84 rfl ?_
    refine pt_get eR_keep_85 hR rfl ?_
    refine pt_ic eR_keep_88 ?_
    refine pt_iald eR_keep_89 h_known (by omega) (by omega) (by decide) ?_
    refine pt_iast eR_keep_90 h_known (by omega) (by omega) (by decide) ?_
    refine pt_gen ?_
    intro hp1 ev1
    have hR := pg_n ev1 (by omega) hR
    have h_known := pg_s ev1
    have h_isKept := pg_n ev1 (by omega) h_isKept
    have h_now := pg_n ev1 (by omega) h_now
    refine pt_aload eR_keep_91 rfl ?_
    refine pt_get eR_keep_92 hR rfl ?_
    refine pt_iload eR_keep_95 rfl ?_
    refine pt_ic eR_keep_96 ?_
    refine pt_zast eR_keep_97 h_isKept (by omega) (by omega) (by decide) (Or.inr rfl) ?_
    refine pt_gen ?_
    intro hp2 ev2
    have hR := pg_n ev2 (by omega) hR
    have h_known := pg_n ev2 (by omega) h_known
    have h_isKept := pg_s ev2
    have h_now := pg_n ev2 (by omega) h_now
    refine pt_aload eR_keep_98 rfl ?_
    refine pt_get eR_keep_99 hR rfl ?_
    refine pt_ic eR_keep_102 ?_
    refine pt_iald eR_keep_103 h_now (by omega) (by omega) (by decide) ?_
    refine pt_iret eR_keep_104 (Nat.le_refl _) (Nat.le_refl _) ?_
    rw [show fKeep q v j = _ by unfold fKeep; rw [if_neg (fun z => z c6)]]
    refine ⟨rfl, rfl, ?_, (((fr.rf.up he5 (by decide) (by decide)).up he6 (by decide) (by decide)).up ev1 (by decide) (by decide)).up ev2 (by decide) (by decide)⟩
    rw [ev2, ev1]
    exact (hM6.s_known (uI (q 18) (1 + j) (q 18 0))).s_isKept (uI (q 21) j 1)
  · refine pt_ic eR_keep_9 ?_
    refine pt_iret eR_keep_10 (Nat.le_refl _) (Nat.le_refl _) ?_
    have c6 := pwi_0 c6
    rw [show fKeep q v j = (q, v, -1) by unfold fKeep; rw [if_pos c6]]
    exact ⟨rfl, rfl, hM, fr.rf⟩
theorem xR_back (G : pd_G) (sz : Nat) (hp : pd_P) {q : Nat → Int → Int} {v : Nat → Int} (hM : MW hp q v) (hI : IN q v) {j : Int} (j_j : jR j) : pd_c G mR_back 1 [vr 178, vi j] sz hp (mPost hp sz (fBack q v j)) := by
  refine pd_con kR_back [some (vr 178), some (vi j), none] rfl rfl (Nat.le_of_ble_eq_true rfl) ?_
  obtain ⟨⟨ig0, ig4⟩, ⟨id0, id1, id2, id3⟩, iB, iM, iU, iF, iS, iP, iI, ⟨is0, is4, isx⟩, ⟨im0, im4, imx⟩, it0, it1⟩ := hI
  have k_j := j_j
  unfold jR at k_j
  have hR := hM.1
  have h_now := hM.w_now
  have h_store := hM.w_store
  have h_before := hM.w_before
  have h_known := hM.w_known
  have h_isKept := hM.w_isKept
  refine pt_iload eR_back_0 rfl ?_
  refine pt_ic eR_back_1 ?_
  refine pt_ic eR_back_2 ?_
  refine pt_ks3r eR_back_3 (cR_in G sz _ (by unfold jR at *; omega) (by unfold jR at *; omega) (by unfold jR at *; omega)) (Nat.le_of_ble_eq_true rfl) (by decide) (Nat.le_refl _) (Nat.le_refl _) ?_
  refine pt_zne eR_back_6 (pwi_j _ _ _) (fun c6 => ?_) (fun c6 => ?_)
  · have c6 := pwi_1 c6
    refine pt_aload eR_back_11 rfl ?_
    refine pt_get eR_back_12 hR rfl ?_
    refine pt_iload eR_back_15 rfl ?_
    refine pt_zald eR_back_16 h_isKept (by omega) (by omega) (by decide) ?_
    refine pt_zne eR_back_17 ⟨by have := (iI j c6.1 (by omega)).1; omega, by have := (iI j c6.1 (by omega)).1; omega⟩ (fun c17 => ?_) (fun c17 => ?_)
    · refine pt_ic eR_back_23 ?_
      refine pt_istore2 eR_back_24 rfl ?_
      refine lR_back1 G sz hp (σ := q 17) (sf := q 20) c6.1 c6.2 hR h_store (fun hp5 he5 => ?_) 90 0 hp (by omega) (by omega) (by rw [blk_0]; exact pu_self h_now)
      refine pt_ext (pg_s he5) (g := fun x => q 20 (90 * j + x)) (fun i h1 h2 => by rw [blk_in (by omega) (by omega), Int.sub_zero]) ?_
      rw [he5, bx_uu]
      have hM5 := hM.s_now (fun x => q 20 (90 * j + x))
      refine pt_gen ?_
      intro hp7 ev7
      rw [← ev7] at hM5
      have h_before : hp7 190 = ia 2700 (q 19) := hM5.w_before
      refine pt_ic eR_back_54 ?_
      refine pt_istore2 eR_back_55 rfl ?_
      refine lR_back2 G sz hp7 (bf := q 19) c6.1 c6.2 hM5.1 (fun hp6 he6 => ?_) 900 0 hp7 (by omega) (by omega) (by rw [blk_0]; exact pu_self h_before)
      have hM6 := hM5.s_before (blk (q 19) (fun x => q 19 (900 * (1 + j) + x)) 0 900)
      rw [← he6] at hM6
      have hR := hM6.1
      have h_known : hp6 189 = ia 3 (q 18) := hM6.w_known
      have h_now : hp6 188 = ia 90 (fun x => q 20 (90 * j + x)) := hM6.w_now
      refine pt_aload eR_back_89 rfl ?_
      refine pt_get eR_back_90 hR rfl ?_
      refine pt_ic eR_back_93 ?_
      refine pt_aload eR_back_94 rfl ?_
      refine pt_get eR_back_95 hR rfl ?_
      refine pt_ic eR_back_98 ?_
      refine pt_iload eR_back_99 rfl ?_
      refine pt_iadd eR_back_100 ?_
      refine pt_iald eR_back_101 h_known (by omega) (by omega) (by decide) ?_
      refine pt_iast eR_back_102 h_known (by omega) (by omega) (by decide) ?_
      refine pt_gen ?_
      intro hp1 ev1
      have hR := pg_n ev1 (by omega) hR
      have h_known := pg_s ev1
      have h_now := pg_n ev1 (by omega) h_now
      refine pt_aload eR_back_103 rfl ?_
      refine pt_get eR_back_104 hR rfl ?_
      refine pt_ic eR_back_107 ?_
      refine pt_iald eR_back_108 h_now (by omega) (by omega) (by decide) ?_
      refine pt_iret eR_back_109 (Nat.le_refl _) (Nat.le_refl _) ?_
      rw [show fBack q v j = _ by unfold fBack; rw [if_neg (fun z => z c6), if_neg c17]]
      refine ⟨rfl, rfl, ?_, ((fr.rf.up ev7 (by decide) (by decide)).up he6 (by decide) (by decide)).up ev1 (by decide) (by decide)⟩
      rw [ev1]
      exact hM6.s_known (uI (q 18) 0 (q 18 (1 + j)))
    · refine pt_ic eR_back_20 ?_
      refine pt_iret eR_back_22 (Nat.le_refl _) (Nat.le_refl _) ?_
      rw [show fBack q v j = (q, v, -2) by unfold fBack; rw [if_neg (fun z => z c6), if_pos c17]]
      exact ⟨rfl, rfl, hM, fr.rf⟩
  · refine pt_ic eR_back_9 ?_
    refine pt_iret eR_back_10 (Nat.le_refl _) (Nat.le_refl _) ?_
    have c6 := pwi_0 c6
    rw [show fBack q v j = (q, v, -1) by unfold fBack; rw [if_pos c6]]
    exact ⟨rfl, rfl, hM, fr.rf⟩
theorem qh1 {q : Nat → Int → Int} {Q : Int → Int → Int} (hQ : ∀ i x, 0 ≤ i → i < q 18 0 → 0 ≤ x → x < 90 → Q i x = q 19 (90 * i + x)) (iP : okP (q 9) (q 19) (q 18 0) 0) (j : Int) (h0 : 0 ≤ j) (h1 : j < q 18 0) : Q j 1 = 0 ∨ Q j 1 = 1 := by
  have h3 := (iP.2.2 j h0 h1).2.2.1
  rw [Int.zero_add] at h3
  rw [hQ j 1 h0 h1 (by decide) (by decide)]
  exact h3
theorem xD_keep (G : pd_G) (sz : Nat) (hp : pd_P) {to dr : Nat} {q : Nat → Int → Int} {v : Nat → Int} (hC : CW hp to dr q v) (hI : IN q v) {j : Int} (j_j : jR j) : pd_c G mD_keep 3 [vr 1, vi j] sz hp (cPost hp sz (fKeep q v j)) := by
  refine pd_con kD_keep [some (vr 1), some (vi j)] rfl rfl (Nat.le_of_ble_eq_true rfl) ?_
  obtain ⟨⟨ig0, ig4⟩, ⟨id0, id1, id2, id3⟩, iB, iM, iU, iF, iS, iP, iI, ⟨is0, is4, isx⟩, ⟨im0, im4, imx⟩, it0, it1⟩ := hI
  have k_j := j_j
  unfold jR at k_j
  have hC0 := hC
  obtain ⟨hto, hDo, hTx, hHs, hHd, hLf, hI0, hI1, hGo, hPl⟩ := hC
  have hDo2 := hDo
  obtain ⟨hD, ⟨imf, hIm, him0, him1⟩, hKp, hSg, hSt, hGd, hGt⟩ := hDo2
  have hLf2 := hLf
  obtain ⟨Q, hLi, hQ⟩ := hLf2
  have hL := hLi.1
  obtain ⟨hN, hNt, hNl, hNk⟩ := hLi.2.1
  refine pt_iload eD_keep_0 rfl ?_
  refine pt_ic eD_keep_1 ?_
  refine pt_ic eD_keep_2 ?_
  refine pt_ks3r eD_keep_3 (cD_within G sz _ (by unfold jR at *; omega) (by unfold jR at *; omega) (by unfold jR at *; omega)) (Nat.le_of_ble_eq_true rfl) (by decide) (Nat.le_refl _) (Nat.le_refl _) ?_
  refine pt_zne eD_keep_6 (pwi_j _ _ _) (fun c6 => ?_) (fun c6 => ?_)
  · have c6 := pwi_1 c6
    obtain ⟨aj, him, haj, hIj⟩ : ∃ aj, imf j = some aj ∧ ((aj = 86 ∧ j = 0) ∨ (aj = 132 ∧ j = 1)) ∧ ImA hp q aj j := by
      rcases (show j = 0 ∨ j = 1 by omega) with hj9 | hj9
      · subst hj9; exact ⟨86, him0, Or.inl ⟨rfl, rfl⟩, hI0⟩
      · subst hj9; exact ⟨132, him1, Or.inr ⟨rfl, rfl⟩, hI1⟩
    obtain ⟨ρj, kj, Qj, hLj, hrel⟩ := hIj
    have hJ := hLj.1
    refine pt_aload eD_keep_11 rfl ?_
    refine pt_get eD_keep_12 hD rfl ?_
    refine pt_iload eD_keep_15 rfl ?_
    refine pt_aald eD_keep_16 hIm rfl (by omega) (by omega) (by decide) him ?_
    refine pt_aload eD_keep_17 rfl ?_
    refine pt_get eD_keep_18 hD rfl ?_
    refine pt_kv1 eD_keep_21 (cL_copy G sz _ (by omega) hLj hLi iP.1 iP.2.1 iS.2.2.1 (qh1 hQ iP)) hJ rfl (Nat.le_of_ble_eq_true rfl) (by decide) (Nat.le_refl _) (Nat.le_refl _) ?_
    rintro v2 sz2 hpx ⟨rfl, hz9, hA2, hf2⟩
    obtain rfl := hz9.symm
    have hD := hf2.at (by omega) hD
    have hKp := hf2.at (by omega) hKp
    have hIm := hf2.at (by omega) hIm
    have hLi2 := hLi.fr hf2 (by omega)
    have hL := hLi2.1
    obtain ⟨hN, -⟩ := hLi2.2.1
    have hJ := hA2.1
    refine pt_aload eD_keep_24 rfl ?_
    refine pt_get eD_keep_25 hD rfl ?_
    refine pt_iload eD_keep_28 rfl ?_
    refine pt_ic eD_keep_29 ?_
    refine pt_zast eD_keep_30 hKp (by omega) (by omega) (by decide) (Or.inr rfl) ?_
    refine pt_gen ?_
    intro hp2 ev2
    have hD := pg_n ev2 (by omega) hD
    have hIm := pg_n ev2 (by omega) hIm
    have hKp := pg_s ev2
    have hL := pg_n ev2 (by omega) hL
    have hN := pg_n ev2 (by omega) hN
    have hJ := pg_n ev2 (by omega) hJ
    refine pt_aload eD_keep_31 rfl ?_
    refine pt_get eD_keep_32 hD rfl ?_
    refine pt_get eD_keep_35 hL rfl ?_
    refine pt_get eD_keep_38 hN rfl ?_
    refine pt_iret eD_keep_41 (Nat.le_refl _) (Nat.le_refl _) ?_
    rw [show fKeep q v j = _ by unfold fKeep; rw [if_neg (fun z => z c6)]]
    have hfb : fr hpx hp2 52 53 := fr.rf.up ev2 (by decide) (by decide)
    refine ⟨rfl, rfl, ⟨to, dr, hto, ⟨hD, ⟨imf, hIm, him0, him1⟩, hKp, hfb.at (by decide) (hf2.at (by omega) hSg), hfb.at (by decide) (hf2.at (by omega) hSt), hfb.at (by decide) (hf2.at (by omega) hGd), hfb.at (by decide) (hf2.at (by omega) hGt)⟩, (hTx.keep hf2 (by omega)).keep hfb (by omega), (hHs.keep hf2 (by omega)).keep hfb (by omega), (hHd.keep hf2 (by omega)).keep hfb (by omega), ?_, ?_, ?_, (hGo.keep hf2 (by omega)).keep hfb (by omega), (hPl.keep hf2 (by omega)).keep hfb (by omega)⟩, fun k hk => (hfb k (by omega)).trans (hf2 k (by omega))⟩
    · refine ⟨Q, ?_, fun i x hi0 hi1 hx0 hx1 => ?_⟩
      · show LiA hp2 5 (q 17) (uI (q 18) (1 + j) (q 18 0) 0) Q
        rw [uI_n _ _ (by omega)]
        exact hLi2.fr hfb (by omega)
      · have hi2 : i < uI (q 18) (1 + j) (q 18 0) 0 := hi1
        rw [uI_n _ _ (by omega)] at hi2
        have h10 := iP.2.1
        show Q i x = blk (q 19) (q 19) (900 * (1 + j)) 900 (90 * i + x)
        rw [blk_out (by omega)]
        exact hQ i x hi0 hi2 hx0 hx1
    all_goals
      have h10 := iP.2.1
      have key : ∀ (aj' : Nat) (j' : Int), ImA hp q aj' j' → ((aj' = 86 ∧ j' = 0) ∨ (aj' = 132 ∧ j' = 1)) → ImA hp2 (va_up (va_up (va_up (va_up q 20 (blk (q 20) (q 17) (90 * j) 90)) 19 (blk (q 19) (q 19) (900 * (1 + j)) 900)) 18 (uI (q 18) (1 + j) (q 18 0))) 21 (uI (q 21) j 1)) aj' j' := by
        intro aj' j' hI' hj'
        by_cases hjj : j' = j
        · have haa : aj' = aj := by omega
          subst hjj
          subst haa
          refine ⟨_, _, _, hA2.fr hfb (by omega), fun _ => ⟨(uI_s _ _ _).symm, fun x hx0 hx1 => ?_, fun i x hi0 hi1 hx0 hx1 => ?_⟩⟩
          · show q 17 x = blk (q 20) (q 17) (90 * j') 90 (90 * j' + x)
            rw [blk_in (by omega) (by omega)]
            congr 1
            omega
          · show _ = blk (q 19) (q 19) (900 * (1 + j')) 900 (900 * (1 + j') + 90 * i + x)
            try dsimp only
            rw [if_pos ⟨hi0, hi1⟩, blk_in (by omega) (by omega), hQ i x hi0 hi1 hx0 hx1]
            congr 1
            omega
        · obtain ⟨ρ', k', Q', h1', h2'⟩ := (hI'.keep hf2 (by omega)).keep hfb (by omega)
          refine ⟨ρ', k', Q', h1', fun hk' => ?_⟩
          have hk2 : uI (q 21) j 1 j' = 1 := hk'
          rw [uI_n _ _ hjj] at hk2
          obtain ⟨h3, h4, h5⟩ := h2' hk2
          have hk3 := ((iI j' (by omega) (by omega)).2 hk2).2.2.1
          refine ⟨?_, fun x hx0 hx1 => ?_, fun i x hi0 hi1 hx0 hx1 => ?_⟩
          · show k' = uI (q 18) (1 + j) (q 18 0) (1 + j')
            rw [uI_n _ _ (by omega)]
            exact h3
          · show ρ' x = blk (q 20) (q 17) (90 * j) 90 (90 * j' + x)
            rw [blk_out (by omega)]
            exact h4 x hx0 hx1
          · show Q' i x = blk (q 19) (q 19) (900 * (1 + j)) 900 (900 * (1 + j') + 90 * i + x)
            rw [blk_out (by omega)]
            exact h5 i x hi0 hi1 hx0 hx1
    · exact key 86 0 hI0 (Or.inl ⟨rfl, rfl⟩)
    · exact key 132 1 hI1 (Or.inr ⟨rfl, rfl⟩)
  · refine pt_ic eD_keep_9 ?_
    refine pt_iret eD_keep_10 (Nat.le_refl _) (Nat.le_refl _) ?_
    have c6 := pwi_0 c6
    rw [show fKeep q v j = (q, v, -1) by unfold fKeep; rw [if_pos c6]]
    exact ⟨rfl, rfl, ⟨to, dr, hC0⟩, fr.rf⟩
theorem xD_back (G : pd_G) (sz : Nat) (hp : pd_P) {to dr : Nat} {q : Nat → Int → Int} {v : Nat → Int} (hC : CW hp to dr q v) (hI : IN q v) {j : Int} (j_j : jR j) : pd_c G mD_back 3 [vr 1, vi j] sz hp (cPost hp sz (fBack q v j)) := by
  refine pd_con kD_back [some (vr 1), some (vi j)] rfl rfl (Nat.le_of_ble_eq_true rfl) ?_
  obtain ⟨⟨ig0, ig4⟩, ⟨id0, id1, id2, id3⟩, iB, iM, iU, iF, iS, iP, iI, ⟨is0, is4, isx⟩, ⟨im0, im4, imx⟩, it0, it1⟩ := hI
  have k_j := j_j
  unfold jR at k_j
  have hC0 := hC
  obtain ⟨hto, hDo, hTx, hHs, hHd, hLf, hI0, hI1, hGo, hPl⟩ := hC
  have hDo2 := hDo
  obtain ⟨hD, ⟨imf, hIm, him0, him1⟩, hKp, hSg, hSt, hGd, hGt⟩ := hDo2
  have hLf2 := hLf
  obtain ⟨Q, hLi, hQ⟩ := hLf2
  have hL := hLi.1
  obtain ⟨hN, hNt, hNl, hNk⟩ := hLi.2.1
  refine pt_iload eD_back_0 rfl ?_
  refine pt_ic eD_back_1 ?_
  refine pt_ic eD_back_2 ?_
  refine pt_ks3r eD_back_3 (cD_within G sz _ (by unfold jR at *; omega) (by unfold jR at *; omega) (by unfold jR at *; omega)) (Nat.le_of_ble_eq_true rfl) (by decide) (Nat.le_refl _) (Nat.le_refl _) ?_
  refine pt_zne eD_back_6 (pwi_j _ _ _) (fun c6 => ?_) (fun c6 => ?_)
  · have c6 := pwi_1 c6
    obtain ⟨aj, him, haj, hIj⟩ : ∃ aj, imf j = some aj ∧ ((aj = 86 ∧ j = 0) ∨ (aj = 132 ∧ j = 1)) ∧ ImA hp q aj j := by
      rcases (show j = 0 ∨ j = 1 by omega) with hj9 | hj9
      · subst hj9; exact ⟨86, him0, Or.inl ⟨rfl, rfl⟩, hI0⟩
      · subst hj9; exact ⟨132, him1, Or.inr ⟨rfl, rfl⟩, hI1⟩
    obtain ⟨ρj, kj, Qj, hLj, hrel⟩ := hIj
    have hJ := hLj.1
    refine pt_aload eD_back_11 rfl ?_
    refine pt_get eD_back_12 hD rfl ?_
    refine pt_iload eD_back_15 rfl ?_
    refine pt_zald eD_back_16 hKp (by omega) (by omega) (by decide) ?_
    refine pt_zne eD_back_17 ⟨by have := (iI j c6.1 (by omega)).1; omega, by have := (iI j c6.1 (by omega)).1; omega⟩ (fun c17 => ?_) (fun c17 => ?_)
    · have hk1 : q 21 j = 1 := by have := (iI j c6.1 (by omega)).1; omega
      obtain ⟨hr1, hr2, hr3⟩ := hrel hk1
      obtain ⟨hS9, hP9⟩ := (iI j c6.1 (by omega)).2 hk1
      have hp90 := hP9.1
      have hp91 := hP9.2.1
      have hQ1 : ∀ i, 0 ≤ i → i < kj → Qj i 1 = 0 ∨ Qj i 1 = 1 := by
        intro i h0 h1
        have h3 := (hP9.2.2 i h0 (by omega)).2.2.1
        rw [hr3 i 1 h0 h1 (by decide) (by decide)]
        exact h3
      refine pt_aload eD_back_23 rfl ?_
      refine pt_get eD_back_24 hD rfl ?_
      refine pt_aload eD_back_27 rfl ?_
      refine pt_get eD_back_28 hD rfl ?_
      refine pt_iload eD_back_31 rfl ?_
      refine pt_aald eD_back_32 hIm rfl (by omega) (by omega) (by decide) him ?_
      refine pt_kv1 eD_back_33 (cL_copy G sz _ (by omega) hLi hLj (by omega) (by omega) (by rw [hr2 1 (by decide) (by decide)]; exact hS9.2.2.1) hQ1) hL rfl (Nat.le_of_ble_eq_true rfl) (by decide) (Nat.le_refl _) (Nat.le_refl _) ?_
      rintro v2 sz2 hpx ⟨rfl, hz9, hA2, hf2⟩
      obtain rfl := hz9.symm
      have hD := hf2.at (by omega) hD
      obtain ⟨hN, hNt, hNl, hNk⟩ := hA2.2.1
      refine pt_ext hNt (g := fun x => (fun x => q 20 (90 * j + x)) (2 + x)) (fun i hi0 hi1 => ?_) ?_
      · exact (hr2 (2 + i) (by omega) (by omega))
      refine pt_gen ?_
      intro hp31 ev31
      have hN := pg_n ev31 (by omega) hN
      have hNt := pg_s ev31
      have hNl := pg_n ev31 (by omega) hNl
      have hNk := pg_n ev31 (by omega) hNk
      refine pt_ext hNl (g := fun x => (fun x => q 20 (90 * j + x)) (6 + x)) (fun i hi0 hi1 => ?_) ?_
      · exact (hr2 (6 + i) (by omega) (by omega))
      refine pt_gen ?_
      intro hp32 ev32
      have hN := pg_n ev32 (by omega) hN
      have hNt := pg_n ev32 (by omega) hNt
      have hNl := pg_s ev32
      have hNk := pg_n ev32 (by omega) hNk
      refine pt_ext hNk (g := fun x => (fun x => q 20 (90 * j + x)) (10 + x)) (fun i hi0 hi1 => ?_) ?_
      · exact (hr2 (10 + i) (by omega) (by omega))
      refine pt_gen ?_
      intro hp33 ev33
      have hN := pg_n ev33 (by omega) hN
      have hNt := pg_n ev33 (by omega) hNt
      have hNl := pg_n ev33 (by omega) hNl
      have hNk := pg_s ev33
      have hfr3 : fr hpx hp33 (5 + 1) (5 + 5) := ((fr.rf.up ev31 (by omega) (by omega)).up ev32 (by omega) (by omega)).up ev33 (by omega) (by omega)
      have hs3 : StA hp33 (5 + 1) (fun x => q 20 (90 * j + x)) := ⟨by dsimp only; rw [← hr2 0 (by decide) (by decide), ← hr2 1 (by decide) (by decide)]; exact hN, hNt, hNl, hNk⟩
      have hA3 := hA2.now hfr3 hs3
      have hL := hA3.1
      have hN := hs3.1
      have hD := pg_n ev33 (by decide) (pg_n ev32 (by decide) (pg_n ev31 (by decide) hD))
      have hN := hN
      refine pt_aload eD_back_36 rfl ?_
      refine pt_get eD_back_37 hD rfl ?_
      refine pt_get eD_back_40 hL rfl ?_
      refine pt_get eD_back_43 hN rfl ?_
      refine pt_iret eD_back_46 (Nat.le_refl _) (Nat.le_refl _) ?_
      rw [show fBack q v j = _ by unfold fBack; rw [if_neg (fun z => z c6), if_neg c17]]
      have hfr : fr hp hp33 5 51 := hf2.tr hfr3 (by decide) (by decide)
      refine ⟨rfl, rfl, ⟨to, dr, hto, hDo.keep hfr (by omega), hTx.keep hfr (by omega), hHs.keep hfr (by omega), hHd.keep hfr (by omega), ?_, ?_, ?_, hGo.keep hfr (by omega), hPl.keep hfr (by omega)⟩, fun k hk => hfr k (by omega)⟩
      · refine ⟨fun i => if 0 ≤ i ∧ i < kj then Qj i else Q i, ?_, fun i x hi0 hi1 hx0 hx1 => ?_⟩
        · show LiA hp33 5 _ (uI (q 18) 0 (q 18 (1 + j)) 0) _
          rw [uI_s, ← hr1]
          exact hA3
        · have hi2 : i < uI (q 18) 0 (q 18 (1 + j)) 0 := hi1
          rw [uI_s, ← hr1] at hi2
          show _ = blk (q 19) (fun x => q 19 (900 * (1 + j) + x)) 0 900 (90 * i + x)
          try dsimp only
          rw [if_pos ⟨hi0, hi2⟩, blk_in (by omega) (by omega), hr3 i x hi0 hi2 hx0 hx1]
          congr 1
          omega
      · refine (hI0.keep hfr (by omega)).upd (by decide) rfl (show uI (q 18) 0 (q 18 (1 + j)) (1 + 0) = _ by rw [uI_n _ _ (by decide)]) (fun _ => rfl) (fun y hy => ?_)
        show blk (q 19) (fun x => q 19 (900 * (1 + j) + x)) 0 900 y = _
        rw [blk_out (by omega)]
      · refine (hI1.keep hfr (by omega)).upd (by decide) rfl (show uI (q 18) 0 (q 18 (1 + j)) (1 + 1) = _ by rw [uI_n _ _ (by decide)]) (fun _ => rfl) (fun y hy => ?_)
        show blk (q 19) (fun x => q 19 (900 * (1 + j) + x)) 0 900 y = _
        rw [blk_out (by omega)]
    · refine pt_ic eD_back_20 ?_
      refine pt_iret eD_back_22 (Nat.le_refl _) (Nat.le_refl _) ?_
      rw [show fBack q v j = (q, v, -2) by unfold fBack; rw [if_neg (fun z => z c6), if_pos c17]]
      exact ⟨rfl, rfl, ⟨to, dr, hC0⟩, fr.rf⟩
  · refine pt_ic eD_back_9 ?_
    refine pt_iret eD_back_10 (Nat.le_refl _) (Nat.le_refl _) ?_
    have c6 := pwi_0 c6
    rw [show fBack q v j = (q, v, -1) by unfold fBack; rw [if_pos c6]]
    exact ⟨rfl, rfl, ⟨to, dr, hC0⟩, fr.rf⟩
