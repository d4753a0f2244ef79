theorem passf_t {us br ms σ : Int → Int} {gd i : Int} (h0 : 0 ≤ i) (h4 : i < 4) (hg : gd ≤ 4) : thf us br ms σ gd i = passf us br ms σ gd (2 + i) := by
  unfold thf passf uI psf
  rw [if_neg (show ¬ (2 + i = 0) by omega)]
  by_cases h : 0 ≤ i ∧ i < gd
  · rw [if_pos h, if_pos (show 2 ≤ 2 + i ∧ 2 + i < 2 + gd by omega), show 2 + i - 2 = i by omega]
  · rw [if_neg h, if_neg (show ¬ (2 ≤ 2 + i ∧ 2 + i < 2 + gd) by omega), if_neg (show ¬ (6 ≤ 2 + i ∧ 2 + i < 6 + gd) by omega)]
theorem passf_l {us br ms σ : Int → Int} {gd i : Int} (h0 : 0 ≤ i) (h4 : i < 4) (hg : gd ≤ 4) : lkf us br ms σ gd i = passf us br ms σ gd (6 + i) := by
  unfold lkf passf uI psf
  rw [if_neg (show ¬ (6 + i = 0) by omega), if_neg (show ¬ (2 ≤ 6 + i ∧ 6 + i < 2 + gd) by omega)]
  by_cases h : 0 ≤ i ∧ i < gd
  · rw [if_pos h, if_pos (show 6 ≤ 6 + i ∧ 6 + i < 6 + gd by omega), show 6 + i - 6 = i by omega]
  · rw [if_neg h, if_neg (show ¬ (6 ≤ 6 + i ∧ 6 + i < 6 + gd) by omega)]
theorem passf_k {us br ms σ : Int → Int} {gd i : Int} (h0 : 0 ≤ i) (hg : gd ≤ 4) : σ (10 + i) = passf us br ms σ gd (10 + i) := by
  unfold passf uI psf
  rw [if_neg (show ¬ (10 + i = 0) by omega), if_neg (by omega), if_neg (by omega)]
theorem passf_0 {us br ms σ : Int → Int} {gd : Int} : passf us br ms σ gd 0 = σ 0 + 1 := by unfold passf; rw [uI_s]
theorem passf_1 {us br ms σ : Int → Int} {gd : Int} : passf us br ms σ gd 1 = σ 1 := by unfold passf; rw [uI_n _ _ (by decide), psf_1]
theorem passf_ok {us br ms σ : Int → Int} {gd : Int} (hg0 : 0 ≤ gd) (hg : gd ≤ 4) (hm : okB ms) (hu : okU gd us) (hs : okS ms σ) (hd : σ 0 < 20) : okS ms (passf us br ms σ gd) := by
  obtain ⟨h1, h2, h3, h4, h5⟩ := hs
  refine ⟨by rw [passf_0]; omega, by rw [passf_0]; omega, by rw [passf_1]; exact h3, fun g hg0 hg4 => ?_, fun k hk0 hk8 => ?_⟩
  · rw [← passf_t hg0 hg4 hg]
    unfold thf
    have := h4 g hg0 hg4
    have hm1 := hm (4 * σ 0 + g) (by omega) (by omega)
    split
    · rename_i hgg
      have hu1 := hu g hgg.1 hgg.2
      unfold rr rsf
      omega
    · exact this
  · rw [← passf_k hk0 hg]
    exact h5 k hk0 hk8
theorem cS_pass (G : pd_G) (sz : Nat) (hp : pd_P) {a h : Nat} {gd ev bk : Int} {br ms us σ : Int → Int} (hah : h + 8 ≤ a ∨ a + 4 ≤ h) (hA : StA hp a σ) (hH : hp h = HO h gd ev bk) (hH5 : hp (h + 5) = ia 80 br) (hH6 : hp (h + 6) = ia 80 ms) (hH2 : hp (h + 2) = ia 4 us) (hg0 : 0 ≤ gd) (hg4 : gd ≤ 4) (hb : okB br) (hm : okB ms) (hu : okU gd us) (hT : okT σ) (hd0 : 0 ≤ σ 0) (hd1 : σ 0 < 20) : pd_c G mS_pass 2 [vr a, vr h] sz hp (fun v sz' hp' => v = some (vi (hnf us br ms σ gd.toNat)) ∧ sz' = sz ∧ StA hp' a (passf us br ms σ gd) ∧ fr hp hp' a (a + 4)) := by
  refine pd_con kS_pass [some (vr a), some (vr h), none, none, none] rfl rfl (Nat.le_of_ble_eq_true rfl) ?_
  obtain ⟨ha, hat, hal, hak⟩ := hA
  refine pt_ic eS_pass_0 ?_
  refine pt_istore2 eS_pass_1 rfl ?_
  refine pt_ic eS_pass_2 ?_
  refine pt_istore3 eS_pass_3 rfl ?_
  have ef1 : thf us br ms σ 0 = fun g => σ (2 + g) := by funext x; unfold thf; rw [if_neg (by omega)]
  have ef2 : lkf us br ms σ 0 = fun g => σ (6 + g) := by funext x; unfold lkf; rw [if_neg (by omega)]
  refine lS_pass G sz hp hah ha hH hH5 hH6 hH2 hg0 hg4 hb hm hu hT hd0 hd1 (fun l4 hp0 he0 => ?_) gd.toNat 0 none hp (by omega) (by omega) (by rw [ef1, ef2, ← pu_self hat]; exact pu_self hal)
  obtain ⟨hq, eq0⟩ : ∃ z : pd_P, z = va_up hp (a + 1) (ia 4 (thf us br ms σ gd)) := ⟨_, rfl⟩
  rw [← eq0] at he0
  have hat := pg_n he0 (by omega) (pg_s eq0)
  have hal := pg_s he0
  have ha := pg_n he0 (by omega) (pg_n eq0 (by omega) ha)
  have hak := pg_n he0 (by omega) (pg_n eq0 (by omega) hak)
  have hfr : fr hp hp0 a (a + 4) := (fr.rf.up eq0 (by omega) (by omega)).up he0 (by omega) (by omega)
  refine pt_aload eS_pass_75 rfl ?_
  refine pt_dupr eS_pass_76 ?_
  refine pt_get eS_pass_77 ha rfl ?_
  refine pt_ic eS_pass_80 ?_
  refine pt_iadd eS_pass_81 ?_
  refine pt_put3 eS_pass_82 ha trivial ?_
  refine pt_gen ?_
  intro hp1 ev1
  have ha := pg_s ev1
  have hat := pg_n ev1 (by omega) hat
  have hal := pg_n ev1 (by omega) hal
  have hak := pg_n ev1 (by omega) hak
  refine pt_ext hat (g := fun x => passf us br ms σ gd (2 + x)) (fun i hi0 hi1 => ?_) ?_
  · exact passf_t hi0 hi1 hg4
  refine pt_gen ?_
  intro hp2 ev2
  have ha := pg_n ev2 (by omega) ha
  have hat := pg_s ev2
  have hal := pg_n ev2 (by omega) hal
  have hak := pg_n ev2 (by omega) hak
  refine pt_ext hal (g := fun x => passf us br ms σ gd (6 + x)) (fun i hi0 hi1 => ?_) ?_
  · exact passf_l hi0 hi1 hg4
  refine pt_gen ?_
  intro hp3 ev3
  have ha := pg_n ev3 (by omega) ha
  have hat := pg_n ev3 (by omega) hat
  have hal := pg_s ev3
  have hak := pg_n ev3 (by omega) hak
  refine pt_ext hak (g := fun x => passf us br ms σ gd (10 + x)) (fun i hi0 hi1 => ?_) ?_
  · exact passf_k hi0 hg4
  refine pt_gen ?_
  intro hp4 ev4
  have ha := pg_n ev4 (by omega) ha
  have hat := pg_n ev4 (by omega) hat
  have hal := pg_n ev4 (by omega) hal
  have hak := pg_s ev4
  refine pt_iload eS_pass_85 rfl ?_
  refine pt_iret eS_pass_86 (Nat.le_refl _) (Nat.le_refl _) ?_
  exact ⟨rfl, rfl, ⟨by rw [passf_0, passf_1]; exact ha, hat, hal, hak⟩, (((hfr.up ev1 (by omega) (by omega)).up ev2 (by omega) (by omega)).up ev3 (by omega) (by omega)).up ev4 (by omega) (by omega)⟩
def bgt (fi : Int → Int) (gd : Int) : Int → Int := fun x => if x < gd then fi x else 0
def beg (fi : Int → Int) (gd : Int) : Int → Int := fun i => if 2 ≤ i ∧ i < 2 + gd then fi (i - 2) else 0
theorem lS_begin1 (G : pd_G) (sz : Nat) (hp : pd_P) {a h : Nat} {gd ev bk : Int} {fi t0 l0 : Int → Int} {dy he : Int} (hah : h + 8 ≤ a ∨ a + 4 ≤ h) (ha : hp a = SO a dy he) (hH : hp h = HO h gd ev bk) (hH1 : hp (h + 1) = ia 4 fi) (hg0 : 0 ≤ gd) (hg4 : gd ≤ 4) {R : pd_R} (hx : ∀  (hp0 : pd_P), hp0 = (va_up (va_up hp (a + 1) (ia 4 (blk t0 (bgt fi gd) 0 (4)))) (a + 2) (ia 4 (blk l0 (fun _ => 0) 0 (4)))) → pd_t G mS_begin 2 R 54 [some (vr a), some (vr h), some (vi (4))] [] sz hp0) : ∀ (n : Nat) (i : Int)  (hp0 : pd_P), 0 ≤ i → i + n = 4 → hp0 = (va_up (va_up hp (a + 1) (ia 4 (blk t0 (bgt fi gd) 0 (i)))) (a + 2) (ia 4 (blk l0 (fun _ => 0) 0 (i)))) → pd_t G mS_begin 2 R 12 [some (vr a), some (vr h), some (vi (i))] [] sz hp0 := by
  intro n
  induction n with
  | zero =>
    intro i  hp0 hi0 hiE he0
    have hiE2 : 4 = i := by omega
    subst hiE2
    have hx2 := hx  hp0 he0
    obtain ⟨hq0, eq0⟩ : ∃ z : pd_P, z = va_up hp (a + 1) (ia 4 (blk t0 (bgt fi gd) 0 ((4)))) := ⟨_, rfl⟩
    rw [← eq0] at he0
    have ha := pg_n eq0 (by omega) ha
    have hat := pg_s eq0
    have hH := pg_n eq0 (by omega) hH
    have hH1 := pg_n eq0 (by omega) hH1
    have ha := pg_n he0 (by omega) ha
    have hat := pg_n he0 (by omega) hat
    have hal := pg_s he0
    have hH := pg_n he0 (by omega) hH
    have hH1 := pg_n he0 (by omega) hH1
    refine pt_iload eS_begin_12 rfl ?_
    refine pt_ic eS_begin_13 ?_
    refine pt_cge eS_begin_14 ⟨by omega, by omega⟩ ⟨by omega, by omega⟩ (fun c14 => ?_) (fun c14 => ?_)
    · exact hx2
    · exfalso; omega
  | succ n ih =>
    intro i  hp0 hi0 hiE he0
    obtain ⟨hq0, eq0⟩ : ∃ z : pd_P, z = va_up hp (a + 1) (ia 4 (blk t0 (bgt fi gd) 0 (i))) := ⟨_, rfl⟩
    rw [← eq0] at he0
    have ha := pg_n eq0 (by omega) ha
    have hat := pg_s eq0
    have hH := pg_n eq0 (by omega) hH
    have hH1 := pg_n eq0 (by omega) hH1
    have ha := pg_n he0 (by omega) ha
    have hat := pg_n he0 (by omega) hat
    have hal := pg_s he0
    have hH := pg_n he0 (by omega) hH
    have hH1 := pg_n he0 (by omega) hH1
    refine pt_iload eS_begin_12 rfl ?_
    refine pt_ic eS_begin_13 ?_
    refine pt_cge eS_begin_14 ⟨by omega, by omega⟩ ⟨by omega, by omega⟩ (fun c14 => ?_) (fun c14 => ?_)
    · exfalso; omega
    · refine pt_aload eS_begin_17 rfl ?_
      refine pt_get eS_begin_18 ha rfl ?_
      refine pt_iload eS_begin_21 rfl ?_
      refine pt_aload eS_begin_22 rfl ?_
      refine pt_iload eS_begin_23 rfl ?_
      refine pt_kv1r eS_begin_24 (cH_has G sz _ hH ⟨by omega, by omega⟩ hg0 hg4) hH rfl (Nat.le_of_ble_eq_true rfl) (by decide) (Nat.le_refl _) (Nat.le_refl _) ?_
      refine pt_zeq eS_begin_27 (pwi_j _ _ _) (fun c27 => ?_) (fun c27 => ?_)
      · try have c27 := pwi_0 c27
        refine pt_ic eS_begin_39 ?_
        refine pt_iast eS_begin_40 hat (by omega) (by omega) (by decide) ?_
        refine pt_gen ?_
        intro hp1 ev1
        have ha := pg_n ev1 (by omega) ha
        have hat := pg_s ev1
        have hal := pg_n ev1 (by omega) hal
        have hH := pg_n ev1 (by omega) hH
        have hH1 := pg_n ev1 (by omega) hH1
        refine pt_aload eS_begin_41 rfl ?_
        refine pt_get eS_begin_42 ha rfl ?_
        refine pt_iload eS_begin_45 rfl ?_
        refine pt_ic eS_begin_46 ?_
        refine pt_iast eS_begin_47 hal (by omega) (by omega) (by decide) ?_
        refine pt_gen ?_
        intro hp2 ev2
        have ha := pg_n ev2 (by omega) ha
        have hat := pg_n ev2 (by omega) hat
        have hal := pg_s ev2
        have hH := pg_n ev2 (by omega) hH
        have hH1 := pg_n ev2 (by omega) hH1
        refine pt_inc2 eS_begin_48 rfl ?_
        refine pt_goto eS_begin_51 ?_
        have hfin : hp2 = (va_up (va_up hp (a + 1) (ia 4 (blk t0 (bgt fi gd) 0 ((i + 1))))) (a + 2) (ia 4 (blk l0 (fun _ => 0) 0 ((i + 1))))) := by
          rw [ev2, ev1, he0, eq0]
          have k1 := blk_s (f := t0) (g := bgt fi gd) (a := 0) (n := i) hi0
          have k2 := blk_s (f := l0) (g := fun _ => 0) (a := 0) (n := i) hi0
          rw [Int.zero_add] at k1 k2
          rw [bx_4 (by omega), ← k1, ← k2]
          unfold bgt
          first | (exfalso; omega) | (rw [if_pos (show i < gd by omega)]; done) | (rw [if_neg (show ¬ i < gd by omega)]; done)
        exact ih (i + 1)  _ (by omega) (by omega) hfin 
      · have c27 := pwi_1 c27
        refine pt_aload eS_begin_30 rfl ?_
        refine pt_get eS_begin_31 hH rfl ?_
        refine pt_iload eS_begin_34 rfl ?_
        refine pt_iald eS_begin_35 hH1 (by omega) (by omega) (by decide) ?_
        refine pt_goto eS_begin_36 ?_
        refine pt_iast eS_begin_40 hat (by omega) (by omega) (by decide) ?_
        refine pt_gen ?_
        intro hp3 ev3
        have ha := pg_n ev3 (by omega) ha
        have hat := pg_s ev3
        have hal := pg_n ev3 (by omega) hal
        have hH := pg_n ev3 (by omega) hH
        have hH1 := pg_n ev3 (by omega) hH1
        refine pt_aload eS_begin_41 rfl ?_
        refine pt_get eS_begin_42 ha rfl ?_
        refine pt_iload eS_begin_45 rfl ?_
        refine pt_ic eS_begin_46 ?_
        refine pt_iast eS_begin_47 hal (by omega) (by omega) (by decide) ?_
        refine pt_gen ?_
        intro hp4 ev4
        have ha := pg_n ev4 (by omega) ha
        have hat := pg_n ev4 (by omega) hat
        have hal := pg_s ev4
        have hH := pg_n ev4 (by omega) hH
        have hH1 := pg_n ev4 (by omega) hH1
        refine pt_inc2 eS_begin_48 rfl ?_
        refine pt_goto eS_begin_51 ?_
        have hfin : hp4 = (va_up (va_up hp (a + 1) (ia 4 (blk t0 (bgt fi gd) 0 ((i + 1))))) (a + 2) (ia 4 (blk l0 (fun _ => 0) 0 ((i + 1))))) := by
          rw [ev4, ev3, he0, eq0]
          have k1 := blk_s (f := t0) (g := bgt fi gd) (a := 0) (n := i) hi0
          have k2 := blk_s (f := l0) (g := fun _ => 0) (a := 0) (n := i) hi0
          rw [Int.zero_add] at k1 k2
          rw [bx_4 (by omega), ← k1, ← k2]
          unfold bgt
          first | (exfalso; omega) | (rw [if_pos (show i < gd by omega)]; done) | (rw [if_neg (show ¬ i < gd by omega)]; done)
        exact ih (i + 1)  _ (by omega) (by omega) hfin 
theorem lS_begin2 (G : pd_G) (sz : Nat) (hp : pd_P) {a h : Nat} {k0 : Int → Int} {dy he : Int} (ha : hp a = SO a dy he) {R : pd_R} (hx : ∀  (hp0 : pd_P), hp0 = (va_up hp (a + 3) (ia 80 (blk k0 (fun _ => 0) 0 (80)))) → pd_t G mS_begin 2 R 75 [some (vr a), some (vr h), some (vi (80))] [] sz hp0) : ∀ (n : Nat) (i : Int)  (hp0 : pd_P), 0 ≤ i → i + n = 80 → hp0 = (va_up hp (a + 3) (ia 80 (blk k0 (fun _ => 0) 0 (i)))) → pd_t G mS_begin 2 R 56 [some (vr a), some (vr h), some (vi (i))] [] sz hp0 := by
  intro n
  induction n with
  | zero =>
    intro i  hp0 hi0 hiE he0
    have hiE2 : 80 = i := by omega
    subst hiE2
    have hx2 := hx  hp0 he0
    have ha := pg_n he0 (by omega) ha
    have hak := pg_s he0
    refine pt_iload eS_begin_56 rfl ?_
    refine pt_ic eS_begin_57 ?_
    refine pt_cge eS_begin_59 ⟨by omega, by omega⟩ ⟨by omega, by omega⟩ (fun c59 => ?_) (fun c59 => ?_)
    · exact hx2
    · exfalso; omega
  | succ n ih =>
    intro i  hp0 hi0 hiE he0
    have ha := pg_n he0 (by omega) ha
    have hak := pg_s he0
    refine pt_iload eS_begin_56 rfl ?_
    refine pt_ic eS_begin_57 ?_
    refine pt_cge eS_begin_59 ⟨by omega, by omega⟩ ⟨by omega, by omega⟩ (fun c59 => ?_) (fun c59 => ?_)
    · exfalso; omega
    · refine pt_aload eS_begin_62 rfl ?_
      refine pt_get eS_begin_63 ha rfl ?_
      refine pt_iload eS_begin_66 rfl ?_
      refine pt_ic eS_begin_67 ?_
      refine pt_iast eS_begin_68 hak (by omega) (by omega) (by decide) ?_
      refine pt_gen ?_
      intro hp1 ev1
      have ha := pg_n ev1 (by omega) ha
      have hak := pg_s ev1
      refine pt_inc2 eS_begin_69 rfl ?_
      refine pt_goto eS_begin_72 ?_
      have hfin : hp1 = (va_up hp (a + 3) (ia 80 (blk k0 (fun _ => 0) 0 ((i + 1))))) := by
        rw [ev1, he0]
        have k2 := blk_s (f := k0) (g := fun _ => 0) (a := 0) (n := i) hi0
        rw [Int.zero_add] at k2
        rw [bx_uu, ← k2]
      exact ih (i + 1)  _ (by omega) (by omega) hfin 
theorem cS_begin (G : pd_G) (sz : Nat) (hp : pd_P) {a h : Nat} {gd ev bk : Int} {fi σ : Int → Int} (hah : h + 8 ≤ a ∨ a + 4 ≤ h) (hA : StA hp a σ) (hH : hp h = HO h gd ev bk) (hH1 : hp (h + 1) = ia 4 fi) (hg0 : 0 ≤ gd) (hg4 : gd ≤ 4) : pd_c G mS_begin 2 [vr a, vr h] sz hp (fun v sz' hp' => v = none ∧ sz' = sz ∧ StA hp' a (beg fi gd) ∧ fr hp hp' a (a + 4)) := by
  refine pd_con kS_begin [some (vr a), some (vr h), none] rfl rfl (Nat.le_of_ble_eq_true rfl) ?_
  obtain ⟨ha, hat, hal, hak⟩ := hA
  refine pt_aload eS_begin_0 rfl ?_
  refine pt_ic eS_begin_1 ?_
  refine pt_put3 eS_begin_2 ha trivial ?_
  refine pt_gen ?_
  intro hp1 ev1
  have ha := pg_s ev1
  have hat := pg_n ev1 (by omega) hat
  have hal := pg_n ev1 (by omega) hal
  have hak := pg_n ev1 (by omega) hak
  have hH := pg_n ev1 (by omega) hH
  have hH1 := pg_n ev1 (by omega) hH1
  refine pt_aload eS_begin_5 rfl ?_
  refine pt_ic eS_begin_6 ?_
  refine pt_put4 eS_begin_7 ha (Or.inl rfl) ?_
  refine pt_gen ?_
  intro hp2 ev2
  have ha := pg_s ev2
  have hat := pg_n ev2 (by omega) hat
  have hal := pg_n ev2 (by omega) hal
  have hak := pg_n ev2 (by omega) hak
  have hH := pg_n ev2 (by omega) hH
  have hH1 := pg_n ev2 (by omega) hH1
  refine pt_ic eS_begin_10 ?_
  refine pt_istore2 eS_begin_11 rfl ?_
  refine lS_begin1 G sz hp2 (t0 := fun g => σ (2 + g)) (l0 := fun g => σ (6 + g)) hah ha hH hH1 hg0 hg4 (fun hp0 he0 => ?_) 4 0 hp2 (by omega) (by omega) (by rw [blk_0, blk_0, ← pu_self hat]; exact pu_self hal)
  obtain ⟨hq, eq0⟩ : ∃ z : pd_P, z = va_up hp2 (a + 1) (ia 4 (blk (fun g => σ (2 + g)) (bgt fi gd) 0 4)) := ⟨_, rfl⟩
  rw [← eq0] at he0
  have hat := pg_n he0 (by omega) (pg_s eq0)
  have hal := pg_s he0
  have ha := pg_n he0 (by omega) (pg_n eq0 (by omega) ha)
  have hak := pg_n he0 (by omega) (pg_n eq0 (by omega) hak)
  have hfr : fr hp hp0 a (a + 4) := (((fr.rf.up ev1 (by omega) (by omega)).up ev2 (by omega) (by omega)).up eq0 (by omega) (by omega)).up he0 (by omega) (by omega)
  refine pt_ic eS_begin_54 ?_
  refine pt_istore2 eS_begin_55 rfl ?_
  refine lS_begin2 G sz hp0 (k0 := fun k => σ (10 + k)) (h := h) ha (fun hp4 he4 => ?_) 80 0 hp0 (by omega) (by omega) (by rw [blk_0]; exact pu_self hak)
  have hat := pg_n he4 (by omega) hat
  have hal := pg_n he4 (by omega) hal
  have ha := pg_n he4 (by omega) ha
  have hak := pg_s he4
  have hfr := hfr.up he4 (by omega) (by omega)
  refine pt_ext hat (g := fun x => beg fi gd (2 + x)) (fun i hi0 hi1 => ?_) ?_
  · rw [blk_in (by omega) (by omega)]; unfold bgt beg; by_cases hgi : i < gd
    · rw [Int.sub_zero, if_pos hgi, if_pos (show 2 ≤ 2 + i ∧ 2 + i < 2 + gd by omega), show 2 + i - 2 = i by omega]
    · rw [Int.sub_zero, if_neg hgi, if_neg (show ¬ (2 ≤ 2 + i ∧ 2 + i < 2 + gd) by omega)]
  refine pt_gen ?_
  intro hp5 ev5
  have ha := pg_n ev5 (by omega) ha
  have hat := pg_s ev5
  have hal := pg_n ev5 (by omega) hal
  have hak := pg_n ev5 (by omega) hak
  refine pt_ext hal (g := fun x => beg fi gd (6 + x)) (fun i hi0 hi1 => ?_) ?_
  · rw [blk_in (by omega) (by omega)]; unfold beg; rw [if_neg (show ¬ (2 ≤ 6 + i ∧ 6 + i < 2 + gd) by omega)]
  refine pt_gen ?_
  intro hp6 ev6
  have ha := pg_n ev6 (by omega) ha
  have hat := pg_n ev6 (by omega) hat
  have hal := pg_s ev6
  have hak := pg_n ev6 (by omega) hak
  refine pt_ext hak (g := fun x => beg fi gd (10 + x)) (fun i hi0 hi1 => ?_) ?_
  · rw [blk_in (by omega) (by omega)]; unfold beg; rw [if_neg (show ¬ (2 ≤ 10 + i ∧ 10 + i < 2 + gd) by omega)]
  refine pt_gen ?_
  intro hp7 ev7
  have ha := pg_n ev7 (by omega) ha
  have hat := pg_n ev7 (by omega) hat
  have hal := pg_n ev7 (by omega) hal
  have hak := pg_s ev7
  refine pt_vret eS_begin_75 (Nat.le_refl _) (Nat.le_refl _) ?_
  exact ⟨rfl, rfl, ⟨by rw [show beg fi gd 0 = 0 from rfl, show beg fi gd 1 = 0 from rfl]; exact ha, hat, hal, hak⟩, ((hfr.up ev5 (by omega) (by omega)).up ev6 (by omega) (by omega)).up ev7 (by omega) (by omega)⟩
