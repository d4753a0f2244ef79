/-! takings, what is remembered -/
def tkf (ev bk : Int) (σ : Int → Int) (g n : Int) : Int → Int := uI (uI σ (10 + 4 * opf ev bk σ + g) (σ (10 + 4 * opf ev bk σ + g) + n)) (2 + g) (min (σ (2 + g) + n) 999)
def kbf (bf σ : Int → Int) (k : Int) : Int → Int := if k = 10 then blk (blk bf (fun j => bf (90 + j)) 0 810) σ 810 90 else blk bf σ (90 * k) 90
def knf (k : Int) : Int := if k = 10 then 10 else k + 1
theorem uI_uI {α : Type} (f : Int → α) (z : Int) (x y : α) : uI (uI f z x) z y = uI f z y := by
  funext i; unfold uI; split <;> rfl
theorem cR_takeOf (G : pd_G) (sz : Nat) (hp : pd_P) {v : Nat → Int} {df σ : Int → Int} {A : Nat} {g n : Int} (hAA : A = 188 ∨ A = 193) (hR : hp 178 = RO v) (h_door : hp 180 = ia 4 df) (h_A : hp A = ia 90 σ) (h1 : 1 ≤ df 0) (h2 : df 0 ≤ 9) (h3 : 1 ≤ df 1) (h4 : df 1 ≤ 9) (h5 : 0 ≤ σ 0) (h6 : σ 0 ≤ 20) (h7 : σ 1 = 0 ∨ σ 1 = 1) (hop : ¬ opf (df 0) (df 1) σ = -9) (h8 : 0 ≤ g) (h9 : g < 4) (h10 : 0 ≤ n) (h11 : n ≤ 30) (h12 : 0 ≤ σ (2 + g)) (h13 : σ (2 + g) ≤ 999) : pd_c G mR_takeOf 3 [vr 178, vr A, vi g, vi n] sz hp (fun v' sz' hp' => v' = none ∧ sz' = sz ∧ hp' = va_up hp A (ia 90 (tkf (df 0) (df 1) σ g n))) := by
  refine pd_con kR_takeOf [some (vr 178), some (vr A), some (vi g), some (vi n)] rfl rfl (Nat.le_of_ble_eq_true rfl) ?_
  have ho := opf_r (ev := df 0) (bk := df 1) (σ := σ) h3 h5
  refine pt_aload eR_takeOf_0 rfl ?_
  refine pt_ic eR_takeOf_1 ?_
  refine pt_ic eR_takeOf_3 ?_
  refine pt_aload eR_takeOf_4 rfl ?_
  refine pt_aload eR_takeOf_5 rfl ?_
  refine pt_kv1r eR_takeOf_6 (cR_opens G sz _ hR h_door h_A h1 h2 h3 h4 h5 h6 h7) hR rfl (Nat.le_of_ble_eq_true rfl) (by decide) (Nat.le_refl _) (Nat.le_refl _) ?_
  refine pt_imul eR_takeOf_9 ?_
  refine pt_iadd eR_takeOf_10 ?_
  refine pt_iload eR_takeOf_11 rfl ?_
  refine pt_iadd eR_takeOf_12 ?_
  refine pt_dup2 eR_takeOf_13 ?_
  refine pt_iald eR_takeOf_14 h_A (by omega) (by omega) (by decide) ?_
  refine pt_iload eR_takeOf_15 rfl ?_
  refine pt_iadd eR_takeOf_16 ?_
  refine pt_iast eR_takeOf_17 h_A (by omega) (by omega) (by decide) ?_
  refine pt_gen ?_
  intro hp1 ev1
  have hR := pg_n ev1 (by omega) hR
  have h_door := pg_n ev1 (by omega) h_door
  have h_A := pg_s ev1
  refine pt_aload eR_takeOf_18 rfl ?_
  refine pt_ic eR_takeOf_19 ?_
  refine pt_iload eR_takeOf_20 rfl ?_
  refine pt_iadd eR_takeOf_21 ?_
  refine pt_aload eR_takeOf_22 rfl ?_
  refine pt_ic eR_takeOf_23 ?_
  refine pt_iload eR_takeOf_24 rfl ?_
  refine pt_iadd eR_takeOf_25 ?_
  refine pt_iald eR_takeOf_26 h_A (by omega) (by omega) (by decide) ?_
  rw [uI_n _ _ (by omega)]
  refine pt_iload eR_takeOf_27 rfl ?_
  refine pt_iadd eR_takeOf_28 ?_
  refine pt_ks1r eR_takeOf_29 (cR_atMost G sz _ ⟨by omega, by omega⟩) (Nat.le_of_ble_eq_true rfl) (by decide) (Nat.le_refl _) (Nat.le_refl _) ?_
  refine pt_iast eR_takeOf_32 h_A (by omega) (by omega) (by decide) ?_
  refine pt_gen ?_
  intro hp2 ev2
  have hR := pg_n ev2 (by omega) hR
  have h_door := pg_n ev2 (by omega) h_door
  have h_A := pg_s ev2
  refine pt_vret eR_takeOf_33 (Nat.le_refl _) (Nat.le_refl _) ?_
  exact ⟨rfl, rfl, by rw [ev2, ev1, bx_uu]; rfl⟩
theorem lR_know1 (G : pd_G) (sz : Nat) (hp : pd_P) {v : Nat → Int} {bf : Int → Int} (hR : hp 178 = RO v) {R : pd_R} (hx : ∀  (hp0 : pd_P), hp0 = (va_up hp (190) (ia 2700 (blk bf (fun j => bf (90 + j)) 0 (810)))) → pd_t G mR_know 0 R 41 [some (vr 178), some (vi 810)] [] sz hp0) : ∀ (n : Nat) (i : Int)  (hp0 : pd_P), 0 ≤ i → i + n = 810 → hp0 = (va_up hp (190) (ia 2700 (blk bf (fun j => bf (90 + j)) 0 (i)))) → pd_t G mR_know 0 R 13 [some (vr 178), some (vi i)] [] sz hp0 := by
  intro n
  induction n with
  | zero =>
    intro i  hp0 hi0 hiE he0
    have hiE2 : 810 = i := by omega
    subst hiE2
    have hx2 := hx  hp0 he0
    have hR := pg_n he0 (by omega) hR
    have h_before := pg_s he0
    refine pt_iload eR_know_13 rfl ?_
    refine pt_ic eR_know_14 ?_
    refine pt_cge eR_know_17 ⟨by omega, by omega⟩ ⟨by omega, by omega⟩ (fun c17 => ?_) (fun c17 => ?_)
    · exact hx2
    · exfalso; omega
  | succ n ih =>
    intro i  hp0 hi0 hiE he0
    have hR := pg_n he0 (by omega) hR
    have h_before := pg_s he0
    refine pt_iload eR_know_13 rfl ?_
    refine pt_ic eR_know_14 ?_
    refine pt_cge eR_know_17 ⟨by omega, by omega⟩ ⟨by omega, by omega⟩ (fun c17 => ?_) (fun c17 => ?_)
    · exfalso; omega
    · refine pt_aload eR_know_20 rfl ?_
      refine pt_get eR_know_21 hR rfl ?_
      refine pt_iload eR_know_24 rfl ?_
      refine pt_aload eR_know_25 rfl ?_
      refine pt_get eR_know_26 hR rfl ?_
      refine pt_ic eR_know_29 ?_
      refine pt_iload eR_know_31 rfl ?_
      refine pt_iadd eR_know_32 ?_
      refine pt_iald eR_know_33 h_before (by omega) (by omega) (by decide) ?_
      rw [blk_out (by omega)]
      refine pt_iast eR_know_34 h_before (by omega) (by omega) (by decide) ?_
      refine pt_gen ?_
      intro hp1 ev1
      have hR := pg_n ev1 (by omega) hR
      have h_before := pg_s ev1
      refine pt_inc1 eR_know_35 rfl ?_
      refine pt_goto eR_know_38 ?_
      have hfin : hp1 = (va_up hp (190) (ia 2700 (blk bf (fun j => bf (90 + j)) 0 ((i + 1))))) := by
        rw [ev1, he0]
        rw [bx_uu, show uI (blk bf (fun j => bf (90 + j)) 0 i) i (bf (90 + i)) = blk bf (fun j => bf (90 + j)) 0 (i + 1) by have := blk_s (f := bf) (g := fun j => bf (90 + j)) (a := 0) (n := i) hi0; rwa [Int.zero_add] at this]
      exact ih (i + 1)  _ (by omega) (by omega) hfin 
theorem lR_know2 (G : pd_G) (sz : Nat) (hp : pd_P) {v : Nat → Int} {bf kn σ : Int → Int} (hR : hp 178 = RO v) (h_known : hp 189 = ia 3 kn) (h_now : hp 188 = ia 90 σ) (hk0 : 0 ≤ kn 0) (hk1 : kn 0 < 10) {R : pd_R} (hx : ∀  (hp0 : pd_P), hp0 = (va_up hp (190) (ia 2700 (blk bf σ (90 * kn 0) (90)))) → pd_t G mR_know 0 R 87 [some (vr 178), some (vi 90)] [] sz hp0) : ∀ (n : Nat) (i : Int)  (hp0 : pd_P), 0 ≤ i → i + n = 90 → hp0 = (va_up hp (190) (ia 2700 (blk bf σ (90 * kn 0) (i)))) → pd_t G mR_know 0 R 53 [some (vr 178), some (vi i)] [] sz hp0 := by
  intro n
  induction n with
  | zero =>
    intro i  hp0 hi0 hiE he0
    have hiE2 : 90 = i := by omega
    subst hiE2
    have hx2 := hx  hp0 he0
    have hR := pg_n he0 (by omega) hR
    have h_before := pg_s he0
    have h_known := pg_n he0 (by omega) h_known
    have h_now := pg_n he0 (by omega) h_now
    refine pt_iload eR_know_53 rfl ?_
    refine pt_ic eR_know_54 ?_
    refine pt_cge eR_know_56 ⟨by omega, by omega⟩ ⟨by omega, by omega⟩ (fun c56 => ?_) (fun c56 => ?_)
    · exact hx2
    · exfalso; omega
  | succ n ih =>
    intro i  hp0 hi0 hiE he0
    have hR := pg_n he0 (by omega) hR
    have h_before := pg_s he0
    have h_known := pg_n he0 (by omega) h_known
    have h_now := pg_n he0 (by omega) h_now
    refine pt_iload eR_know_53 rfl ?_
    refine pt_ic eR_know_54 ?_
    refine pt_cge eR_know_56 ⟨by omega, by omega⟩ ⟨by omega, by omega⟩ (fun c56 => ?_) (fun c56 => ?_)
    · exfalso; omega
    · refine pt_aload eR_know_59 rfl ?_
      refine pt_get eR_know_60 hR rfl ?_
      refine pt_ic eR_know_63 ?_
      refine pt_aload eR_know_65 rfl ?_
      refine pt_get eR_know_66 hR rfl ?_
      refine pt_ic eR_know_69 ?_
      refine pt_iald eR_know_70 h_known (by omega) (by omega) (by decide) ?_
      refine pt_imul eR_know_71 ?_
      refine pt_iload eR_know_72 rfl ?_
      refine pt_iadd eR_know_73 ?_
      refine pt_aload eR_know_74 rfl ?_
      refine pt_get eR_know_75 hR rfl ?_
      refine pt_iload eR_know_78 rfl ?_
      refine pt_iald eR_know_79 h_now (by omega) (by omega) (by decide) ?_
      refine pt_iast eR_know_80 h_before (by omega) (by omega) (by decide) ?_
      refine pt_gen ?_
      intro hp1 ev1
      have hR := pg_n ev1 (by omega) hR
      have h_before := pg_s ev1
      have h_known := pg_n ev1 (by omega) h_known
      have h_now := pg_n ev1 (by omega) h_now
      refine pt_inc1 eR_know_81 rfl ?_
      refine pt_goto eR_know_84 ?_
      have hfin : hp1 = (va_up hp (190) (ia 2700 (blk bf σ (90 * kn 0) ((i + 1))))) := by
        rw [ev1, he0]
        rw [bx_uu, blk_s hi0]
      exact ih (i + 1)  _ (by omega) (by omega) hfin 
theorem cR_know (G : pd_G) (sz : Nat) (hp : pd_P) {v : Nat → Int} {bf kn σ : Int → Int} (hR : hp 178 = RO v) (h_known : hp 189 = ia 3 kn) (h_before : hp 190 = ia 2700 bf) (h_now : hp 188 = ia 90 σ) (hk0 : 0 ≤ kn 0) (hk1 : kn 0 ≤ 10) : pd_c G mR_know 0 [vr 178] sz hp (fun v' sz' hp' => v' = none ∧ sz' = sz ∧ hp' = va_up (va_up hp 190 (ia 2700 (kbf bf σ (kn 0)))) 189 (ia 3 (uI kn 0 (knf (kn 0))))) := by
  refine pd_con kR_know [some (vr 178), none] rfl rfl (Nat.le_of_ble_eq_true rfl) ?_
  refine pt_aload eR_know_0 rfl ?_
  refine pt_get eR_know_1 hR rfl ?_
  refine pt_ic eR_know_4 ?_
  refine pt_iald eR_know_5 h_known (by omega) (by omega) (by decide) ?_
  refine pt_ic eR_know_6 ?_
  refine pt_cne eR_know_8 ⟨by omega, by omega⟩ ⟨by omega, by omega⟩ (fun c8 => ?_) (fun c8 => ?_)
  · refine pt_ic eR_know_51 ?_
    refine pt_istore1 eR_know_52 rfl ?_
    refine lR_know2 G sz hp (bf := bf) (σ := σ) hR h_known h_now (by omega) (by omega) (fun hp3 he3 => ?_) 90 0 hp (by omega) (by omega) (by rw [blk_0]; exact pu_self h_before)
    have hR := pg_n he3 (by omega) hR
    have h_known := pg_n he3 (by omega) h_known
    refine pt_aload eR_know_87 rfl ?_
    refine pt_get eR_know_88 hR rfl ?_
    refine pt_ic eR_know_91 ?_
    refine pt_dup2 eR_know_92 ?_
    refine pt_iald eR_know_93 h_known (by omega) (by omega) (by decide) ?_
    refine pt_ic eR_know_94 ?_
    refine pt_iadd eR_know_95 ?_
    refine pt_iast eR_know_96 h_known (by omega) (by omega) (by decide) ?_
    refine pt_gen ?_
    intro hp1 ev1
    have hR := pg_n ev1 (by omega) hR
    have h_known := pg_s ev1
    refine pt_vret eR_know_97 (Nat.le_refl _) (Nat.le_refl _) ?_
    refine ⟨rfl, rfl, ?_⟩
    rw [ev1, he3]
    unfold kbf knf
    rw [if_neg (by omega), if_neg (by omega)]
  · refine pt_ic eR_know_11 ?_
    refine pt_istore1 eR_know_12 rfl ?_
    refine lR_know1 G sz hp (bf := bf) hR (fun hp0 he0 => ?_) 810 0 hp (by omega) (by omega) (by rw [blk_0]; exact pu_self h_before)
    have h_before := pg_s he0
    have hR := pg_n he0 (by omega) hR
    have h_known := pg_n he0 (by omega) h_known
    have h_now := pg_n he0 (by omega) h_now
    refine pt_aload eR_know_41 rfl ?_
    refine pt_get eR_know_42 hR rfl ?_
    refine pt_ic eR_know_45 ?_
    refine pt_dup2 eR_know_46 ?_
    refine pt_iald eR_know_47 h_known (by omega) (by omega) (by decide) ?_
    refine pt_ic eR_know_48 ?_
    refine pt_isub eR_know_49 ?_
    refine pt_iast eR_know_50 h_known (by omega) (by omega) (by decide) ?_
    refine pt_gen ?_
    intro hp1 ev1
    have hR := pg_n ev1 (by omega) hR
    have h_known := pg_s ev1
    have h_before := pg_n ev1 (by omega) h_before
    have h_now := pg_n ev1 (by omega) h_now
    refine pt_ic eR_know_51 ?_
    refine pt_istore1 eR_know_52 rfl ?_
    have hk2 : uI kn 0 (kn 0 - 1) 0 = 9 := by rw [uI_s]; omega
    refine lR_know2 G sz hp1 (bf := blk bf (fun j => bf (90 + j)) 0 810) (σ := σ) hR h_known h_now (by omega) (by omega) (fun hp3 he3 => ?_) 90 0 hp1 (by omega) (by omega) (by rw [blk_0]; exact pu_self h_before)
    have hR := pg_n he3 (by omega) hR
    have h_known := pg_n he3 (by omega) h_known
    refine pt_aload eR_know_87 rfl ?_
    refine pt_get eR_know_88 hR rfl ?_
    refine pt_ic eR_know_91 ?_
    refine pt_dup2 eR_know_92 ?_
    refine pt_iald eR_know_93 h_known (by omega) (by omega) (by decide) ?_
    refine pt_ic eR_know_94 ?_
    refine pt_iadd eR_know_95 ?_
    refine pt_iast eR_know_96 h_known (by omega) (by omega) (by decide) ?_
    refine pt_gen ?_
    intro hp8 ev8
    have hR := pg_n ev8 (by omega) hR
    have h_known := pg_s ev8
    refine pt_vret eR_know_97 (Nat.le_refl _) (Nat.le_refl _) ?_
    refine ⟨rfl, rfl, ?_⟩
    rw [ev8, he3, ev1, he0, hk2, bx_4 (by decide)]
    unfold kbf knf
    rw [if_pos (by omega), if_pos (by omega), uI_uI]
    rfl
def thf (us br ms σ : Int → Int) (n : Int) : Int → Int := fun x => if 0 ≤ x ∧ x < n then max 0 (rr us br ms σ x) else σ (2 + x)
def lkf (us br ms σ : Int → Int) (n : Int) : Int → Int := fun x => if 0 ≤ x ∧ x < n then σ (6 + x) + (if rr us br ms σ x < 0 then 1 else 0) else σ (6 + x)
theorem thf_s {us br ms σ : Int → Int} {n z : Int} (h0 : 0 ≤ n) (hz : z = max 0 (rr us br ms σ n)) : uI (thf us br ms σ n) n z = thf us br ms σ (n + 1) := by
  funext x
  unfold uI thf
  by_cases h1 : x = n
  · subst h1; rw [if_pos rfl, if_pos (by omega), hz]
  · rw [if_neg h1]
    by_cases h2 : 0 ≤ x ∧ x < n
    · rw [if_pos h2, if_pos (show 0 ≤ x ∧ x < n + 1 by omega)]
    · rw [if_neg h2, if_neg (show ¬ (0 ≤ x ∧ x < n + 1) by omega)]
theorem lkf_y {us br ms σ : Int → Int} {n : Int} (h0 : 0 ≤ n) (h : rr us br ms σ n < 0) : uI (lkf us br ms σ n) n (σ (6 + n) + 1) = lkf us br ms σ (n + 1) := by
  funext x
  unfold uI lkf
  by_cases h1 : x = n
  · subst h1; rw [if_pos rfl, if_pos (show 0 ≤ x ∧ x < x + 1 by omega), if_pos h]
  · rw [if_neg h1]
    by_cases h2 : 0 ≤ x ∧ x < n
    · rw [if_pos h2, if_pos (show 0 ≤ x ∧ x < n + 1 by omega)]
    · rw [if_neg h2, if_neg (show ¬ (0 ≤ x ∧ x < n + 1) by omega)]
theorem lkf_n {us br ms σ : Int → Int} {n : Int} (h0 : 0 ≤ n) (h : ¬ rr us br ms σ n < 0) : lkf us br ms σ n = lkf us br ms σ (n + 1) := by
  funext x
  unfold lkf
  by_cases h1 : x = n
  · subst h1; rw [if_neg (by omega), if_pos (show 0 ≤ x ∧ x < x + 1 by omega), if_neg h, Int.add_zero]
  · by_cases h2 : 0 ≤ x ∧ x < n
    · rw [if_pos h2, if_pos (show 0 ≤ x ∧ x < n + 1 by omega)]
    · rw [if_neg h2, if_neg (show ¬ (0 ≤ x ∧ x < n + 1) by omega)]
theorem lkf_at {us br ms σ : Int → Int} {n : Int} : lkf us br ms σ n n = σ (6 + n) := by unfold lkf; rw [if_neg (by omega)]
theorem thf_at {us br ms σ : Int → Int} {n : Int} : thf us br ms σ n n = σ (2 + n) := by unfold thf; rw [if_neg (by omega)]
theorem lS_pass (G : pd_G) (sz : Nat) (hp : pd_P) {a h : Nat} {gd ev bk : Int} {br ms us σ : Int → Int} (hah : h + 8 ≤ a ∨ a + 4 ≤ h) (ha : hp a = SO a (σ 0) (σ 1)) (hH : hp h = HO h gd ev bk) (hH5 : hp (h + 5) = ia 80 br) (hH6 : hp (h + 6) = ia 80 ms) (hH2 : hp (h + 2) = ia 4 us) (hg0 : 0 ≤ gd) (hg4 : gd ≤ 4) (hb : okB br) (hm : okB ms) (hu : okU gd us) (hT : okT σ) (hd0 : 0 ≤ σ 0) (hd1 : σ 0 < 20) {R : pd_R} (hx : ∀ (l4 : Option pv) (hp0 : pd_P), hp0 = (va_up (va_up hp (a + 1) (ia 4 (thf us br ms σ (gd)))) (a + 2) (ia 4 (lkf us br ms σ (gd)))) → pd_t G mS_pass 2 R 75 [some (vr a), some (vr h), some (vi (hnf us br ms σ (gd).toNat)), some (vi (gd)), l4] [] sz hp0) : ∀ (n : Nat) (i : Int) (l4 : Option pv) (hp0 : pd_P), 0 ≤ i → i + n = gd → hp0 = (va_up (va_up hp (a + 1) (ia 4 (thf us br ms σ (i)))) (a + 2) (ia 4 (lkf us br ms σ (i)))) → pd_t G mS_pass 2 R 4 [some (vr a), some (vr h), some (vi (hnf us br ms σ (i).toNat)), some (vi (i)), l4] [] sz hp0 := by
  intro n
  induction n with
  | zero =>
    intro i l4 hp0 hi0 hiE he0
    have hiE2 : gd = i := by omega
    subst hiE2
    have hx2 := hx l4 hp0 he0
    obtain ⟨hq0, eq0⟩ : ∃ z : pd_P, z = va_up hp (a + 1) (ia 4 (thf us br ms σ ((gd)))) := ⟨_, rfl⟩
    rw [← eq0] at he0
    have ha := pg_n eq0 (by omega) ha
    have hat := pg_s eq0
    have hH := pg_n eq0 (by omega) hH
    have hH5 := pg_n eq0 (by omega) hH5
    have hH6 := pg_n eq0 (by omega) hH6
    have hH2 := pg_n eq0 (by omega) hH2
    have ha := pg_n he0 (by omega) ha
    have hat := pg_n he0 (by omega) hat
    have hal := pg_s he0
    have hH := pg_n he0 (by omega) hH
    have hH5 := pg_n he0 (by omega) hH5
    have hH6 := pg_n he0 (by omega) hH6
    have hH2 := pg_n he0 (by omega) hH2
    refine pt_iload eS_pass_4 rfl ?_
    refine pt_aload eS_pass_5 rfl ?_
    refine pt_get eS_pass_6 hH rfl ?_
    refine pt_cge eS_pass_9 ⟨by omega, by omega⟩ ⟨by omega, by omega⟩ (fun c9 => ?_) (fun c9 => ?_)
    · exact hx2
    · exfalso; omega
  | succ n ih =>
    intro i l4 hp0 hi0 hiE he0
    obtain ⟨hq0, eq0⟩ : ∃ z : pd_P, z = va_up hp (a + 1) (ia 4 (thf us br ms σ (i))) := ⟨_, rfl⟩
    rw [← eq0] at he0
    have ha := pg_n eq0 (by omega) ha
    have hat := pg_s eq0
    have hH := pg_n eq0 (by omega) hH
    have hH5 := pg_n eq0 (by omega) hH5
    have hH6 := pg_n eq0 (by omega) hH6
    have hH2 := pg_n eq0 (by omega) hH2
    have ha := pg_n he0 (by omega) ha
    have hat := pg_n he0 (by omega) hat
    have hal := pg_s he0
    have hH := pg_n he0 (by omega) hH
    have hH5 := pg_n he0 (by omega) hH5
    have hH6 := pg_n he0 (by omega) hH6
    have hH2 := pg_n he0 (by omega) hH2
    refine pt_iload eS_pass_4 rfl ?_
    refine pt_aload eS_pass_5 rfl ?_
    refine pt_get eS_pass_6 hH rfl ?_
    refine pt_cge eS_pass_9 ⟨by omega, by omega⟩ ⟨by omega, by omega⟩ (fun c9 => ?_) (fun c9 => ?_)
    · exfalso; omega
    · refine pt_aload eS_pass_12 rfl ?_
      refine pt_get eS_pass_13 ha rfl ?_
      refine pt_ic eS_pass_16 ?_
      refine pt_cge eS_pass_18 ⟨by omega, by omega⟩ ⟨by omega, by omega⟩ (fun c18 => ?_) (fun c18 => ?_)
      · exfalso; omega
      · have hb1 := hb (4 * σ 0 + i) (by omega) (by omega)
        have hm1 := hm (4 * σ 0 + i) (by omega) (by omega)
        have hu1 := hu i (by omega) (by omega)
        have hT1 := hT i (by omega) (by omega)
        have hrr : rr us br ms σ i = max 0 (min (σ (2 + i) + br (4 * σ 0 + i)) 999 - ms (4 * σ 0 + i)) - us i := rfl
        refine pt_aload eS_pass_21 rfl ?_
        refine pt_aload eS_pass_22 rfl ?_
        refine pt_get eS_pass_23 ha rfl ?_
        refine pt_iload eS_pass_26 rfl ?_
        refine pt_iald eS_pass_27 hat (by omega) (by omega) (by decide) ?_
        rw [thf_at]
        refine pt_aload eS_pass_28 rfl ?_
        refine pt_get eS_pass_29 ha rfl ?_
        refine pt_iload eS_pass_32 rfl ?_
        refine pt_kv3r eS_pass_33 (cH_rest G sz _ hH hH5 hH6 hH2 (by omega) (by omega) (by omega) (by omega) (by omega) (by omega) (by omega) (by omega) (by omega)) hH rfl (Nat.le_of_ble_eq_true rfl) (by decide) (Nat.le_refl _) (Nat.le_refl _) ?_
        have hrv : (if rsf (σ (2 + i)) (br (4 * σ 0 + i)) (ms (4 * σ 0 + i)) (us i) < 0 then -1 else rsf (σ (2 + i)) (br (4 * σ 0 + i)) (ms (4 * σ 0 + i)) (us i)) = if rr us br ms σ i < 0 then -1 else rr us br ms σ i := rfl
        rw [hrv]
        generalize hrv2 : (if rr us br ms σ i < 0 then -1 else rr us br ms σ i) = rv
        have hrv3 : (rr us br ms σ i < 0 ∧ rv = -1) ∨ (0 ≤ rr us br ms σ i ∧ rv = rr us br ms σ i) := by
          rw [← hrv2]
          split <;> omega
        refine pt_istore4 eS_pass_36 rfl ?_
        refine pt_iload eS_pass_38 rfl ?_
        refine pt_ic eS_pass_40 ?_
        refine pt_cne eS_pass_41 ⟨by omega, by omega⟩ ⟨by omega, by omega⟩ (fun c41 => ?_) (fun c41 => ?_)
        · refine pt_aload eS_pass_57 rfl ?_
          refine pt_get eS_pass_58 ha rfl ?_
          refine pt_iload eS_pass_61 rfl ?_
          refine pt_ic eS_pass_62 ?_
          refine pt_iload eS_pass_63 rfl ?_
          refine pt_max eS_pass_65 ⟨by omega, by omega⟩ ⟨by omega, by omega⟩ (by decide) (Nat.le_of_ble_eq_true rfl) (Nat.le_refl _) (Nat.le_refl _) ?_
          refine pt_iast eS_pass_68 hat (by omega) (by omega) (by decide) ?_
          refine pt_gen ?_
          intro hp1 ev1
          have ha := pg_n ev1 (by omega) ha
          have hat := pg_s ev1
          have hal := pg_n ev1 (by omega) hal
          have hH := pg_n ev1 (by omega) hH
          have hH5 := pg_n ev1 (by omega) hH5
          have hH6 := pg_n ev1 (by omega) hH6
          have hH2 := pg_n ev1 (by omega) hH2
          refine pt_inc3 eS_pass_69 rfl ?_
          refine pt_goto eS_pass_72 ?_
          have hfin : hp1 = (va_up (va_up hp (a + 1) (ia 4 (thf us br ms σ ((i + 1))))) (a + 2) (ia 4 (lkf us br ms σ ((i + 1))))) := by
            rw [ev1, he0, eq0]
            first | (exfalso; omega) | (rw [bx_uu, bx_3 (by omega), thf_s (by omega) (by omega), lkf_y (by omega) (by omega)]; done) | (rw [bx_3 (by omega), thf_s (by omega) (by omega), lkf_n (by omega) (by omega)]; done)
          first | rw [hnf_y hi0 (by omega)] | rw [hnf_n hi0 (by omega)]
          exact ih (i + 1) _ _ (by omega) (by omega) hfin 
        · refine pt_inc2 eS_pass_44 rfl ?_
          refine pt_aload eS_pass_47 rfl ?_
          refine pt_get eS_pass_48 ha rfl ?_
          refine pt_iload eS_pass_51 rfl ?_
          refine pt_dup2 eS_pass_52 ?_
          refine pt_iald eS_pass_53 hal (by omega) (by omega) (by decide) ?_
          rw [lkf_at]
          refine pt_ic eS_pass_54 ?_
          refine pt_iadd eS_pass_55 ?_
          refine pt_iast eS_pass_56 hal (by omega) (by omega) (by decide) ?_
          refine pt_gen ?_
          intro hp2 ev2
          have ha := pg_n ev2 (by omega) ha
          have hat := pg_n ev2 (by omega) hat
          have hal := pg_s ev2
          have hH := pg_n ev2 (by omega) hH
          have hH5 := pg_n ev2 (by omega) hH5
          have hH6 := pg_n ev2 (by omega) hH6
          have hH2 := pg_n ev2 (by omega) hH2
          refine pt_aload eS_pass_57 rfl ?_
          refine pt_get eS_pass_58 ha rfl ?_
          refine pt_iload eS_pass_61 rfl ?_
          refine pt_ic eS_pass_62 ?_
          refine pt_iload eS_pass_63 rfl ?_
          refine pt_max eS_pass_65 ⟨by omega, by omega⟩ ⟨by omega, by omega⟩ (by decide) (Nat.le_of_ble_eq_true rfl) (Nat.le_refl _) (Nat.le_refl _) ?_
          refine pt_iast eS_pass_68 hat (by omega) (by omega) (by decide) ?_
          refine pt_gen ?_
          intro hp3 ev3
          have ha := pg_n ev3 (by omega) ha
          have hat := pg_s ev3
          have hal := pg_n ev3 (by omega) hal
          have hH := pg_n ev3 (by omega) hH
          have hH5 := pg_n ev3 (by omega) hH5
          have hH6 := pg_n ev3 (by omega) hH6
          have hH2 := pg_n ev3 (by omega) hH2
          refine pt_inc3 eS_pass_69 rfl ?_
          refine pt_goto eS_pass_72 ?_
          have hfin : hp3 = (va_up (va_up hp (a + 1) (ia 4 (thf us br ms σ ((i + 1))))) (a + 2) (ia 4 (lkf us br ms σ ((i + 1))))) := by
            rw [ev3, ev2, he0, eq0]
            first | (exfalso; omega) | (rw [bx_uu, bx_3 (by omega), thf_s (by omega) (by omega), lkf_y (by omega) (by omega)]; done) | (rw [bx_3 (by omega), thf_s (by omega) (by omega), lkf_n (by omega) (by omega)]; done)
          first | rw [hnf_y hi0 (by omega)] | rw [hnf_n hi0 (by omega)]
          exact ih (i + 1) _ _ (by omega) (by omega) hfin 
