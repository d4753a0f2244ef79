/-! days that go by in thought -/
def pn (us br ms σ : Int → Int) (gd : Int) : Nat → Int → Int
  | 0 => σ
  | n + 1 => passf us br ms (pn us br ms σ gd n) gd
theorem pn_0 {us br ms σ : Int → Int} {gd : Int} : ∀ n : Nat, pn us br ms σ gd n 0 = σ 0 + n
  | 0 => by show σ 0 = σ 0 + 0; omega
  | n + 1 => by
    show passf us br ms (pn us br ms σ gd n) gd 0 = _
    rw [passf_0, pn_0 n]
    omega
theorem pn_ok {us br ms σ : Int → Int} {gd : Int} (hg0 : 0 ≤ gd) (hg : gd ≤ 4) (hm : okB ms) (hu : okU gd us) (hs : okS ms σ) : ∀ n : Nat, σ 0 + n ≤ 20 → okS ms (pn us br ms σ gd n)
  | 0, _ => hs
  | n + 1, h => passf_ok hg0 hg hm hu (pn_ok hg0 hg hm hu hs n (by omega)) (by rw [pn_0]; omega)
theorem pn_t {us br ms σ : Int → Int} {gd g : Int} (n : Nat) (h0 : 0 ≤ g) (h1 : g < gd) (hg : gd ≤ 4) : pn us br ms σ gd (n + 1) (2 + g) = max 0 (rr us br ms (pn us br ms σ gd n) g) := by
  show passf us br ms (pn us br ms σ gd n) gd (2 + g) = _
  rw [← passf_t h0 (by omega) hg]
  unfold thf
  rw [if_pos ⟨h0, h1⟩]
theorem pn_l {us br ms σ : Int → Int} {gd g : Int} (n : Nat) (h0 : 0 ≤ g) (h1 : g < gd) (hg : gd ≤ 4) : pn us br ms σ gd (n + 1) (6 + g) = pn us br ms σ gd n (6 + g) + (if rr us br ms (pn us br ms σ gd n) g < 0 then 1 else 0) := by
  show passf us br ms (pn us br ms σ gd n) gd (6 + g) = _
  rw [← passf_l h0 (by omega) hg]
  unfold lkf
  rw [if_pos ⟨h0, h1⟩]
theorem beg_ok {ms fi : Int → Int} {gd : Int} (hg : gd ≤ 4) (hm : okB ms) (hf : ∀ g, 0 ≤ g → g < gd → 0 ≤ fi g ∧ fi g ≤ 60) : okS ms (beg fi gd) := by
  refine ⟨by show (0 : Int) ≤ 0; omega, by show (0 : Int) ≤ 20; omega, Or.inl rfl, fun g h0 h4 => ?_, fun k h0 h1 => ?_⟩
  · unfold beg
    split
    · have := hf (2 + g - 2) (by omega) (by omega); omega
    · omega
  · have := hm k h0 h1
    unfold beg
    rw [if_neg (by omega)]
    omega
theorem pn_sto {us br ms fi : Int → Int} {gd g : Int} (h0 : 0 ≤ g) (h1 : g < gd) (hg : gd ≤ 4) : ∀ n : Nat, pn us br ms (beg fi gd) gd n (2 + g) = sto us br ms fi g n
  | 0 => by
    show beg fi gd (2 + g) = fi g
    unfold beg
    rw [if_pos (by omega), show 2 + g - 2 = g by omega]
  | n + 1 => by
    rw [pn_t n h0 h1 hg, sto]
    unfold rr
    rw [pn_sto h0 h1 hg n, pn_0, show (beg fi gd 0 : Int) = 0 from rfl, Int.zero_add]
theorem va_same {q : Nat → Int → Int} {j : Nat} : va_up q j (q j) = q := by
  funext k
  unfold va_up
  split
  · rename_i h; rw [h]
  · rfl
def mPosT (hp : pd_P) (sz : Nat) (q : Nat → Int → Int) (v : Nat → Int) (r : Int) : pd_R := fun v' sz' hp' => v' = some (vi r) ∧ sz' = sz ∧ (∃ f, MW hp' (va_up q 22 f) v) ∧ fr hp hp' 178 200
theorem mPosT_0 {hp : pd_P} {sz : Nat} {q : Nat → Int → Int} {v : Nat → Int} {r : Int} (hM : MW hp q v) : mPosT hp sz q v r (some (vi r)) sz hp := ⟨rfl, rfl, ⟨q 22, by rw [va_same]; exact hM⟩, fr.rf⟩
theorem lR_sto1 (G : pd_G) (sz : Nat) (hp : pd_P) {v : Nat → Int} {τ : Int → Int} {d g : Int} (hR : hp 178 = RO v) {R : pd_R} (hx : ∀  (hp0 : pd_P), hp0 = (va_up hp (193) (ia 90 (blk τ (fun _ => 0) 0 (90)))) → pd_t G mR_storeOf 2 R 21 [some (vr 178), some (vi d), some (vi g), some (vi (90))] [] sz hp0) : ∀ (n : Nat) (i : Int)  (hp0 : pd_P), 0 ≤ i → i + n = 90 → hp0 = (va_up hp (193) (ia 90 (blk τ (fun _ => 0) 0 (i)))) → pd_t G mR_storeOf 2 R 2 [some (vr 178), some (vi d), some (vi g), some (vi (i))] [] sz hp0 := by
  intro n
  induction n with
  | zero =>
    intro i  hp0 hi0 hiE he0
    have hiE2 : 90 = i := by omega
    subst hiE2
    have hx2 := hx  hp0 he0
    have hR := pg_n he0 (by omega) hR
    have h_tried := pg_s he0
    refine pt_iload eR_storeOf_2 rfl ?_
    refine pt_ic eR_storeOf_3 ?_
    refine pt_cge eR_storeOf_5 ⟨by omega, by omega⟩ ⟨by omega, by omega⟩ (fun c5 => ?_) (fun c5 => ?_)
    · exact hx2
    · exfalso; omega
  | succ n ih =>
    intro i  hp0 hi0 hiE he0
    have hR := pg_n he0 (by omega) hR
    have h_tried := pg_s he0
    refine pt_iload eR_storeOf_2 rfl ?_
    refine pt_ic eR_storeOf_3 ?_
    refine pt_cge eR_storeOf_5 ⟨by omega, by omega⟩ ⟨by omega, by omega⟩ (fun c5 => ?_) (fun c5 => ?_)
    · exfalso; omega
    · refine pt_aload eR_storeOf_8 rfl ?_
      refine pt_get eR_storeOf_9 hR rfl ?_
      refine pt_iload eR_storeOf_12 rfl ?_
      refine pt_ic eR_storeOf_13 ?_
      refine pt_iast eR_storeOf_14 h_tried (by omega) (by omega) (by decide) ?_
      refine pt_gen ?_
      intro hp1 ev1
      have hR := pg_n ev1 (by omega) hR
      have h_tried := pg_s ev1
      refine pt_inc3 eR_storeOf_15 rfl ?_
      refine pt_goto eR_storeOf_18 ?_
      have hfin : hp1 = (va_up hp (193) (ia 90 (blk τ (fun _ => 0) 0 ((i + 1))))) := by
        rw [ev1, he0]
        have k2 := blk_s (f := τ) (g := fun _ => 0) (a := 0) (n := i) hi0
        rw [Int.zero_add] at k2
        rw [bx_uu, ← k2]
      exact ih (i + 1)  _ (by omega) (by omega) hfin 
theorem beg_s {fi : Int → Int} {n : Int} (h : 0 ≤ n) : uI (beg fi n) (2 + n) (fi n) = beg fi (n + 1) := by
  funext x
  unfold uI beg
  by_cases h1 : x = 2 + n
  · subst h1; rw [if_pos rfl, if_pos (by omega), show 2 + n - 2 = n by omega]
  · rw [if_neg h1]
    by_cases h2 : 2 ≤ x ∧ x < 2 + n
    · rw [if_pos h2, if_pos (show 2 ≤ x ∧ x < 2 + (n + 1) by omega)]
    · rw [if_neg h2, if_neg (show ¬ (2 ≤ x ∧ x < 2 + (n + 1)) by omega)]
theorem beg_0 (fi : Int → Int) : beg fi 0 = fun _ => 0 := by funext x; unfold beg; rw [if_neg (by omega)]
theorem lR_sto2 (G : pd_G) (sz : Nat) (hp : pd_P) {v : Nat → Int} {gf fi : Int → Int} {d g : Int} (hR : hp 178 = RO v) (h_goods : hp 181 = ia 2 gf) (h_first : hp 182 = ia 8 fi) (ig0 : 0 ≤ gf 0) (ig4 : gf 0 ≤ 4) {R : pd_R} (hx : ∀  (hp0 : pd_P), hp0 = (va_up hp (193) (ia 90 (beg fi (gf 0)))) → pd_t G mR_storeOf 2 R 53 [some (vr 178), some (vi d), some (vi g), some (vi (gf 0))] [] sz hp0) : ∀ (n : Nat) (i : Int)  (hp0 : pd_P), 0 ≤ i → i + n = gf 0 → hp0 = (va_up hp (193) (ia 90 (beg fi (i)))) → pd_t G mR_storeOf 2 R 23 [some (vr 178), some (vi d), some (vi g), some (vi (i))] [] sz hp0 := by
  intro n
  induction n with
  | zero =>
    intro i  hp0 hi0 hiE he0
    have hiE2 : gf 0 = i := by omega
    subst hiE2
    have hx2 := hx  hp0 he0
    have hR := pg_n he0 (by omega) hR
    have h_tried := pg_s he0
    have h_goods := pg_n he0 (by omega) h_goods
    have h_first := pg_n he0 (by omega) h_first
    refine pt_iload eR_storeOf_23 rfl ?_
    refine pt_aload eR_storeOf_24 rfl ?_
    refine pt_get eR_storeOf_25 hR rfl ?_
    refine pt_ic eR_storeOf_28 ?_
    refine pt_iald eR_storeOf_29 h_goods (by omega) (by omega) (by decide) ?_
    refine pt_cge eR_storeOf_30 ⟨by omega, by omega⟩ ⟨by omega, by omega⟩ (fun c30 => ?_) (fun c30 => ?_)
    · exact hx2
    · exfalso; omega
  | succ n ih =>
    intro i  hp0 hi0 hiE he0
    have hR := pg_n he0 (by omega) hR
    have h_tried := pg_s he0
    have h_goods := pg_n he0 (by omega) h_goods
    have h_first := pg_n he0 (by omega) h_first
    refine pt_iload eR_storeOf_23 rfl ?_
    refine pt_aload eR_storeOf_24 rfl ?_
    refine pt_get eR_storeOf_25 hR rfl ?_
    refine pt_ic eR_storeOf_28 ?_
    refine pt_iald eR_storeOf_29 h_goods (by omega) (by omega) (by decide) ?_
    refine pt_cge eR_storeOf_30 ⟨by omega, by omega⟩ ⟨by omega, by omega⟩ (fun c30 => ?_) (fun c30 => ?_)
    · exfalso; omega
    · refine pt_aload eR_storeOf_33 rfl ?_
      refine pt_get eR_storeOf_34 hR rfl ?_
      refine pt_ic eR_storeOf_37 ?_
      refine pt_iload eR_storeOf_38 rfl ?_
      refine pt_iadd eR_storeOf_39 ?_
      refine pt_aload eR_storeOf_40 rfl ?_
      refine pt_get eR_storeOf_41 hR rfl ?_
      refine pt_iload eR_storeOf_44 rfl ?_
      refine pt_iald eR_storeOf_45 h_first (by omega) (by omega) (by decide) ?_
      refine pt_iast eR_storeOf_46 h_tried (by omega) (by omega) (by decide) ?_
      refine pt_gen ?_
      intro hp1 ev1
      have hR := pg_n ev1 (by omega) hR
      have h_tried := pg_s ev1
      have h_goods := pg_n ev1 (by omega) h_goods
      have h_first := pg_n ev1 (by omega) h_first
      refine pt_inc3 eR_storeOf_47 rfl ?_
      refine pt_goto eR_storeOf_50 ?_
      have hfin : hp1 = (va_up hp (193) (ia 90 (beg fi ((i + 1))))) := by
        rw [ev1, he0]
        rw [bx_uu, beg_s hi0]
      exact ih (i + 1)  _ (by omega) (by omega) hfin 
theorem lR_sto3 (G : pd_G) (sz : Nat) (hp : pd_P) {v : Nat → Int} {gf br ms us : Int → Int} (hR : hp 178 = RO v) (h_goods : hp 181 = ia 2 gf) (h_brought : hp 186 = ia 160 br) (h_missed : hp 187 = ia 160 ms) (h_use : hp 183 = ia 8 us) (ig0 : 0 ≤ gf 0) (ig4 : gf 0 ≤ 4) (iB : okB br) (iM : okB ms) (iU : okU (gf 0) us) {σ : Int → Int} {d g : Int} (hd0 : 0 ≤ d) (hd1 : σ 0 + d ≤ 20) (hs : okS ms σ) (hs0 : 0 ≤ σ 0) {R : pd_R} (hx : ∀  (hp0 : pd_P), hp0 = (va_up hp (193) (ia 90 (pn us br ms σ (gf 0) (d : Int).toNat))) → pd_t G mR_storeOf 2 R 75 [some (vr 178), some (vi d), some (vi g), some (vi (d))] [] sz hp0) : ∀ (n : Nat) (i : Int)  (hp0 : pd_P), 0 ≤ i → i + n = d → hp0 = (va_up hp (193) (ia 90 (pn us br ms σ (gf 0) (i : Int).toNat))) → pd_t G mR_storeOf 2 R 55 [some (vr 178), some (vi d), some (vi g), some (vi (i))] [] sz hp0 := by
  intro n
  induction n with
  | zero =>
    intro i  hp0 hi0 hiE he0
    have hiE2 : d = i := by omega
    subst hiE2
    have hx2 := hx  hp0 he0
    have hR := pg_n he0 (by omega) hR
    have h_goods := pg_n he0 (by omega) h_goods
    have h_brought := pg_n he0 (by omega) h_brought
    have h_missed := pg_n he0 (by omega) h_missed
    have h_use := pg_n he0 (by omega) h_use
    have h_tried := pg_s he0
    refine pt_iload eR_storeOf_55 rfl ?_
    refine pt_iload eR_storeOf_56 rfl ?_
    refine pt_cge eR_storeOf_57 ⟨by omega, by omega⟩ ⟨by omega, by omega⟩ (fun c57 => ?_) (fun c57 => ?_)
    · exact hx2
    · exfalso; omega
  | succ n ih =>
    intro i  hp0 hi0 hiE he0
    have hR := pg_n he0 (by omega) hR
    have h_goods := pg_n he0 (by omega) h_goods
    have h_brought := pg_n he0 (by omega) h_brought
    have h_missed := pg_n he0 (by omega) h_missed
    have h_use := pg_n he0 (by omega) h_use
    have h_tried := pg_s he0
    refine pt_iload eR_storeOf_55 rfl ?_
    refine pt_iload eR_storeOf_56 rfl ?_
    refine pt_cge eR_storeOf_57 ⟨by omega, by omega⟩ ⟨by omega, by omega⟩ (fun c57 => ?_) (fun c57 => ?_)
    · exfalso; omega
    · have hok := pn_ok (br := br) ig0 ig4 iM iU hs i.toNat (by omega)
      refine pt_aload eR_storeOf_60 rfl ?_
      refine pt_aload eR_storeOf_61 rfl ?_
      refine pt_get eR_storeOf_62 hR rfl ?_
      refine pt_kv1 eR_storeOf_65 (cR_passOn G sz _ (Or.inr rfl) hR h_goods h_brought h_missed h_use ig0 ig4 iB iM iU (hok).2.2.2.1 (hok).1 (by rw [pn_0]; omega) h_tried) hR rfl (Nat.le_of_ble_eq_true rfl) (by decide) (Nat.le_refl _) (Nat.le_refl _) ?_
      rintro v2 sz2 hpx ⟨rfl, hz9, hx9⟩
      obtain rfl := hz9.symm
      have hR := pg_n hx9 (by decide) hR
      have h_goods := pg_n hx9 (by decide) h_goods
      have h_brought := pg_n hx9 (by decide) h_brought
      have h_missed := pg_n hx9 (by decide) h_missed
      have h_use := pg_n hx9 (by decide) h_use
      have h_tried := pg_s hx9
      refine pt_popi eR_storeOf_68 ?_
      refine pt_inc3 eR_storeOf_69 rfl ?_
      refine pt_goto eR_storeOf_72 ?_
      have hfin : hpx = (va_up hp (193) (ia 90 (pn us br ms σ (gf 0) ((i + 1) : Int).toNat))) := by
        rw [hx9, he0]
        rw [bx_uu, show (i + 1).toNat = i.toNat + 1 by omega]
        rfl
      exact ih (i + 1)  _ (by omega) (by omega) hfin 
theorem cR_storeOf (G : pd_G) (sz : Nat) (hp : pd_P) {v : Nat → Int} {gf br ms us : Int → Int} (hR : hp 178 = RO v) (h_goods : hp 181 = ia 2 gf) (h_brought : hp 186 = ia 160 br) (h_missed : hp 187 = ia 160 ms) (h_use : hp 183 = ia 8 us) (ig0 : 0 ≤ gf 0) (ig4 : gf 0 ≤ 4) (iB : okB br) (iM : okB ms) (iU : okU (gf 0) us) {τ fi : Int → Int} {d g : Int} (h_first : hp 182 = ia 8 fi) (h_tried : hp 193 = ia 90 τ) (hf : ∀ g, 0 ≤ g → g < gf 0 → 0 ≤ fi g ∧ fi g ≤ 60) (hd0 : 0 ≤ d) (hd1 : d ≤ 20) (hg0 : 0 ≤ g) (hg1 : g < gf 0) : pd_c G mR_storeOf 2 [vr 178, vi d, vi g] sz hp (fun v' sz' hp' => v' = some (vi (sto us br ms fi g d.toNat)) ∧ sz' = sz ∧ ∃ f, hp' = va_up hp 193 (ia 90 f)) := by
  refine pd_con kR_storeOf [some (vr 178), some (vi d), some (vi g), none] rfl rfl (Nat.le_of_ble_eq_true rfl) ?_
  refine pt_ic eR_storeOf_0 ?_
  refine pt_istore3 eR_storeOf_1 rfl ?_
  refine lR_sto1 G sz hp (τ := τ) hR (fun hp5 he5 => ?_) 90 0 hp (by omega) (by omega) (by rw [blk_0]; exact pu_self h_tried)
  refine pt_ext (pg_s he5) (g := fun _ => 0) (fun i h1 h2 => by rw [blk_in (by omega) (by omega)]) ?_
  rw [he5, bx_uu]
  refine pt_gen ?_
  intro hp6 ev6
  have hR := pg_n ev6 (by decide) hR
  have h_goods := pg_n ev6 (by decide) h_goods
  have h_first := pg_n ev6 (by decide) h_first
  have h_brought := pg_n ev6 (by decide) h_brought
  have h_missed := pg_n ev6 (by decide) h_missed
  have h_use := pg_n ev6 (by decide) h_use
  have h_tried := pg_s ev6
  refine pt_ic eR_storeOf_21 ?_
  refine pt_istore3 eR_storeOf_22 rfl ?_
  refine lR_sto2 G sz hp6 (fi := fi) hR h_goods h_first ig0 ig4 (fun hp7 he7 => ?_) (gf 0).toNat 0 hp6 (by omega) (by omega) (by rw [beg_0]; exact pu_self h_tried)
  have hR := pg_n he7 (by decide) hR
  have h_goods := pg_n he7 (by decide) h_goods
  have h_brought := pg_n he7 (by decide) h_brought
  have h_missed := pg_n he7 (by decide) h_missed
  have h_use := pg_n he7 (by decide) h_use
  have h_tried := pg_s he7
  refine pt_ic eR_storeOf_53 ?_
  refine pt_istore3 eR_storeOf_54 rfl ?_
  refine lR_sto3 G sz hp7 hR h_goods h_brought h_missed h_use ig0 ig4 iB iM iU (σ := beg fi (gf 0)) hd0 (by show (0 : Int) + d ≤ 20; omega) (beg_ok ig4 iM hf) (Int.le_refl 0) (fun hp8 he8 => ?_) d.toNat 0 hp7 (by omega) (by omega) (pu_self h_tried)
  have hR := pg_n he8 (by decide) hR
  have h_tried := pg_s he8
  refine pt_aload eR_storeOf_75 rfl ?_
  refine pt_get eR_storeOf_76 hR rfl ?_
  refine pt_ic eR_storeOf_79 ?_
  refine pt_iload eR_storeOf_80 rfl ?_
  refine pt_iadd eR_storeOf_81 ?_
  refine pt_iald eR_storeOf_82 h_tried (by omega) (by omega) (by decide) ?_
  refine pt_iret eR_storeOf_83 (Nat.le_refl _) (Nat.le_refl _) ?_
  exact ⟨by rw [pn_sto hg0 hg1 ig4], rfl, _, by rw [he8, he7, ev6, bx_uu, bx_uu]⟩
def rStore (q : Nat → Int → Int) (d g : Int) : Int := if ¬ ((0 ≤ d ∧ d ≤ 20) ∧ (0 ≤ g ∧ g ≤ q 3 0 - 1)) then -1 else sto (q 5) (q 8) (q 9) (q 4) g d.toNat
theorem xR_store (G : pd_G) (sz : Nat) (hp : pd_P) {q : Nat → Int → Int} {v : Nat → Int} (hM : MW hp q v) (hI : IN q v) {d : Int} (j_d : jR d) {g : Int} (j_g : jR g) : pd_c G mR_store 3 [vr 178, vi d, vi g] sz hp (mPosT hp sz q v (rStore q d g)) := by
  refine pd_con kR_store [some (vr 178), some (vi d), some (vi g)] rfl rfl (Nat.le_of_ble_eq_true rfl) ?_
  obtain ⟨⟨ig0, ig4⟩, ⟨id0, id1, id2, id3⟩, iB, iM, iU, iF, iS, iP, iI, ⟨is0, is4, isx⟩, ⟨im0, im4, imx⟩, it0, it1⟩ := hI
  have k_d := j_d
  unfold jR at k_d
  have k_g := j_g
  unfold jR at k_g
  have hR := hM.1
  have h_goods := hM.w_goods
  have h_brought := hM.w_brought
  have h_missed := hM.w_missed
  have h_use := hM.w_use
  have h_tried := hM.w_tried
  have h_first := hM.w_first
  refine pt_iload eR_store_0 rfl ?_
  refine pt_ic eR_store_1 ?_
  refine pt_ic eR_store_2 ?_
  refine pt_ks3r eR_store_4 (cR_in G sz _ (by unfold jR at *; omega) (by unfold jR at *; omega) (by unfold jR at *; omega)) (Nat.le_of_ble_eq_true rfl) (by decide) (Nat.le_refl _) (Nat.le_refl _) ?_
  refine pt_zeq eR_store_7 (pwi_j _ _ _) (fun c7 => ?_) (fun c7 => ?_)
  · refine pt_ic eR_store_27 ?_
    refine pt_iret eR_store_28 (Nat.le_refl _) (Nat.le_refl _) ?_
    first
    | (have c7 := pwi_0 c7
       rw [show rStore q d g = -1 by unfold rStore; rw [if_pos (fun z => c7 z.1)]]
       exact mPosT_0 hM)
    | (have c15 := pwi_0 c15
       rw [show rStore q d g = -1 by unfold rStore; rw [if_pos (fun z => c15 z.2)]]
       exact mPosT_0 hM)
    | (rw [show rStore q d g = _ by unfold rStore; rw [if_neg (fun z => z ⟨c7, c15⟩)]]
       exact ⟨rfl, rfl, ⟨f9, by rw [hx9]; exact hM.s_tried f9⟩, fr.rf.up hx9 (by decide) (by decide)⟩)
  · have c7 := pwi_1 c7
    refine pt_aload eR_store_10 rfl ?_
    refine pt_iload eR_store_11 rfl ?_
    refine pt_kv1r eR_store_12 (cR_isGood G sz _ hR h_goods j_g ig0 ig4) hR rfl (Nat.le_of_ble_eq_true rfl) (by decide) (Nat.le_refl _) (Nat.le_refl _) ?_
    refine pt_zeq eR_store_15 (pwi_j _ _ _) (fun c15 => ?_) (fun c15 => ?_)
    · refine pt_ic eR_store_27 ?_
      refine pt_iret eR_store_28 (Nat.le_refl _) (Nat.le_refl _) ?_
      first
      | (have c7 := pwi_0 c7
         rw [show rStore q d g = -1 by unfold rStore; rw [if_pos (fun z => c7 z.1)]]
         exact mPosT_0 hM)
      | (have c15 := pwi_0 c15
         rw [show rStore q d g = -1 by unfold rStore; rw [if_pos (fun z => c15 z.2)]]
         exact mPosT_0 hM)
      | (rw [show rStore q d g = _ by unfold rStore; rw [if_neg (fun z => z ⟨c7, c15⟩)]]
         exact ⟨rfl, rfl, ⟨f9, by rw [hx9]; exact hM.s_tried f9⟩, fr.rf.up hx9 (by decide) (by decide)⟩)
    · have c15 := pwi_1 c15
      refine pt_aload eR_store_18 rfl ?_
      refine pt_iload eR_store_19 rfl ?_
      refine pt_iload eR_store_20 rfl ?_
      refine pt_kv2 eR_store_21 (cR_storeOf G sz _ hR h_goods h_brought h_missed h_use ig0 ig4 iB iM iU h_first h_tried (fun g h0 h1 => (iF g h0 h1).1) (by omega) (by omega) (by omega) (by omega)) hR rfl (Nat.le_of_ble_eq_true rfl) (by decide) (Nat.le_refl _) (Nat.le_refl _) ?_
      rintro v2 sz2 hpx ⟨rfl, hz9, f9, hx9⟩
      obtain rfl := hz9.symm
      refine pt_goto eR_store_24 ?_
      refine pt_iret eR_store_28 (Nat.le_refl _) (Nat.le_refl _) ?_
      first
      | (have c7 := pwi_0 c7
         rw [show rStore q d g = -1 by unfold rStore; rw [if_pos (fun z => c7 z.1)]]
         exact mPosT_0 hM)
      | (have c15 := pwi_0 c15
         rw [show rStore q d g = -1 by unfold rStore; rw [if_pos (fun z => c15 z.2)]]
         exact mPosT_0 hM)
      | (rw [show rStore q d g = _ by unfold rStore; rw [if_neg (fun z => z ⟨c7, c15⟩)]]
         exact ⟨rfl, rfl, ⟨f9, by rw [hx9]; exact hM.s_tried f9⟩, fr.rf.up hx9 (by decide) (by decide)⟩)
theorem xD_store (G : pd_G) (sz : Nat) (hp : pd_P) {to dr : Nat} {q : Nat → Int → Int} {v : Nat → Int} (hC : CW hp to dr q v) (hI : IN q v) {d : Int} (j_d : jR d) {g : Int} (j_g : jR g) : pd_c G mD_store 2 [vr 1, vi d, vi g] sz hp (cPost hp sz ((q, v, rStore q d g))) := by
  refine pd_con kD_store [some (vr 1), some (vi d), some (vi g)] rfl rfl (Nat.le_of_ble_eq_true rfl) ?_
  obtain ⟨⟨ig0, ig4⟩, ⟨id0, id1, id2, id3⟩, iB, iM, iU, iF, iS, iP, iI, ⟨is0, is4, isx⟩, ⟨im0, im4, imx⟩, it0, it1⟩ := hI
  have k_d := j_d
  unfold jR at k_d
  have k_g := j_g
  unfold jR at k_g
  have hC0 := hC
  obtain ⟨hto, hDo, hTx, hHs, hHd, hLf, hI0, hI1, hGo, hPl⟩ := hC
  have hDo2 := hDo
  obtain ⟨hD, ⟨imf, hIm, him0, him1⟩, hKp, hSg, hSt, hGd, hGt⟩ := hDo2
  have hHs2 := hHs
  obtain ⟨fi, us, we, wo, stt, hHo, hag, hstt⟩ := hHs2
  have hHo2 := hHo
  obtain ⟨hH, hH1, hH2, hH3, hH4, hH5, hH6, hH7⟩ := hHo2
  refine pt_iload eD_store_0 rfl ?_
  refine pt_ic eD_store_1 ?_
  refine pt_ic eD_store_2 ?_
  refine pt_ks3r eD_store_4 (cD_within G sz _ (by unfold jR at *; omega) (by unfold jR at *; omega) (by unfold jR at *; omega)) (Nat.le_of_ble_eq_true rfl) (by decide) (Nat.le_refl _) (Nat.le_refl _) ?_
  refine pt_zeq eD_store_7 (pwi_j _ _ _) (fun c7 => ?_) (fun c7 => ?_)
  · refine pt_ic eD_store_21 ?_
    refine pt_iret eD_store_22 (Nat.le_refl _) (Nat.le_refl _) ?_
    first
    | (have c7 := pwi_0 c7
       rw [show rStore q d g = -1 by unfold rStore; rw [if_pos (fun z => c7 z.1)]]
       exact ⟨rfl, rfl, ⟨to, dr, hC0⟩, fr.rf⟩)
    | (have c18 := pwi_0 c18
       rw [show rStore q d g = -1 by unfold rStore; rw [if_pos (fun z => c18 z.2)]]
       exact ⟨rfl, rfl, ⟨to, dr, hC0⟩, fr.rf⟩)
  · have c7 := pwi_1 c7
    refine pt_aload eD_store_10 rfl ?_
    refine pt_get eD_store_11 hD rfl ?_
    refine pt_iload eD_store_14 rfl ?_
    refine pt_kv1r eD_store_15 (cH_has G sz _ hH j_g ig0 ig4) hH rfl (Nat.le_of_ble_eq_true rfl) (by decide) (Nat.le_refl _) (Nat.le_refl _) ?_
    refine pt_zne eD_store_18 (pwi_j _ _ _) (fun c18 => ?_) (fun c18 => ?_)
    · have c18 := pwi_1 c18
      refine pt_aload eD_store_23 rfl ?_
      refine pt_get eD_store_24 hD rfl ?_
      refine pt_get eD_store_27 hH rfl ?_
      refine pt_iload eD_store_30 rfl ?_
      refine pt_ic eD_store_31 ?_
      refine pt_imul eD_store_32 ?_
      refine pt_iload eD_store_33 rfl ?_
      refine pt_iadd eD_store_34 ?_
      refine pt_iald eD_store_35 hH7 (by omega) (by omega) (by decide) ?_
      refine pt_iret eD_store_36 (Nat.le_refl _) (Nat.le_refl _) ?_
      rw [show rStore q d g = _ by unfold rStore; rw [if_neg (fun z => z ⟨c7, c18⟩)]]
      have h9 := hstt d.toNat g (by omega) c18.1 (by omega)
      rw [Int.toNat_of_nonneg c7.1, show 4 * d + g = d * 4 + g by omega] at h9
      rw [h9]
      exact ⟨rfl, rfl, ⟨to, dr, hC0⟩, fr.rf⟩
    · refine pt_ic eD_store_21 ?_
      refine pt_iret eD_store_22 (Nat.le_refl _) (Nat.le_refl _) ?_
      first
      | (have c7 := pwi_0 c7
         rw [show rStore q d g = -1 by unfold rStore; rw [if_pos (fun z => c7 z.1)]]
         exact ⟨rfl, rfl, ⟨to, dr, hC0⟩, fr.rf⟩)
      | (have c18 := pwi_0 c18
         rw [show rStore q d g = -1 by unfold rStore; rw [if_pos (fun z => c18 z.2)]]
         exact ⟨rfl, rfl, ⟨to, dr, hC0⟩, fr.rf⟩)
def rHungry (q : Nat → Int → Int) (g n : Int) : Int := if ¬ ((0 ≤ g ∧ g ≤ q 3 0 - 1) ∧ (1 ≤ n ∧ n ≤ 20)) then -1 else pn (q 5) (q 8) (q 9) (q 17) (q 3 0) (min n (20 - q 17 0)).toNat (6 + g) - q 17 (6 + g)
theorem lR_hun (G : pd_G) (sz : Nat) (hp : pd_P) {v : Nat → Int} {gf br ms us : Int → Int} (hR : hp 178 = RO v) (h_goods : hp 181 = ia 2 gf) (h_brought : hp 186 = ia 160 br) (h_missed : hp 187 = ia 160 ms) (h_use : hp 183 = ia 8 us) (ig0 : 0 ≤ gf 0) (ig4 : gf 0 ≤ 4) (iB : okB br) (iM : okB ms) (iU : okU (gf 0) us) {σ : Int → Int} {g nn m0 : Int} (hm0 : m0 = min nn (20 - σ 0)) (hn0 : 1 ≤ nn) (hn1 : nn ≤ 20) (hs : okS ms σ) (hs0 : 0 ≤ σ 0) (hs1 : σ 0 ≤ 20) {R : pd_R} (hx : ∀  (hp0 : pd_P), hp0 = (va_up hp (193) (ia 90 (pn us br ms σ (gf 0) (m0 : Int).toNat))) → pd_t G mR_hungry 2 R 57 [some (vr 178), some (vi g), some (vi nn), some (vi (m0))] [] sz hp0) : ∀ (n : Nat) (i : Int)  (hp0 : pd_P), 0 ≤ i → i + n = m0 → hp0 = (va_up hp (193) (ia 90 (pn us br ms σ (gf 0) (i : Int).toNat))) → pd_t G mR_hungry 2 R 26 [some (vr 178), some (vi g), some (vi nn), some (vi (i))] [] sz hp0 := by
  intro n
  induction n with
  | zero =>
    intro i  hp0 hi0 hiE he0
    have hiE2 : m0 = i := by omega
    subst hiE2
    have hx2 := hx  hp0 he0
    have hR := pg_n he0 (by omega) hR
    have h_goods := pg_n he0 (by omega) h_goods
    have h_brought := pg_n he0 (by omega) h_brought
    have h_missed := pg_n he0 (by omega) h_missed
    have h_use := pg_n he0 (by omega) h_use
    have h_tried := pg_s he0
    refine pt_iload eR_hungry_26 rfl ?_
    refine pt_iload eR_hungry_27 rfl ?_
    refine pt_cge eR_hungry_28 ⟨by omega, by omega⟩ ⟨by omega, by omega⟩ (fun c28 => ?_) (fun c28 => ?_)
    · exact hx2
    · refine pt_aload eR_hungry_31 rfl ?_
      refine pt_get eR_hungry_32 hR rfl ?_
      refine pt_ic eR_hungry_35 ?_
      refine pt_iald eR_hungry_36 h_tried (by omega) (by omega) (by decide) ?_
      rw [pn_0]
      refine pt_ic eR_hungry_37 ?_
      refine pt_cge eR_hungry_39 ⟨by have := hs.1; omega, by have := hs.2.1; omega⟩ ⟨by decide, by decide⟩ (fun c39 => ?_) (fun c39 => ?_)
      · exact hx2
      · exfalso; omega
  | succ n ih =>
    intro i  hp0 hi0 hiE he0
    have hR := pg_n he0 (by omega) hR
    have h_goods := pg_n he0 (by omega) h_goods
    have h_brought := pg_n he0 (by omega) h_brought
    have h_missed := pg_n he0 (by omega) h_missed
    have h_use := pg_n he0 (by omega) h_use
    have h_tried := pg_s he0
    refine pt_iload eR_hungry_26 rfl ?_
    refine pt_iload eR_hungry_27 rfl ?_
    refine pt_cge eR_hungry_28 ⟨by omega, by omega⟩ ⟨by omega, by omega⟩ (fun c28 => ?_) (fun c28 => ?_)
    · exfalso; omega
    · refine pt_aload eR_hungry_31 rfl ?_
      refine pt_get eR_hungry_32 hR rfl ?_
      refine pt_ic eR_hungry_35 ?_
      refine pt_iald eR_hungry_36 h_tried (by omega) (by omega) (by decide) ?_
      rw [pn_0]
      refine pt_ic eR_hungry_37 ?_
      refine pt_cge eR_hungry_39 ⟨by have := hs.1; omega, by have := hs.2.1; omega⟩ ⟨by decide, by decide⟩ (fun c39 => ?_) (fun c39 => ?_)
      · exfalso; omega
      · have hok := pn_ok (br := br) ig0 ig4 iM iU hs i.toNat (by omega)
        refine pt_aload eR_hungry_42 rfl ?_
        refine pt_aload eR_hungry_43 rfl ?_
        refine pt_get eR_hungry_44 hR rfl ?_
        refine pt_kv1 eR_hungry_47 (cR_passOn G sz _ (Or.inr rfl) hR h_goods h_brought h_missed h_use ig0 ig4 iB iM iU (hok).2.2.2.1 (hok).1 (by rw [pn_0]; omega) h_tried) hR rfl (Nat.le_of_ble_eq_true rfl) (by decide) (Nat.le_refl _) (Nat.le_refl _) ?_
        rintro v2 sz2 hpx ⟨rfl, hz9, hx9⟩
        obtain rfl := hz9.symm
        have hR := pg_n hx9 (by decide) hR
        have h_goods := pg_n hx9 (by decide) h_goods
        have h_brought := pg_n hx9 (by decide) h_brought
        have h_missed := pg_n hx9 (by decide) h_missed
        have h_use := pg_n hx9 (by decide) h_use
        have h_tried := pg_s hx9
        refine pt_popi eR_hungry_50 ?_
        refine pt_inc3 eR_hungry_51 rfl ?_
        refine pt_goto eR_hungry_54 ?_
        have hfin : hpx = (va_up hp (193) (ia 90 (pn us br ms σ (gf 0) ((i + 1) : Int).toNat))) := by
          rw [hx9, he0]
          rw [bx_uu, show (i + 1).toNat = i.toNat + 1 by omega]
          rfl
        exact ih (i + 1)  _ (by omega) (by omega) hfin 
theorem xR_hungry (G : pd_G) (sz : Nat) (hp : pd_P) {q : Nat → Int → Int} {v : Nat → Int} (hM : MW hp q v) (hI : IN q v) {g : Int} (j_g : jR g) {n : Int} (j_n : jR n) : pd_c G mR_hungry 2 [vr 178, vi g, vi n] sz hp (mPosT hp sz q v (rHungry q g n)) := by
  refine pd_con kR_hungry [some (vr 178), some (vi g), some (vi n), none] rfl rfl (Nat.le_of_ble_eq_true rfl) ?_
  obtain ⟨⟨ig0, ig4⟩, ⟨id0, id1, id2, id3⟩, iB, iM, iU, iF, iS, iP, iI, ⟨is0, is4, isx⟩, ⟨im0, im4, imx⟩, it0, it1⟩ := hI
  have k_g := j_g
  unfold jR at k_g
  have k_n := j_n
  unfold jR at k_n
  have hR := hM.1
  have h_goods := hM.w_goods
  have h_now := hM.w_now
  have h_tried := hM.w_tried
  have i0 := iS.1
  have i20 := iS.2.1
  refine pt_aload eR_hungry_0 rfl ?_
  refine pt_iload eR_hungry_1 rfl ?_
  refine pt_kv1r eR_hungry_2 (cR_isGood G sz _ hR h_goods j_g ig0 ig4) hR rfl (Nat.le_of_ble_eq_true rfl) (by decide) (Nat.le_refl _) (Nat.le_refl _) ?_
  refine pt_zeq eR_hungry_5 (pwi_j _ _ _) (fun c5 => ?_) (fun c5 => ?_)
  · refine pt_ic eR_hungry_18 ?_
    refine pt_iret eR_hungry_19 (Nat.le_refl _) (Nat.le_refl _) ?_
    first
    | (have c5 := pwi_0 c5
       rw [show rHungry q g n = -1 by unfold rHungry; rw [if_pos (fun z => c5 z.1)]]
       exact mPosT_0 hM)
    | (have c15 := pwi_0 c15
       rw [show rHungry q g n = -1 by unfold rHungry; rw [if_pos (fun z => c15 z.2)]]
       exact mPosT_0 hM)
  · have c5 := pwi_1 c5
    refine pt_iload eR_hungry_8 rfl ?_
    refine pt_ic eR_hungry_9 ?_
    refine pt_ic eR_hungry_10 ?_
    refine pt_ks3r eR_hungry_12 (cR_in G sz _ (by unfold jR at *; omega) (by unfold jR at *; omega) (by unfold jR at *; omega)) (Nat.le_of_ble_eq_true rfl) (by decide) (Nat.le_refl _) (Nat.le_refl _) ?_
    refine pt_zne eR_hungry_15 (pwi_j _ _ _) (fun c15 => ?_) (fun c15 => ?_)
    · have c15 := pwi_1 c15
      refine pt_aload eR_hungry_20 rfl ?_
      refine pt_kv0 eR_hungry_21 (cR_take G sz _ hR h_now h_tried) hR rfl (Nat.le_of_ble_eq_true rfl) (by decide) (Nat.le_refl _) (Nat.le_refl _) ?_
      rintro v2 sz2 hpx ⟨rfl, hz9, hx9⟩
      obtain rfl := hz9.symm
      have hM1 : MW hpx (va_up q 22 (q 17)) v := by rw [hx9]; exact hM.s_tried (q 17)
      have hR := hM1.1
      have h_now : hpx 188 = ia 90 (q 17) := hM1.w_now
      have h_goods : hpx 181 = ia 2 (q 3) := hM1.w_goods
      have h_brought : hpx 186 = ia 160 (q 8) := hM1.w_brought
      have h_missed : hpx 187 = ia 160 (q 9) := hM1.w_missed
      have h_use : hpx 183 = ia 8 (q 5) := hM1.w_use
      have h_tried : hpx 193 = ia 90 (q 17) := hM1.w_tried
      refine pt_ic eR_hungry_24 ?_
      refine pt_istore3 eR_hungry_25 rfl ?_
      refine lR_hun G sz hpx hR h_goods h_brought h_missed h_use ig0 ig4 iB iM iU (σ := q 17) rfl c15.1 c15.2 iS iS.1 iS.2.1 (fun hp8 he8 => ?_) (min n (20 - q 17 0)).toNat 0 hpx (by omega) (by omega) (pu_self h_tried)
      have hM2 := hM1.s_tried (pn (q 5) (q 8) (q 9) (q 17) (q 3 0) (min n (20 - q 17 0)).toNat)
      rw [← he8] at hM2
      have hR := hM2.1
      have h_tried : hp8 193 = ia 90 (pn (q 5) (q 8) (q 9) (q 17) (q 3 0) (min n (20 - q 17 0)).toNat) := hM2.w_tried
      have h_now : hp8 188 = ia 90 (q 17) := hM2.w_now
      refine pt_aload eR_hungry_57 rfl ?_
      refine pt_get eR_hungry_58 hR rfl ?_
      refine pt_ic eR_hungry_61 ?_
      refine pt_iload eR_hungry_63 rfl ?_
      refine pt_iadd eR_hungry_64 ?_
      refine pt_iald eR_hungry_65 h_tried (by omega) (by omega) (by decide) ?_
      refine pt_aload eR_hungry_66 rfl ?_
      refine pt_get eR_hungry_67 hR rfl ?_
      refine pt_ic eR_hungry_70 ?_
      refine pt_iload eR_hungry_72 rfl ?_
      refine pt_iadd eR_hungry_73 ?_
      refine pt_iald eR_hungry_74 h_now (by omega) (by omega) (by decide) ?_
      refine pt_isub eR_hungry_75 ?_
      refine pt_iret eR_hungry_76 (Nat.le_refl _) (Nat.le_refl _) ?_
      rw [show rHungry q g n = _ by unfold rHungry; rw [if_neg (fun z => z ⟨c5, c15⟩)]]
      refine ⟨rfl, rfl, ⟨pn (q 5) (q 8) (q 9) (q 17) (q 3 0) (min n (20 - q 17 0)).toNat, ?_⟩, (fr.rf.up hx9 (by decide) (by decide)).up he8 (by decide) (by decide)⟩
      · have e9 : va_up (va_up q 22 (q 17)) 22 (pn (q 5) (q 8) (q 9) (q 17) (q 3 0) (min n (20 - q 17 0)).toNat) = va_up q 22 (pn (q 5) (q 8) (q 9) (q 17) (q 3 0) (min n (20 - q 17 0)).toNat) := bx_uu _ _ _ _
        rw [e9] at hM2
        exact hM2
    · refine pt_ic eR_hungry_18 ?_
      refine pt_iret eR_hungry_19 (Nat.le_refl _) (Nat.le_refl _) ?_
      first
      | (have c5 := pwi_0 c5
         rw [show rHungry q g n = -1 by unfold rHungry; rw [if_pos (fun z => c5 z.1)]]
         exact mPosT_0 hM)
      | (have c15 := pwi_0 c15
         rw [show rHungry q g n = -1 by unfold rHungry; rw [if_pos (fun z => c15 z.2)]]
         exact mPosT_0 hM)
theorem lD_hun (G : pd_G) (sz : Nat) (hp : pd_P) {to dr : Nat} {se ga gd ev bk : Int} {br ms us uq σ : Int → Int} (hD : hp 1 = DO to dr se ga) (hH : hp to = HO to gd ev bk) (hH5 : hp (to + 5) = ia 80 br) (hH6 : hp (to + 6) = ia 80 ms) (hH2 : hp (to + 2) = ia 4 us) (hg0 : 0 ≤ gd) (hg4 : gd ≤ 4) (hb : okB br) (hm : okB ms) (hu : okU gd uq) (hs : okS ms σ) (hs0 : 0 ≤ σ 0) (hug : ∀ g, 0 ≤ g → g < gd → us g = uq g) {g nn e0 : Int} (h0 : 0 ≤ g) (h1 : g < gd) (he1 : e0 ≤ 20) {R : pd_R} (hx : ∀  (hp0 : pd_P), hp0 = hp → pd_t G mD_hungry 2 R 105 [some (vr 1), some (vi g), some (vi nn), some (vi (pn uq br ms σ gd (e0 - σ 0).toNat (2 + g))), some (vi e0), some (vi (pn uq br ms σ gd (e0 - σ 0).toNat (6 + g) - σ (6 + g))), some (vi (e0))] [] sz hp0) : ∀ (n : Nat) (i : Int)  (hp0 : pd_P), σ 0 ≤ i → i + n = e0 → hp0 = hp → pd_t G mD_hungry 2 R 70 [some (vr 1), some (vi g), some (vi nn), some (vi (pn uq br ms σ gd (i - σ 0).toNat (2 + g))), some (vi e0), some (vi (pn uq br ms σ gd (i - σ 0).toNat (6 + g) - σ (6 + g))), some (vi (i))] [] sz hp0 := by
  intro n
  induction n with
  | zero =>
    intro i  hp0 hi0 hiE he0
    have hiE2 : e0 = i := by omega
    subst hiE2
    have hx2 := hx  hp0 he0
    rw [he0] at hx2
    rw [he0]
    refine pt_iload eD_hungry_70 rfl ?_
    refine pt_iload eD_hungry_72 rfl ?_
    refine pt_cge eD_hungry_74 ⟨by omega, by omega⟩ ⟨by omega, by omega⟩ (fun c74 => ?_) (fun c74 => ?_)
    · exact hx2
    · exfalso; omega
  | succ n ih =>
    intro i  hp0 hi0 hiE he0
    rw [he0]
    refine pt_iload eD_hungry_70 rfl ?_
    refine pt_iload eD_hungry_72 rfl ?_
    refine pt_cge eD_hungry_74 ⟨by omega, by omega⟩ ⟨by omega, by omega⟩ (fun c74 => ?_) (fun c74 => ?_)
    · exfalso; omega
    · have hok := pn_ok (br := br) hg0 hg4 hm hu hs (i - σ 0).toNat (by omega)
      have hT1 := hok.2.2.2.1 g h0 (by omega)
      have hb1 := hb (4 * i + g) (by omega) (by omega)
      have hm1 := hm (4 * i + g) (by omega) (by omega)
      have hu1 := hu g h0 h1
      refine pt_aload eD_hungry_77 rfl ?_
      refine pt_get eD_hungry_78 hD rfl ?_
      refine pt_iload eD_hungry_81 rfl ?_
      refine pt_iload eD_hungry_82 rfl ?_
      refine pt_iload eD_hungry_84 rfl ?_
      refine pt_kv3r eD_hungry_85 (cH_rest G sz _ hH hH5 hH6 hH2 hT1.1 hT1.2 (by omega) (by omega) h0 (by omega) hb1 hm1 (by rw [hug g h0 h1]; exact hu1)) hH rfl (Nat.le_of_ble_eq_true rfl) (by decide) (Nat.le_refl _) (Nat.le_refl _) ?_
      have hrv : rsf (pn uq br ms σ gd (i - σ 0).toNat (2 + g)) (br (4 * i + g)) (ms (4 * i + g)) (us g) = rr uq br ms (pn uq br ms σ gd (i - σ 0).toNat) g := by
        unfold rr
        rw [pn_0, hug g h0 h1, show σ 0 + ((i - σ 0).toNat : Int) = i by omega]
      rw [hrv]
      have ht := pn_t (us := uq) (br := br) (ms := ms) (σ := σ) (i - σ 0).toNat h0 h1 hg4
      have hl := pn_l (us := uq) (br := br) (ms := ms) (σ := σ) (i - σ 0).toNat h0 h1 hg4
      rw [show (i - σ 0).toNat + 1 = (i + 1 - σ 0).toNat by omega] at ht hl
      generalize hrv2 : (if rr uq br ms (pn uq br ms σ gd (i - σ 0).toNat) g < 0 then -1 else rr uq br ms (pn uq br ms σ gd (i - σ 0).toNat) g) = rv
      have hrv3 : (rr uq br ms (pn uq br ms σ gd (i - σ 0).toNat) g < 0 ∧ rv = -1) ∨ (0 ≤ rr uq br ms (pn uq br ms σ gd (i - σ 0).toNat) g ∧ rv = rr uq br ms (pn uq br ms σ gd (i - σ 0).toNat) g) := by
        rw [← hrv2]
        split <;> omega
      have hrv4 : -1 ≤ rv ∧ rv ≤ 999 := by
        have hrr : rr uq br ms (pn uq br ms σ gd (i - σ 0).toNat) g = max 0 (min (pn uq br ms σ gd (i - σ 0).toNat (2 + g) + br (4 * i + g)) 999 - ms (4 * i + g)) - uq g := by rw [← hrv, hug g h0 h1]; rfl
        omega
      refine pt_istore3 eD_hungry_88 rfl ?_
      refine pt_iload eD_hungry_89 rfl ?_
      refine pt_ic eD_hungry_90 ?_
      refine pt_cne eD_hungry_91 ⟨by omega, by omega⟩ ⟨by omega, by omega⟩ (fun c91 => ?_) (fun c91 => ?_)
      · refine pt_inc6 eD_hungry_99 rfl ?_
        refine pt_goto eD_hungry_102 ?_
        first
        | (have e1 : pn uq br ms σ gd (i + 1 - σ 0).toNat (2 + g) = 0 := by omega
           have e2 : pn uq br ms σ gd (i + 1 - σ 0).toNat (6 + g) - σ (6 + g) = pn uq br ms σ gd (i - σ 0).toNat (6 + g) - σ (6 + g) + 1 := by
             rw [if_pos (by omega)] at hl
             omega
           refine pt_lve [some (vr 1), some (vi g), some (vi nn), some (vi (pn uq br ms σ gd (i + 1 - σ 0).toNat (2 + g))), some (vi e0), some (vi (pn uq br ms σ gd (i + 1 - σ 0).toNat (6 + g) - σ (6 + g))), some (vi (i + 1))] (by rw [e1, e2]) ?_)
        | (have e1 : pn uq br ms σ gd (i + 1 - σ 0).toNat (2 + g) = rv := by omega
           have e2 : pn uq br ms σ gd (i + 1 - σ 0).toNat (6 + g) - σ (6 + g) = pn uq br ms σ gd (i - σ 0).toNat (6 + g) - σ (6 + g) := by
             rw [if_neg (by omega)] at hl
             omega
           refine pt_lve [some (vr 1), some (vi g), some (vi nn), some (vi (pn uq br ms σ gd (i + 1 - σ 0).toNat (2 + g))), some (vi e0), some (vi (pn uq br ms σ gd (i + 1 - σ 0).toNat (6 + g) - σ (6 + g))), some (vi (i + 1))] (by rw [e1, e2]) ?_)
        exact ih (i + 1)  hp (by omega) (by omega) rfl 
      · refine pt_inc5 eD_hungry_94 rfl ?_
        refine pt_ic eD_hungry_97 ?_
        refine pt_istore3 eD_hungry_98 rfl ?_
        refine pt_inc6 eD_hungry_99 rfl ?_
        refine pt_goto eD_hungry_102 ?_
        first
        | (have e1 : pn uq br ms σ gd (i + 1 - σ 0).toNat (2 + g) = 0 := by omega
           have e2 : pn uq br ms σ gd (i + 1 - σ 0).toNat (6 + g) - σ (6 + g) = pn uq br ms σ gd (i - σ 0).toNat (6 + g) - σ (6 + g) + 1 := by
             rw [if_pos (by omega)] at hl
             omega
           refine pt_lve [some (vr 1), some (vi g), some (vi nn), some (vi (pn uq br ms σ gd (i + 1 - σ 0).toNat (2 + g))), some (vi e0), some (vi (pn uq br ms σ gd (i + 1 - σ 0).toNat (6 + g) - σ (6 + g))), some (vi (i + 1))] (by rw [e1, e2]) ?_)
        | (have e1 : pn uq br ms σ gd (i + 1 - σ 0).toNat (2 + g) = rv := by omega
           have e2 : pn uq br ms σ gd (i + 1 - σ 0).toNat (6 + g) - σ (6 + g) = pn uq br ms σ gd (i - σ 0).toNat (6 + g) - σ (6 + g) := by
             rw [if_neg (by omega)] at hl
             omega
           refine pt_lve [some (vr 1), some (vi g), some (vi nn), some (vi (pn uq br ms σ gd (i + 1 - σ 0).toNat (2 + g))), some (vi e0), some (vi (pn uq br ms σ gd (i + 1 - σ 0).toNat (6 + g) - σ (6 + g))), some (vi (i + 1))] (by rw [e1, e2]) ?_)
        exact ih (i + 1)  hp (by omega) (by omega) rfl 
theorem xD_hungry (G : pd_G) (sz : Nat) (hp : pd_P) {to dr : Nat} {q : Nat → Int → Int} {v : Nat → Int} (hC : CW hp to dr q v) (hI : IN q v) {g : Int} (j_g : jR g) {n : Int} (j_n : jR n) : pd_c G mD_hungry 2 [vr 1, vi g, vi n] sz hp (cPost hp sz ((q, v, rHungry q g n))) := by
  refine pd_con kD_hungry [some (vr 1), some (vi g), some (vi n), none, none, none, none] rfl rfl (Nat.le_of_ble_eq_true rfl) ?_
  obtain ⟨⟨ig0, ig4⟩, ⟨id0, id1, id2, id3⟩, iB, iM, iU, iF, iS, iP, iI, ⟨is0, is4, isx⟩, ⟨im0, im4, imx⟩, it0, it1⟩ := hI
  have k_g := j_g
  unfold jR at k_g
  have k_n := j_n
  unfold jR at k_n
  have hC0 := hC
  obtain ⟨hto, hDo, hTx, hHs, hHd, hLf, hI0, hI1, hGo, hPl⟩ := hC
  have hDo2 := hDo
  obtain ⟨hD, ⟨imf, hIm, him0, him1⟩, hKp, hSg, hSt, hGd, hGt⟩ := hDo2
  have hHs2 := hHs
  obtain ⟨fi, us, we, wo, stt, hHo, hag, hstt⟩ := hHs2
  have hHo2 := hHo
  obtain ⟨hH, hH1, hH2, hH3, hH4, hH5, hH6, hH7⟩ := hHo2
  have hLf2 := hLf
  obtain ⟨Q, hLi, hQ⟩ := hLf2
  have hL := hLi.1
  obtain ⟨hN, hNt, hNl, hNk⟩ := hLi.2.1
  refine pt_aload eD_hungry_0 rfl ?_
  refine pt_get eD_hungry_1 hD rfl ?_
  refine pt_iload eD_hungry_4 rfl ?_
  refine pt_kv1r eD_hungry_5 (cH_has G sz _ hH j_g ig0 ig4) hH rfl (Nat.le_of_ble_eq_true rfl) (by decide) (Nat.le_refl _) (Nat.le_refl _) ?_
  refine pt_zeq eD_hungry_8 (pwi_j _ _ _) (fun c8 => ?_) (fun c8 => ?_)
  · refine pt_ic eD_hungry_21 ?_
    refine pt_iret eD_hungry_22 (Nat.le_refl _) (Nat.le_refl _) ?_
    first
    | (have c8 := pwi_0 c8
       rw [show rHungry q g n = -1 by unfold rHungry; rw [if_pos (fun z => c8 z.1)]]
       exact ⟨rfl, rfl, ⟨to, dr, hC0⟩, fr.rf⟩)
    | (have c18 := pwi_0 c18
       rw [show rHungry q g n = -1 by unfold rHungry; rw [if_pos (fun z => c18 z.2)]]
       exact ⟨rfl, rfl, ⟨to, dr, hC0⟩, fr.rf⟩)
  · have c8 := pwi_1 c8
    refine pt_iload eD_hungry_11 rfl ?_
    refine pt_ic eD_hungry_12 ?_
    refine pt_ic eD_hungry_13 ?_
    refine pt_ks3r eD_hungry_15 (cD_within G sz _ (by unfold jR at *; omega) (by unfold jR at *; omega) (by unfold jR at *; omega)) (Nat.le_of_ble_eq_true rfl) (by decide) (Nat.le_refl _) (Nat.le_refl _) ?_
    refine pt_zne eD_hungry_18 (pwi_j _ _ _) (fun c18 => ?_) (fun c18 => ?_)
    · have c18 := pwi_1 c18
      have i0 := iS.1
      have i20 := iS.2.1
      refine pt_aload eD_hungry_23 rfl ?_
      refine pt_get eD_hungry_24 hD rfl ?_
      refine pt_get eD_hungry_27 hL rfl ?_
      refine pt_get eD_hungry_30 hN rfl ?_
      refine pt_iload eD_hungry_33 rfl ?_
      refine pt_iald eD_hungry_34 hNt (by omega) (by omega) (by decide) ?_
      refine pt_istore3 eD_hungry_35 rfl ?_
      refine pt_ic eD_hungry_36 ?_
      refine pt_aload eD_hungry_38 rfl ?_
      refine pt_get eD_hungry_39 hD rfl ?_
      refine pt_get eD_hungry_42 hL rfl ?_
      refine pt_get eD_hungry_45 hN rfl ?_
      refine pt_iload eD_hungry_48 rfl ?_
      refine pt_iadd eD_hungry_49 ?_
      refine pt_min eD_hungry_50 ⟨by omega, by omega⟩ ⟨by omega, by omega⟩ (by decide) (Nat.le_of_ble_eq_true rfl) (Nat.le_refl _) (Nat.le_refl _) ?_
      refine pt_istore4 eD_hungry_53 rfl ?_
      refine pt_ic eD_hungry_55 ?_
      refine pt_istore5 eD_hungry_56 rfl ?_
      refine pt_aload eD_hungry_58 rfl ?_
      refine pt_get eD_hungry_59 hD rfl ?_
      refine pt_get eD_hungry_62 hL rfl ?_
      refine pt_get eD_hungry_65 hN rfl ?_
      refine pt_istore6 eD_hungry_68 rfl ?_
      have z0 : (q 17 0 - q 17 0).toNat = 0 := by omega
      refine pt_lve [some (vr 1), some (vi g), some (vi n), some (vi (pn (q 5) (q 8) (q 9) (q 17) (q 3 0) (q 17 0 - q 17 0).toNat (2 + g))), some (vi (min 20 (q 17 0 + n))), some (vi (pn (q 5) (q 8) (q 9) (q 17) (q 3 0) (q 17 0 - q 17 0).toNat (6 + g) - q 17 (6 + g))), some (vi (q 17 0))] (by rw [z0, show pn (q 5) (q 8) (q 9) (q 17) (q 3 0) 0 (6 + g) - q 17 (6 + g) = 0 from Int.sub_self _]; rfl) ?_
      refine lD_hun G sz hp hD hH hH5 hH6 hH2 ig0 ig4 iB iM iU iS i0 (fun g h0 h1 => (hag g h0 h1).2.1) c8.1 (by omega) (by omega) (fun hp5 he5 => ?_) (min 20 (q 17 0 + n) - q 17 0).toNat (q 17 0) hp (by omega) (by omega) rfl
      rw [he5]
      refine pt_iload eD_hungry_105 rfl ?_
      refine pt_iret eD_hungry_107 (Nat.le_refl _) (Nat.le_refl _) ?_
      rw [show rHungry q g n = _ by unfold rHungry; rw [if_neg (fun z => z ⟨c8, c18⟩)]]
      rw [show (min n (20 - q 17 0)).toNat = (min 20 (q 17 0 + n) - q 17 0).toNat by omega]
      exact ⟨rfl, rfl, ⟨to, dr, hC0⟩, fr.rf⟩
    · refine pt_ic eD_hungry_21 ?_
      refine pt_iret eD_hungry_22 (Nat.le_refl _) (Nat.le_refl _) ?_
      first
      | (have c8 := pwi_0 c8
         rw [show rHungry q g n = -1 by unfold rHungry; rw [if_pos (fun z => c8 z.1)]]
         exact ⟨rfl, rfl, ⟨to, dr, hC0⟩, fr.rf⟩)
      | (have c18 := pwi_0 c18
         rw [show rHungry q g n = -1 by unfold rHungry; rw [if_pos (fun z => c18 z.2)]]
         exact ⟨rfl, rfl, ⟨to, dr, hC0⟩, fr.rf⟩)
