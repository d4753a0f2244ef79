/-! on which days it may be -/
theorem sto_b {us br ms fi : Int → Int} {g gd : Int} (h0 : 0 ≤ g) (h1 : g < gd) (hg : gd ≤ 4) (hb : okB br) (hm : okB ms) (hu : okU gd us) (hf : ∀ g, 0 ≤ g → g < gd → 0 ≤ fi g ∧ fi g ≤ 60) : ∀ d : Nat, d ≤ 20 → 0 ≤ sto us br ms fi g d ∧ sto us br ms fi g d ≤ 999
  | 0, _ => by have := hf g h0 h1; show 0 ≤ fi g ∧ fi g ≤ 999; omega
  | d + 1, h => by
    have h2 := sto_b h0 h1 hg hb hm hu hf d (by omega)
    have h3 := hb (4 * d + g) (by omega) (by omega)
    have h4 := hm (4 * d + g) (by omega) (by omega)
    have h5 := hu g h0 h1
    rw [sto]
    unfold rsf
    omega
def asn (S sg si : Int → Int) : Nat → Int
  | 0 => 1
  | n + 1 => if asn S sg si n = 0 then 0 else if S (sg n) = si n then 1 else 0
theorem asn_s {S sg si : Int → Int} {i : Int} (h : 0 ≤ i) : asn S sg si (i + 1).toNat = if asn S sg si i.toNat = 0 then 0 else if S (sg i) = si i then 1 else 0 := by
  rw [show (i + 1).toNat = i.toNat + 1 by omega, asn, Int.toNat_of_nonneg h]
theorem asn_01 (S sg si : Int → Int) : ∀ n : Nat, asn S sg si n = 0 ∨ asn S sg si n = 1
  | 0 => Or.inr rfl
  | n + 1 => by
    rw [asn]
    split
    · exact Or.inl rfl
    · split
      · exact Or.inr rfl
      · exact Or.inl rfl
theorem asn_j (S sg si : Int → Int) (n : Nat) : jR (asn S sg si n) := by
  have := asn_01 S sg si n
  exact ⟨by omega, by omega⟩
theorem asn_z {S sg si : Int → Int} {m : Nat} (h : asn S sg si m = 0) : ∀ n : Nat, asn S sg si (m + n) = 0
  | 0 => h
  | n + 1 => by
    show asn S sg si (m + n + 1) = 0
    rw [asn, if_pos (asn_z h n)]
def dset (p : Int → Int) : Nat → Nat
  | 0 => 0
  | n + 1 => dset p n + (if p n = 0 then 0 else 2 ^ n)
theorem dset_s {p : Int → Int} {i : Int} (h : 0 ≤ i) : dset p (i + 1).toNat = dset p i.toNat + (if p i = 0 then 0 else 2 ^ i.toNat) := by
  rw [show (i + 1).toNat = i.toNat + 1 by omega, dset, Int.toNat_of_nonneg h]
theorem dset_b {p : Int → Int} : ∀ n : Nat, dset p n < 2 ^ n
  | 0 => by show 0 < 1; omega
  | n + 1 => by
    have := dset_b (p := p) n
    rw [dset, Nat.pow_succ]
    split <;> omega
theorem jI_or0 (x : Nat) : jI (x : Int) ||| jI 0 = jI (x : Int) := by
  rw [show jI 0 = nI 0 from rfl, jI_n, fa_or, Nat.or_zero]
theorem jI_sh1 {i : Int} (h0 : 0 ≤ i) (h1 : i < 31) : jI 1 <<< (jI i &&& 31) = jI ((2 ^ i.toNat : Nat) : Int) := by
  have hp : 2 ^ i.toNat ≤ 2 ^ 31 := Nat.pow_le_pow_right (by decide) (by omega)
  have h := jI_shl (x := 1) (y := i.toNat) (by omega) (by omega)
  rw [Int.toNat_of_nonneg h0, Nat.one_mul] at h
  exact h
def dsf (q : Nat → Int → Int) (v : Nat → Int) : Nat := dset (fun d => asn (fun g => sto (q 5) (q 8) (q 9) (q 4) g d.toNat) (q 24) (q 25) (v 26).toNat) 21
def mPosG (hp : pd_P) (sz : Nat) (q : Nat → Int → Int) (v : Nat → Int) (r : Int) : pd_R := fun v' sz' hp' => v' = some (vi r) ∧ sz' = sz ∧ (∃ q', (∀ j, j ≠ 22 → j ≠ 23 → j ≠ 30 → q' j = q j) ∧ MW hp' q' v) ∧ fr hp hp' 178 200
theorem mPosG_0 {hp : pd_P} {sz : Nat} {q : Nat → Int → Int} {v : Nat → Int} {r : Int} (hM : MW hp q v) : mPosG hp sz q v r (some (vi r)) sz hp := ⟨rfl, rfl, ⟨q, fun _ _ _ _ => rfl, hM⟩, fr.rf⟩
theorem mPosT_G {hp : pd_P} {sz : Nat} {q : Nat → Int → Int} {v : Nat → Int} {r : Int} {v' : Option pv} {sz' : Nat} {hp' : pd_P} (h : mPosT hp sz q v r v' sz' hp') : mPosG hp sz q v r v' sz' hp' := by
  obtain ⟨h1, h2, ⟨f, h3⟩, h4⟩ := h
  exact ⟨h1, h2, ⟨_, fun j hj _ _ => va_up_ne _ _ hj, h3⟩, h4⟩
theorem lR_days1 (G : pd_G) (sz : Nat) (hp : pd_P) {v : Nat → Int} {gf br ms us : Int → Int} (hR : hp 178 = RO v) (h_goods : hp 181 = ia 2 gf) (h_brought : hp 186 = ia 160 br) (h_missed : hp 187 = ia 160 ms) (h_use : hp 183 = ia 8 us) (ig0 : 0 ≤ gf 0) (ig4 : gf 0 ≤ 4) (iB : okB br) (iM : okB ms) (iU : okU (gf 0) us) {fi so si : Int → Int} (h_first : hp 182 = ia 8 fi) (iF : ∀ g, 0 ≤ g → g < gf 0 → 0 ≤ fi g ∧ fi g ≤ 60) (h_sightOf : hp 195 = ia 4 so) (h_sightIs : hp 196 = ia 4 si) (is0 : 0 ≤ v 26) (is4 : v 26 ≤ 4) (isx : ∀ i, 0 ≤ i → i < v 26 → (0 ≤ so i ∧ so i < gf 0) ∧ (0 ≤ si i ∧ si i ≤ 999)) {b d : Int} (hd0 : 0 ≤ d) (hd1 : d ≤ 20) {R : pd_R} (hx : ∀  (hp0 : pd_P), (∃ f, hp0 = va_up hp 193 (ia 90 f)) → pd_t G mR_days 3 R 62 [some (vr 178), some (vi b), some (vi d), some (vi (asn (fun g => sto us br ms fi g d.toNat) so si (v 26 : Int).toNat)), some (vi (v 26))] [] sz hp0) : ∀ (n : Nat) (i : Int)  (hp0 : pd_P), 0 ≤ i → i + n = v 26 → (∃ f, hp0 = va_up hp 193 (ia 90 f)) → pd_t G mR_days 3 R 15 [some (vr 178), some (vi b), some (vi d), some (vi (asn (fun g => sto us br ms fi g d.toNat) so si (i : Int).toNat)), some (vi (i))] [] sz hp0 := by
  intro n
  induction n with
  | zero =>
    intro i  hp0 hi0 hiE hI
    have hiE2 : v 26 = i := by omega
    subst hiE2
    have hx2 := hx  hp0 hI
    obtain ⟨f0, hI⟩ := hI
    have hR := pg_n hI (by decide) hR
    have h_goods := pg_n hI (by decide) h_goods
    have h_brought := pg_n hI (by decide) h_brought
    have h_missed := pg_n hI (by decide) h_missed
    have h_use := pg_n hI (by decide) h_use
    have h_first := pg_n hI (by decide) h_first
    have h_sightOf := pg_n hI (by decide) h_sightOf
    have h_sightIs := pg_n hI (by decide) h_sightIs
    have h_tried := pg_s hI
    refine pt_iload eR_days_15 rfl ?_
    refine pt_aload eR_days_17 rfl ?_
    refine pt_get eR_days_18 hR rfl ?_
    refine pt_cge eR_days_21 ⟨by omega, by omega⟩ ⟨by omega, by omega⟩ (fun c21 => ?_) (fun c21 => ?_)
    · exact hx2
    · exfalso; omega
  | succ n ih =>
    intro i  hp0 hi0 hiE hI
    obtain ⟨f0, hI⟩ := hI
    have hR := pg_n hI (by decide) hR
    have h_goods := pg_n hI (by decide) h_goods
    have h_brought := pg_n hI (by decide) h_brought
    have h_missed := pg_n hI (by decide) h_missed
    have h_use := pg_n hI (by decide) h_use
    have h_first := pg_n hI (by decide) h_first
    have h_sightOf := pg_n hI (by decide) h_sightOf
    have h_sightIs := pg_n hI (by decide) h_sightIs
    have h_tried := pg_s hI
    refine pt_iload eR_days_15 rfl ?_
    refine pt_aload eR_days_17 rfl ?_
    refine pt_get eR_days_18 hR rfl ?_
    refine pt_cge eR_days_21 ⟨by omega, by omega⟩ ⟨by omega, by omega⟩ (fun c21 => ?_) (fun c21 => ?_)
    · exfalso; omega
    · refine pt_iload eR_days_24 rfl ?_
      refine pt_zeq eR_days_25 (asn_j _ _ _ _) (fun c25 => ?_) (fun c25 => ?_)
      · refine pt_ic eR_days_54 ?_
        refine pt_istore3 eR_days_55 rfl ?_
        refine pt_inc4 eR_days_56 rfl ?_
        refine pt_goto eR_days_59 ?_
        have e9 := asn_s (S := (fun g => sto us br ms fi g d.toNat)) (sg := so) (si := si) hi0
        first
        | (rw [if_pos c25] at e9
           refine pt_lve [some (vr 178), some (vi b), some (vi d), some (vi (asn (fun g => sto us br ms fi g d.toNat) so si (i + 1 : Int).toNat)), some (vi (i + 1))] (by rw [e9]) ?_)
        | (rw [if_neg c25, if_pos (by omega)] at e9
           refine pt_lve [some (vr 178), some (vi b), some (vi d), some (vi (asn (fun g => sto us br ms fi g d.toNat) so si (i + 1 : Int).toNat)), some (vi (i + 1))] (by rw [e9]) ?_)
        | (rw [if_neg c25, if_neg (by omega)] at e9
           refine pt_lve [some (vr 178), some (vi b), some (vi d), some (vi (asn (fun g => sto us br ms fi g d.toNat) so si (i + 1 : Int).toNat)), some (vi (i + 1))] (by rw [e9]) ?_)
        refine ih (i + 1)  _ (by omega) (by omega) ?_
        first | exact ⟨f0, hI⟩ | exact ⟨f9, by rw [hx9, hI, bx_uu]⟩
      · refine pt_aload eR_days_28 rfl ?_
        refine pt_iload eR_days_29 rfl ?_
        refine pt_aload eR_days_30 rfl ?_
        refine pt_get eR_days_31 hR rfl ?_
        refine pt_iload eR_days_34 rfl ?_
        refine pt_iald eR_days_36 h_sightOf (by omega) (by omega) (by decide) ?_
        refine pt_kv2 eR_days_37 (cR_storeOf G sz _ hR h_goods h_brought h_missed h_use ig0 ig4 iB iM iU h_first h_tried iF hd0 hd1 (isx i hi0 (by omega)).1.1 (isx i hi0 (by omega)).1.2) hR rfl (Nat.le_of_ble_eq_true rfl) (by decide) (Nat.le_refl _) (Nat.le_refl _) ?_
        rintro v2 sz2 hpx ⟨rfl, hz9, f9, hx9⟩
        obtain rfl := hz9.symm
        have hR := pg_n hx9 (by decide) hR
        have h_goods := pg_n hx9 (by decide) h_goods
        have h_brought := pg_n hx9 (by decide) h_brought
        have h_missed := pg_n hx9 (by decide) h_missed
        have h_use := pg_n hx9 (by decide) h_use
        have h_first := pg_n hx9 (by decide) h_first
        have h_sightOf := pg_n hx9 (by decide) h_sightOf
        have h_sightIs := pg_n hx9 (by decide) h_sightIs
        have hsb := sto_b (isx i hi0 (by omega)).1.1 (isx i hi0 (by omega)).1.2 ig4 iB iM iU iF d.toNat (by omega)
        have hib := (isx i hi0 (by omega)).2
        refine pt_aload eR_days_40 rfl ?_
        refine pt_get eR_days_41 hR rfl ?_
        refine pt_iload eR_days_44 rfl ?_
        refine pt_iald eR_days_46 h_sightIs (by omega) (by omega) (by decide) ?_
        refine pt_cne eR_days_47 ⟨by omega, by omega⟩ ⟨by omega, by omega⟩ (fun c47 => ?_) (fun c47 => ?_)
        · refine pt_ic eR_days_54 ?_
          refine pt_istore3 eR_days_55 rfl ?_
          refine pt_inc4 eR_days_56 rfl ?_
          refine pt_goto eR_days_59 ?_
          have e9 := asn_s (S := (fun g => sto us br ms fi g d.toNat)) (sg := so) (si := si) hi0
          first
          | (rw [if_pos c25] at e9
             refine pt_lve [some (vr 178), some (vi b), some (vi d), some (vi (asn (fun g => sto us br ms fi g d.toNat) so si (i + 1 : Int).toNat)), some (vi (i + 1))] (by rw [e9]) ?_)
          | (rw [if_neg c25, if_pos (by omega)] at e9
             refine pt_lve [some (vr 178), some (vi b), some (vi d), some (vi (asn (fun g => sto us br ms fi g d.toNat) so si (i + 1 : Int).toNat)), some (vi (i + 1))] (by rw [e9]) ?_)
          | (rw [if_neg c25, if_neg (by omega)] at e9
             refine pt_lve [some (vr 178), some (vi b), some (vi d), some (vi (asn (fun g => sto us br ms fi g d.toNat) so si (i + 1 : Int).toNat)), some (vi (i + 1))] (by rw [e9]) ?_)
          refine ih (i + 1)  _ (by omega) (by omega) ?_
          first | exact ⟨f0, hI⟩ | exact ⟨f9, by rw [hx9, hI, bx_uu]⟩
        · refine pt_ic eR_days_50 ?_
          refine pt_goto eR_days_51 ?_
          refine pt_istore3 eR_days_55 rfl ?_
          refine pt_inc4 eR_days_56 rfl ?_
          refine pt_goto eR_days_59 ?_
          have e9 := asn_s (S := (fun g => sto us br ms fi g d.toNat)) (sg := so) (si := si) hi0
          first
          | (rw [if_pos c25] at e9
             refine pt_lve [some (vr 178), some (vi b), some (vi d), some (vi (asn (fun g => sto us br ms fi g d.toNat) so si (i + 1 : Int).toNat)), some (vi (i + 1))] (by rw [e9]) ?_)
          | (rw [if_neg c25, if_pos (by omega)] at e9
             refine pt_lve [some (vr 178), some (vi b), some (vi d), some (vi (asn (fun g => sto us br ms fi g d.toNat) so si (i + 1 : Int).toNat)), some (vi (i + 1))] (by rw [e9]) ?_)
          | (rw [if_neg c25, if_neg (by omega)] at e9
             refine pt_lve [some (vr 178), some (vi b), some (vi d), some (vi (asn (fun g => sto us br ms fi g d.toNat) so si (i + 1 : Int).toNat)), some (vi (i + 1))] (by rw [e9]) ?_)
          refine ih (i + 1)  _ (by omega) (by omega) ?_
          first | exact ⟨f0, hI⟩ | exact ⟨f9, by rw [hx9, hI, bx_uu]⟩
theorem lR_days2 (G : pd_G) (sz : Nat) (hp : pd_P) {v : Nat → Int} {gf br ms us : Int → Int} (hR : hp 178 = RO v) (h_goods : hp 181 = ia 2 gf) (h_brought : hp 186 = ia 160 br) (h_missed : hp 187 = ia 160 ms) (h_use : hp 183 = ia 8 us) (ig0 : 0 ≤ gf 0) (ig4 : gf 0 ≤ 4) (iB : okB br) (iM : okB ms) (iU : okU (gf 0) us) {fi so si : Int → Int} (h_first : hp 182 = ia 8 fi) (iF : ∀ g, 0 ≤ g → g < gf 0 → 0 ≤ fi g ∧ fi g ≤ 60) (h_sightOf : hp 195 = ia 4 so) (h_sightIs : hp 196 = ia 4 si) (is0 : 0 ≤ v 26) (is4 : v 26 ≤ 4) (isx : ∀ i, 0 ≤ i → i < v 26 → (0 ≤ so i ∧ so i < gf 0) ∧ (0 ≤ si i ∧ si i ≤ 999)) {R : pd_R} (hx : ∀ (l3 l4 : Option pv) (hp0 : pd_P), (∃ f, hp0 = va_up hp 193 (ia 90 f)) → pd_t G mR_days 3 R 82 [some (vr 178), some (vi ((dset (fun d => asn (fun g => sto us br ms fi g d.toNat) so si (v 26).toNat) (21 : Int).toNat : Nat) : Int)), some (vi (21)), l3, l4] [] sz hp0) : ∀ (n : Nat) (i : Int) (l3 l4 : Option pv) (hp0 : pd_P), 0 ≤ i → i + n = 21 → (∃ f, hp0 = va_up hp 193 (ia 90 f)) → pd_t G mR_days 3 R 4 [some (vr 178), some (vi ((dset (fun d => asn (fun g => sto us br ms fi g d.toNat) so si (v 26).toNat) (i : Int).toNat : Nat) : Int)), some (vi (i)), l3, l4] [] sz hp0 := by
  intro n
  induction n with
  | zero =>
    intro i l3 l4 hp0 hi0 hiE hI
    have hiE2 : 21 = i := by omega
    subst hiE2
    have hx2 := hx l3 l4 hp0 hI
    refine pt_iload eR_days_4 rfl ?_
    refine pt_ic eR_days_5 ?_
    refine pt_cgt eR_days_7 ⟨by omega, by omega⟩ ⟨by omega, by omega⟩ (fun c7 => ?_) (fun c7 => ?_)
    · exact hx2
    · exfalso; omega
  | succ n ih =>
    intro i l3 l4 hp0 hi0 hiE hI
    refine pt_iload eR_days_4 rfl ?_
    refine pt_ic eR_days_5 ?_
    refine pt_cgt eR_days_7 ⟨by omega, by omega⟩ ⟨by omega, by omega⟩ (fun c7 => ?_) (fun c7 => ?_)
    · exfalso; omega
    · refine pt_ic eR_days_10 ?_
      refine pt_istore3 eR_days_11 rfl ?_
      refine pt_ic eR_days_12 ?_
      refine pt_istore4 eR_days_13 rfl ?_
      refine lR_days1 G sz hp hR h_goods h_brought h_missed h_use ig0 ig4 iB iM iU h_first iF h_sightOf h_sightIs is0 is4 isx hi0 (by omega) (fun hp5 hI5 => ?_) (v 26).toNat 0 hp0 (by omega) (by omega) hI
      have e9 := dset_s (p := (fun d => asn (fun g => sto us br ms fi g d.toNat) so si (v 26).toNat)) hi0
      have hb9 := dset_b (p := (fun d => asn (fun g => sto us br ms fi g d.toNat) so si (v 26).toNat)) i.toNat
      refine pt_iload eR_days_62 rfl ?_
      refine pt_iload eR_days_63 rfl ?_
      refine pt_zeq eR_days_64 (asn_j _ _ _ _) (fun c64 => ?_) (fun c64 => ?_)
      · refine pt_ic eR_days_73 ?_
        refine pt_ior (z := ((dset (fun d => asn (fun g => sto us br ms fi g d.toNat) so si (v 26).toNat) (i + 1).toNat : Nat) : Int)) eR_days_74 (by first | (rw [e9, if_neg c64]; exact jI_or hb9) | (rw [e9, if_pos c64]; exact jI_or0 _)) ?_
        refine pt_istore1 eR_days_75 rfl ?_
        refine pt_inc2 eR_days_76 rfl ?_
        refine pt_goto eR_days_79 ?_
        exact ih (i + 1) _ _ hp5 (by omega) (by omega) hI5
      · refine pt_ic eR_days_67 ?_
        refine pt_iload eR_days_68 rfl ?_
        refine pt_ishl (z := ((2 ^ i.toNat : Nat) : Int)) eR_days_69 (jI_sh1 hi0 (by omega)) ?_
        refine pt_goto eR_days_70 ?_
        refine pt_ior (z := ((dset (fun d => asn (fun g => sto us br ms fi g d.toNat) so si (v 26).toNat) (i + 1).toNat : Nat) : Int)) eR_days_74 (by first | (rw [e9, if_neg c64]; exact jI_or hb9) | (rw [e9, if_pos c64]; exact jI_or0 _)) ?_
        refine pt_istore1 eR_days_75 rfl ?_
        refine pt_inc2 eR_days_76 rfl ?_
        refine pt_goto eR_days_79 ?_
        exact ih (i + 1) _ _ hp5 (by omega) (by omega) hI5
theorem cR_days (G : pd_G) (sz : Nat) (hp : pd_P) {v : Nat → Int} {gf br ms us : Int → Int} (hR : hp 178 = RO v) (h_goods : hp 181 = ia 2 gf) (h_brought : hp 186 = ia 160 br) (h_missed : hp 187 = ia 160 ms) (h_use : hp 183 = ia 8 us) (ig0 : 0 ≤ gf 0) (ig4 : gf 0 ≤ 4) (iB : okB br) (iM : okB ms) (iU : okU (gf 0) us) {fi so si : Int → Int} (h_first : hp 182 = ia 8 fi) (iF : ∀ g, 0 ≤ g → g < gf 0 → 0 ≤ fi g ∧ fi g ≤ 60) (h_sightOf : hp 195 = ia 4 so) (h_sightIs : hp 196 = ia 4 si) (is0 : 0 ≤ v 26) (is4 : v 26 ≤ 4) (isx : ∀ i, 0 ≤ i → i < v 26 → (0 ≤ so i ∧ so i < gf 0) ∧ (0 ≤ si i ∧ si i ≤ 999)) {τ : Int → Int} (h_tried : hp 193 = ia 90 τ) : pd_c G mR_days 3 [vr 178] sz hp (fun v' sz' hp' => v' = some (vi ((dset (fun d => asn (fun g => sto us br ms fi g d.toNat) so si (v 26).toNat) 21 : Nat) : Int)) ∧ sz' = sz ∧ ∃ f, hp' = va_up hp 193 (ia 90 f)) := by
  refine pd_con kR_days [some (vr 178), none, none, none, none] rfl rfl (Nat.le_of_ble_eq_true rfl) ?_
  refine pt_ic eR_days_0 ?_
  refine pt_istore1 eR_days_1 rfl ?_
  refine pt_ic eR_days_2 ?_
  refine pt_istore2 eR_days_3 rfl ?_
  refine lR_days2 G sz hp hR h_goods h_brought h_missed h_use ig0 ig4 iB iM iU h_first iF h_sightOf h_sightIs is0 is4 isx (fun l3 l4 hp5 hI5 => ?_) 21 0 none none hp (by omega) (by omega) ⟨_, pu_self h_tried⟩
  obtain ⟨f5, hI5⟩ := hI5
  have hR := pg_n hI5 (by decide) hR
  refine pt_iload eR_days_82 rfl ?_
  refine pt_iret eR_days_83 (Nat.le_refl _) (Nat.le_refl _) ?_
  exact ⟨rfl, rfl, f5, hI5⟩
theorem xR_days (G : pd_G) (sz : Nat) (hp : pd_P) {q : Nat → Int → Int} {v : Nat → Int} (hM : MW hp q v) (hI : IN q v) : pd_c G mR_days 3 [vr 178] sz hp (mPosG hp sz q v ((dsf q v : Nat) : Int)) := by
  refine pd_con kR_days [some (vr 178), none, none, none, none] rfl rfl (Nat.le_of_ble_eq_true rfl) ?_
  obtain ⟨⟨ig0, ig4⟩, ⟨id0, id1, id2, id3⟩, iB, iM, iU, iF, iS, iP, iI, ⟨is0, is4, isx⟩, ⟨im0, im4, imx⟩, it0, it1⟩ := hI
  have hR := hM.1
  refine pt_ic eR_days_0 ?_
  refine pt_istore1 eR_days_1 rfl ?_
  refine pt_ic eR_days_2 ?_
  refine pt_istore2 eR_days_3 rfl ?_
  refine lR_days2 G sz hp hM.1 hM.w_goods hM.w_brought hM.w_missed hM.w_use ig0 ig4 iB iM iU hM.w_first (fun g h0 h1 => (iF g h0 h1).1) hM.w_sightOf hM.w_sightIs is0 is4 isx (fun l3 l4 hp5 hI5 => ?_) 21 0 none none hp (by omega) (by omega) ⟨_, pu_self hM.w_tried⟩
  obtain ⟨f5, hI5⟩ := hI5
  have hR := pg_n hI5 (by decide) hR
  refine pt_iload eR_days_82 rfl ?_
  refine pt_iret eR_days_83 (Nat.le_refl _) (Nat.le_refl _) ?_
  exact ⟨rfl, rfl, ⟨va_up q 22 f5, fun j hj _ _ => va_up_ne _ _ hj, by rw [hI5]; exact hM.s_tried f5⟩, fr.rf.up hI5 (by decide) (by decide)⟩
theorem lD_seen (G : pd_G) (sz : Nat) (hp : pd_P) {to dr : Nat} {se ga gd ev bk : Int} {so si st S : Int → Int} {d : Int} (hD : hp 1 = DO to dr se ga) (hSg : hp 53 = ia 4 so) (hSt : hp 54 = ia 4 si) (hH : hp to = HO to gd ev bk) (hH7 : hp (to + 7) = ia 84 st) (hg4 : gd ≤ 4) (is0 : 0 ≤ se) (is4 : se ≤ 4) (isx : ∀ i, 0 ≤ i → i < se → (0 ≤ so i ∧ so i < gd) ∧ (0 ≤ si i ∧ si i ≤ 999)) (hd0 : 0 ≤ d) (hd1 : d ≤ 20) (hst : ∀ g, 0 ≤ g → g < gd → st (4 * d + g) = S g) (hSb : ∀ g, 0 ≤ g → g < gd → 0 ≤ S g ∧ S g ≤ 999) : ∀ (n : Nat) (i : Int), 0 ≤ i → i + n = se → asn S so si i.toNat = 1 → pd_t G mD_isAsSeen 0 (pd_pure (vi (asn S so si se.toNat)) sz hp) 2 [some (vr 1), some (vi d), some (vi i)] [] sz hp := by
  intro n
  induction n with
  | zero =>
    intro i hi0 hiE ha
    have hie : i = se := by omega
    refine pt_iload eD_isAsSeen_2 rfl ?_
    refine pt_aload eD_isAsSeen_3 rfl ?_
    refine pt_get eD_isAsSeen_4 hD rfl ?_
    refine pt_cge eD_isAsSeen_7 ⟨by omega, by omega⟩ ⟨by omega, by omega⟩ (fun c7 => ?_) (fun c7 => ?_)
    · refine pt_ic eD_isAsSeen_45 ?_
      refine pt_iret (eD_isAsSeen_46 (by omega)) (Nat.le_refl _) (Nat.le_refl _) ?_
      rw [← hie, ha]
      exact ⟨rfl, rfl, rfl⟩
    · exfalso; omega
  | succ n ih =>
    intro i hi0 hiE ha
    have hx9 := isx i hi0 (by omega)
    have hb9 := hSb (so i) hx9.1.1 hx9.1.2
    have hs9 := hst (so i) hx9.1.1 hx9.1.2
    have e9 := asn_s (S := S) (sg := so) (si := si) hi0
    rw [if_neg (by omega)] at e9
    refine pt_iload eD_isAsSeen_2 rfl ?_
    refine pt_aload eD_isAsSeen_3 rfl ?_
    refine pt_get eD_isAsSeen_4 hD rfl ?_
    refine pt_cge eD_isAsSeen_7 ⟨by omega, by omega⟩ ⟨by omega, by omega⟩ (fun c7 => ?_) (fun c7 => ?_)
    · exfalso; omega
    · refine pt_aload eD_isAsSeen_10 rfl ?_
      refine pt_get eD_isAsSeen_11 hD rfl ?_
      refine pt_get eD_isAsSeen_14 hH rfl ?_
      refine pt_iload eD_isAsSeen_17 rfl ?_
      refine pt_ic eD_isAsSeen_18 ?_
      refine pt_imul eD_isAsSeen_19 ?_
      refine pt_aload eD_isAsSeen_20 rfl ?_
      refine pt_get eD_isAsSeen_21 hD rfl ?_
      refine pt_iload eD_isAsSeen_24 rfl ?_
      refine pt_iald eD_isAsSeen_25 hSg (by omega) (by omega) (by decide) ?_
      refine pt_iadd eD_isAsSeen_26 ?_
      refine pt_iald eD_isAsSeen_27 hH7 (by omega) (by omega) (by decide) ?_
      rw [show d * 4 + so i = 4 * d + so i by omega, hs9]
      refine pt_aload eD_isAsSeen_28 rfl ?_
      refine pt_get eD_isAsSeen_29 hD rfl ?_
      refine pt_iload eD_isAsSeen_32 rfl ?_
      refine pt_iald eD_isAsSeen_33 hSt (by omega) (by omega) (by decide) ?_
      refine pt_ceq eD_isAsSeen_34 ⟨by omega, by omega⟩ ⟨by omega, by omega⟩ (fun c34 => ?_) (fun c34 => ?_)
      · refine pt_inc2 eD_isAsSeen_39 rfl ?_
        refine pt_goto eD_isAsSeen_42 ?_
        exact ih (i + 1) (by omega) (by omega) (by rw [e9, if_pos (by omega)])
      · refine pt_ic eD_isAsSeen_37 ?_
        refine pt_iret (eD_isAsSeen_38 (by omega)) (Nat.le_refl _) (Nat.le_refl _) ?_
        rw [if_neg (by omega)] at e9
        have e8 := asn_z e9 n
        rw [show (i + 1).toNat + n = se.toNat by omega] at e8
        rw [e8]
        exact ⟨rfl, rfl, rfl⟩
theorem cD_isAsSeen (G : pd_G) (sz : Nat) (hp : pd_P) {to dr : Nat} {se ga gd ev bk : Int} {so si st S : Int → Int} {d : Int} (hD : hp 1 = DO to dr se ga) (hSg : hp 53 = ia 4 so) (hSt : hp 54 = ia 4 si) (hH : hp to = HO to gd ev bk) (hH7 : hp (to + 7) = ia 84 st) (hg4 : gd ≤ 4) (is0 : 0 ≤ se) (is4 : se ≤ 4) (isx : ∀ i, 0 ≤ i → i < se → (0 ≤ so i ∧ so i < gd) ∧ (0 ≤ si i ∧ si i ≤ 999)) (hd0 : 0 ≤ d) (hd1 : d ≤ 20) (hst : ∀ g, 0 ≤ g → g < gd → st (4 * d + g) = S g) (hSb : ∀ g, 0 ≤ g → g < gd → 0 ≤ S g ∧ S g ≤ 999) : pd_c G mD_isAsSeen 0 [vr 1, vi d] sz hp (pd_pure (vi (asn S so si se.toNat)) sz hp) := by
  refine pd_con kD_isAsSeen [some (vr 1), some (vi d), none] rfl rfl (Nat.le_of_ble_eq_true rfl) ?_
  refine pt_ic eD_isAsSeen_0 ?_
  refine pt_istore2 eD_isAsSeen_1 rfl ?_
  exact lD_seen G sz hp hD hSg hSt hH hH7 hg4 is0 is4 isx hd0 hd1 hst hSb se.toNat 0 (by omega) (by omega) rfl
theorem lD_days (G : pd_G) (sz : Nat) (hp : pd_P) {to dr : Nat} {se ga gd ev bk : Int} {so si st : Int → Int} {T : Int → Int → Int} (hD : hp 1 = DO to dr se ga) (hSg : hp 53 = ia 4 so) (hSt : hp 54 = ia 4 si) (hH : hp to = HO to gd ev bk) (hH7 : hp (to + 7) = ia 84 st) (hg4 : gd ≤ 4) (is0 : 0 ≤ se) (is4 : se ≤ 4) (isx : ∀ i, 0 ≤ i → i < se → (0 ≤ so i ∧ so i < gd) ∧ (0 ≤ si i ∧ si i ≤ 999)) (hst : ∀ d g, 0 ≤ d → d ≤ 20 → 0 ≤ g → g < gd → st (4 * d + g) = T d g) (hSb : ∀ d g, 0 ≤ d → d ≤ 20 → 0 ≤ g → g < gd → 0 ≤ T d g ∧ T d g ≤ 999) {R : pd_R} (hx : ∀  (hp0 : pd_P), hp0 = hp → pd_t G mD_days 1 R 30 [some (vr 1), some (vi ((dset (fun d => asn (T d) so si se.toNat) (21 : Int).toNat : Nat) : Int)), some (vi (21))] [] sz hp0) : ∀ (n : Nat) (i : Int)  (hp0 : pd_P), 0 ≤ i → i + n = 21 → hp0 = hp → pd_t G mD_days 1 R 4 [some (vr 1), some (vi ((dset (fun d => asn (T d) so si se.toNat) (i : Int).toNat : Nat) : Int)), some (vi (i))] [] sz hp0 := by
  intro n
  induction n with
  | zero =>
    intro i  hp0 hi0 hiE he0
    have hiE2 : 21 = i := by omega
    subst hiE2
    have hx2 := hx  hp0 he0
    rw [he0] at hx2
    rw [he0]
    refine pt_iload eD_days_4 rfl ?_
    refine pt_ic eD_days_5 ?_
    refine pt_cgt eD_days_7 ⟨by omega, by omega⟩ ⟨by omega, by omega⟩ (fun c7 => ?_) (fun c7 => ?_)
    · exact hx2
    · exfalso; omega
  | succ n ih =>
    intro i  hp0 hi0 hiE he0
    rw [he0]
    refine pt_iload eD_days_4 rfl ?_
    refine pt_ic eD_days_5 ?_
    refine pt_cgt eD_days_7 ⟨by omega, by omega⟩ ⟨by omega, by omega⟩ (fun c7 => ?_) (fun c7 => ?_)
    · exfalso; omega
    · have e9 := dset_s (p := (fun d => asn (T d) so si se.toNat)) hi0
      have hb9 := dset_b (p := (fun d => asn (T d) so si se.toNat)) i.toNat
      refine pt_aload eD_days_10 rfl ?_
      refine pt_iload eD_days_11 rfl ?_
      refine pt_kv1r eD_days_12 (cD_isAsSeen G sz _ hD hSg hSt hH hH7 hg4 is0 is4 isx hi0 (by omega) (S := T i) (fun g h0 h1 => hst i g hi0 (by omega) h0 h1) (fun g h0 h1 => hSb i g hi0 (by omega) h0 h1)) hD rfl (Nat.le_of_ble_eq_true rfl) (by decide) (Nat.le_refl _) (Nat.le_refl _) ?_
      refine pt_zeq eD_days_15 (asn_j _ _ _ _) (fun c15 => ?_) (fun c15 => ?_)
      · refine pt_inc2 eD_days_24 rfl ?_
        refine pt_goto eD_days_27 ?_
        first
        | (rw [if_pos c15, Nat.add_zero] at e9
           rw [← e9])
        | skip
        exact ih (i + 1)  hp (by omega) (by omega) rfl 
      · refine pt_iload eD_days_18 rfl ?_
        refine pt_ic eD_days_19 ?_
        refine pt_iload eD_days_20 rfl ?_
        refine pt_ishl (z := ((2 ^ i.toNat : Nat) : Int)) eD_days_21 (jI_sh1 hi0 (by omega)) ?_
        refine pt_ior (z := ((dset (fun d => asn (T d) so si se.toNat) (i + 1).toNat : Nat) : Int)) eD_days_22 (by rw [e9, if_neg c15]; exact jI_or hb9) ?_
        refine pt_istore1 eD_days_23 rfl ?_
        refine pt_inc2 eD_days_24 rfl ?_
        refine pt_goto eD_days_27 ?_
        first
        | (rw [if_pos c15, Nat.add_zero] at e9
           rw [← e9])
        | skip
        exact ih (i + 1)  hp (by omega) (by omega) rfl 
theorem cD_days (G : pd_G) (sz : Nat) (hp : pd_P) {to dr : Nat} {se ga gd ev bk : Int} {so si st : Int → Int} {T : Int → Int → Int} (hD : hp 1 = DO to dr se ga) (hSg : hp 53 = ia 4 so) (hSt : hp 54 = ia 4 si) (hH : hp to = HO to gd ev bk) (hH7 : hp (to + 7) = ia 84 st) (hg4 : gd ≤ 4) (is0 : 0 ≤ se) (is4 : se ≤ 4) (isx : ∀ i, 0 ≤ i → i < se → (0 ≤ so i ∧ so i < gd) ∧ (0 ≤ si i ∧ si i ≤ 999)) (hst : ∀ d g, 0 ≤ d → d ≤ 20 → 0 ≤ g → g < gd → st (4 * d + g) = T d g) (hSb : ∀ d g, 0 ≤ d → d ≤ 20 → 0 ≤ g → g < gd → 0 ≤ T d g ∧ T d g ≤ 999) : pd_c G mD_days 1 [vr 1] sz hp (pd_pure (vi ((dset (fun d => asn (T d) so si se.toNat) 21 : Nat) : Int)) sz hp) := by
  refine pd_con kD_days [some (vr 1), none, none] rfl rfl (Nat.le_of_ble_eq_true rfl) ?_
  refine pt_ic eD_days_0 ?_
  refine pt_istore1 eD_days_1 rfl ?_
  refine pt_ic eD_days_2 ?_
  refine pt_istore2 eD_days_3 rfl ?_
  refine lD_days G sz hp hD hSg hSt hH hH7 hg4 is0 is4 isx hst hSb (fun hp5 he5 => ?_) 21 0 hp (by omega) (by omega) rfl
  rw [he5]
  refine pt_iload eD_days_30 rfl ?_
  refine pt_iret eD_days_31 (Nat.le_refl _) (Nat.le_refl _) ?_
  exact ⟨rfl, rfl, rfl⟩
theorem xD_days (G : pd_G) (sz : Nat) (hp : pd_P) {to dr : Nat} {q : Nat → Int → Int} {v : Nat → Int} (hC : CW hp to dr q v) (hI : IN q v) : pd_c G mD_days 1 [vr 1] sz hp (cPost hp sz ((q, v, ((dsf q v : Nat) : Int)))) := by
  refine pd_con kD_days [some (vr 1), none, none] rfl rfl (Nat.le_of_ble_eq_true rfl) ?_
  obtain ⟨⟨ig0, ig4⟩, ⟨id0, id1, id2, id3⟩, iB, iM, iU, iF, iS, iP, iI, ⟨is0, is4, isx⟩, ⟨im0, im4, imx⟩, it0, it1⟩ := hI
  have hC0 := hC
  obtain ⟨hto, hDo, hTx, hHs, hHd, hLf, hI0, hI1, hGo, hPl⟩ := hC
  have hDo2 := hDo
  obtain ⟨hD, ⟨imf, hIm, him0, him1⟩, hKp, hSg, hSt, hGd, hGt⟩ := hDo2
  have hHs2 := hHs
  obtain ⟨fi, us, we, wo, stt, hHo, hag, hstt⟩ := hHs2
  have hHo2 := hHo
  obtain ⟨hH, hH1, hH2, hH3, hH4, hH5, hH6, hH7⟩ := hHo2
  refine pt_ic eD_days_0 ?_
  refine pt_istore1 eD_days_1 rfl ?_
  refine pt_ic eD_days_2 ?_
  refine pt_istore2 eD_days_3 rfl ?_
  refine lD_days G sz hp hD hSg hSt hH hH7 ig4 is0 is4 isx (T := fun d g => sto (q 5) (q 8) (q 9) (q 4) g d.toNat) (fun d g h0 h1 h2 h3 => by have h9 := hstt d.toNat g (by omega) h2 h3; rw [Int.toNat_of_nonneg h0] at h9; exact h9) (fun d g h0 h1 h2 h3 => sto_b h2 h3 ig4 iB iM iU (fun g h0 h1 => (iF g h0 h1).1) d.toNat (by omega)) (fun hp5 he5 => ?_) 21 0 hp (by omega) (by omega) rfl
  rw [he5]
  refine pt_iload eD_days_30 rfl ?_
  refine pt_iret eD_days_31 (Nat.le_refl _) (Nat.le_refl _) ?_
  exact ⟨rfl, rfl, ⟨to, dr, hC0⟩, fr.rf⟩
