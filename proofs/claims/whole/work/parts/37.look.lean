/-! at which good to look -/
theorem cR_hasi (G : pd_G) (sz : Nat) (hp : pd_P) {x : Nat} {k : Int} (hx : x < 2147483648) (h0 : 0 ≤ k) (hk : k < 31) : pd_c G mR_has 0 [vi (x : Int), vi k] sz hp (pd_pure (vi (hasf x k.toNat)) sz hp) := by
  have h := cR_has G sz hp (x := x) (k := k.toNat) hx (by omega)
  rw [Int.toNat_of_nonneg h0] at h
  exact h
theorem jI_shri {x : Nat} {y : Int} (hx : x < 2147483648) (h0 : 0 ≤ y) (hy : y < 32) : jI (x : Int) >>> (jI y &&& 31) = jI ((x / 2 ^ y.toNat : Nat) : Int) := by
  have h := jI_shr (x := x) (y := y.toNat) hx (by omega)
  rw [Int.toNat_of_nonneg h0] at h
  exact h
theorem hasf_y {x k : Nat} (h : ((x / 2 ^ k : Nat) : Int) % 2 ^ 1 = 1) : ¬ hasf x k = 0 := by
  unfold hasf
  rw [if_pos (by omega)]
  decide
theorem hasf_n {x k : Nat} (h : ¬ ((x / 2 ^ k : Nat) : Int) % 2 ^ 1 = 1) : hasf x k = 0 := by
  unfold hasf
  rw [if_neg (by omega)]
def alk (f : Int → Int) (b : Nat) (d : Int) : Nat → Int
  | 0 => 0
  | n + 1 => alk f b d n + (if hasf b n = 0 then 0 else if f d = f n then 1 else 0)
theorem alk_s {f : Int → Int} {b : Nat} {d i : Int} (h : 0 ≤ i) : alk f b d (i + 1).toNat = alk f b d i.toNat + (if hasf b i.toNat = 0 then 0 else if f d = f i then 1 else 0) := by
  rw [show (i + 1).toNat = i.toNat + 1 by omega, alk, Int.toNat_of_nonneg h]
theorem alk_b {f : Int → Int} {b : Nat} {d : Int} : ∀ n : Nat, 0 ≤ alk f b d n ∧ alk f b d n ≤ n
  | 0 => ⟨Int.le_refl _, Int.le_refl _⟩
  | n + 1 => by
    have h := alk_b (f := f) (b := b) (d := d) n
    rw [alk]
    split
    · omega
    · split <;> omega
def mxa (f : Int → Int) (b : Nat) : Nat → Int
  | 0 => 0
  | n + 1 => max (mxa f b n) (if hasf b n = 0 then 0 else alk f b n 21)
theorem mxa_s {f : Int → Int} {b : Nat} {i : Int} (h : 0 ≤ i) : mxa f b (i + 1).toNat = max (mxa f b i.toNat) (if hasf b i.toNat = 0 then 0 else alk f b i 21) := by
  rw [show (i + 1).toNat = i.toNat + 1 by omega, mxa, Int.toNat_of_nonneg h]
theorem mxa_b {f : Int → Int} {b : Nat} : ∀ n : Nat, 0 ≤ mxa f b n ∧ mxa f b n ≤ 21
  | 0 => ⟨Int.le_refl 0, show (0 : Int) ≤ 21 by decide⟩
  | n + 1 => by
    have h := mxa_b (f := f) (b := b) n
    have h2 := alk_b (f := f) (b := b) (d := n) 21
    rw [mxa]
    split <;> omega
def lk (M : Int → Int) : Nat → Int × Int
  | 0 => (-9, 22)
  | n + 1 => if M n < (lk M n).2 then ((n : Int), M n) else lk M n
theorem lk_s {M : Int → Int} {i : Int} (h : 0 ≤ i) : lk M (i + 1).toNat = if M i < (lk M i.toNat).2 then (i, M i) else lk M i.toNat := by
  rw [show (i + 1).toNat = i.toNat + 1 by omega, lk, Int.toNat_of_nonneg h]
theorem lk_b {M : Int → Int} (hM : ∀ i, 0 ≤ M i ∧ M i ≤ 21) : ∀ n : Nat, 0 ≤ (lk M n).2 ∧ (lk M n).2 ≤ 22 ∧ (n = 0 → lk M n = (-9, 22)) ∧ (1 ≤ n → 0 ≤ (lk M n).1 ∧ (lk M n).1 < n ∧ (lk M n).2 ≤ 21) ∧ -9 ≤ (lk M n).1 ∧ (lk M n).1 ≤ n
  | 0 => ⟨show (0 : Int) ≤ 22 by decide, show (22 : Int) ≤ 22 by decide, fun _ => rfl, fun h => absurd h (by decide), show (-9 : Int) ≤ -9 by decide, show (-9 : Int) ≤ ((0 : Nat) : Int) by decide⟩
  | n + 1 => by
    obtain ⟨h1, h2, h3, h4, h5, h6⟩ := lk_b hM n
    have hb := hM n
    rw [lk]
    split
    · exact ⟨hb.1, by show M n ≤ 22; omega, fun h => absurd h (by omega), fun _ => ⟨by show (0 : Int) ≤ n; omega, by show (n : Int) < ((n + 1 : Nat) : Int); omega, hb.2⟩, by show (-9 : Int) ≤ n; omega, by show (n : Int) ≤ ((n + 1 : Nat) : Int); omega⟩
    · rename_i hc
      have hn : 1 ≤ n := by
        rcases (show n = 0 ∨ 1 ≤ n by omega) with h0 | h0
        · exfalso
          rw [h3 h0] at hc
          exact hc (by show M n < 22; omega)
        · exact h0
      obtain ⟨h7, h8, h9⟩ := h4 hn
      exact ⟨h1, h2, fun h => absurd h (by omega), fun _ => ⟨h7, by omega, h9⟩, h5, by omega⟩
def lMf (us br ms fi : Int → Int) (b : Nat) (g : Int) : Int := mxa (fun e => sto us br ms fi g e.toNat) b 21
def rLook (q : Nat → Int → Int) (v : Nat → Int) : Int := if dsf q v = 0 then -9 else (lk (lMf (q 5) (q 8) (q 9) (q 4) (dsf q v)) (q 3 0).toNat).1
theorem lR_look1 (G : pd_G) (sz : Nat) (hp : pd_P) {v : Nat → Int} {gf br ms us : Int → Int} (hR : hp 178 = RO v) (h_goods : hp 181 = ia 2 gf) (h_brought : hp 186 = ia 160 br) (h_missed : hp 187 = ia 160 ms) (h_use : hp 183 = ia 8 us) (ig0 : 0 ≤ gf 0) (ig4 : gf 0 ≤ 4) (iB : okB br) (iM : okB ms) (iU : okU (gf 0) us) {fi : Int → Int} (h_first : hp 182 = ia 8 fi) (iF : ∀ g, 0 ≤ g → g < gf 0 → 0 ≤ fi g ∧ fi g ≤ 60) {s0 : Int → Int} {b fo fe g : Int} {l6 l7 l8 : Option pv} (hg0 : 0 ≤ g) (hg1 : g < gf 0) {R : pd_R} (hx : ∀  (hp0 : pd_P), (∃ f, hp0 = va_up (va_up hp 193 (ia 90 f)) 199 (ia 21 (blk s0 (fun e => sto us br ms fi g e.toNat) 0 (21)))) → pd_t G mR_look 4 R 59 [some (vr 178), some (vi b), some (vi fo), some (vi fe), some (vi g), some (vi (21)), l6, l7, l8] [] sz hp0) : ∀ (n : Nat) (i : Int)  (hp0 : pd_P), 0 ≤ i → i + n = 21 → (∃ f, hp0 = va_up (va_up hp 193 (ia 90 f)) 199 (ia 21 (blk s0 (fun e => sto us br ms fi g e.toNat) 0 (i)))) → pd_t G mR_look 4 R 31 [some (vr 178), some (vi b), some (vi fo), some (vi fe), some (vi g), some (vi (i)), l6, l7, l8] [] sz hp0 := by
  intro n
  induction n with
  | zero =>
    intro i  hp0 hi0 hiE hI
    have hiE2 : 21 = i := by omega
    subst hiE2
    have hx2 := hx  hp0 hI
    obtain ⟨f0, hI⟩ := hI
    obtain ⟨hz, eqz⟩ : ∃ z : pd_P, z = va_up hp 193 (ia 90 f0) := ⟨_, rfl⟩
    rw [← eqz] at hI
    have hR := pg_n hI (by decide) (pg_n eqz (by decide) hR)
    have h_goods := pg_n hI (by decide) (pg_n eqz (by decide) h_goods)
    have h_brought := pg_n hI (by decide) (pg_n eqz (by decide) h_brought)
    have h_missed := pg_n hI (by decide) (pg_n eqz (by decide) h_missed)
    have h_use := pg_n hI (by decide) (pg_n eqz (by decide) h_use)
    have h_first := pg_n hI (by decide) (pg_n eqz (by decide) h_first)
    have h_tried := pg_n hI (by decide) (pg_s eqz)
    have h_stores := pg_s hI
    refine pt_iload eR_look_31 rfl ?_
    refine pt_ic eR_look_33 ?_
    refine pt_cgt eR_look_35 ⟨by omega, by omega⟩ ⟨by omega, by omega⟩ (fun c35 => ?_) (fun c35 => ?_)
    · exact hx2
    · exfalso; omega
  | succ n ih =>
    intro i  hp0 hi0 hiE hI
    obtain ⟨f0, hI⟩ := hI
    obtain ⟨hz, eqz⟩ : ∃ z : pd_P, z = va_up hp 193 (ia 90 f0) := ⟨_, rfl⟩
    rw [← eqz] at hI
    have hR := pg_n hI (by decide) (pg_n eqz (by decide) hR)
    have h_goods := pg_n hI (by decide) (pg_n eqz (by decide) h_goods)
    have h_brought := pg_n hI (by decide) (pg_n eqz (by decide) h_brought)
    have h_missed := pg_n hI (by decide) (pg_n eqz (by decide) h_missed)
    have h_use := pg_n hI (by decide) (pg_n eqz (by decide) h_use)
    have h_first := pg_n hI (by decide) (pg_n eqz (by decide) h_first)
    have h_tried := pg_n hI (by decide) (pg_s eqz)
    have h_stores := pg_s hI
    refine pt_iload eR_look_31 rfl ?_
    refine pt_ic eR_look_33 ?_
    refine pt_cgt eR_look_35 ⟨by omega, by omega⟩ ⟨by omega, by omega⟩ (fun c35 => ?_) (fun c35 => ?_)
    · exfalso; omega
    · refine pt_aload eR_look_38 rfl ?_
      refine pt_get eR_look_39 hR rfl ?_
      refine pt_iload eR_look_42 rfl ?_
      refine pt_aload eR_look_44 rfl ?_
      refine pt_iload eR_look_45 rfl ?_
      refine pt_iload eR_look_47 rfl ?_
      refine pt_kv2 eR_look_49 (cR_storeOf G sz _ hR h_goods h_brought h_missed h_use ig0 ig4 iB iM iU h_first h_tried iF hi0 (by omega) hg0 hg1) hR rfl (Nat.le_of_ble_eq_true rfl) (by decide) (Nat.le_refl _) (Nat.le_refl _) ?_
      rintro v2 sz2 hpx ⟨rfl, hz9, f9, hx9⟩
      obtain rfl := hz9.symm
      have hR := pg_n hx9 (by decide) hR
      have h_goods := pg_n hx9 (by decide) h_goods
      have h_brought := pg_n hx9 (by decide) h_brought
      have h_missed := pg_n hx9 (by decide) h_missed
      have h_use := pg_n hx9 (by decide) h_use
      have h_first := pg_n hx9 (by decide) h_first
      have h_stores := pg_n hx9 (by decide) h_stores
      have h_tried := pg_s hx9
      refine pt_iast eR_look_52 h_stores (by omega) (by omega) (by decide) ?_
      refine pt_gen ?_
      intro hp2 ev2
      have hR := pg_n ev2 (by omega) hR
      have h_tried := pg_n ev2 (by omega) h_tried
      have h_stores := pg_s ev2
      have h_goods := pg_n ev2 (by omega) h_goods
      have h_brought := pg_n ev2 (by omega) h_brought
      have h_missed := pg_n ev2 (by omega) h_missed
      have h_use := pg_n ev2 (by omega) h_use
      have h_first := pg_n ev2 (by omega) h_first
      refine pt_inc5 eR_look_53 rfl ?_
      refine pt_goto eR_look_56 ?_
      refine ih (i + 1)  _ (by omega) (by omega) ?_
      have k2 := blk_s (f := s0) (g := (fun e => sto us br ms fi g e.toNat)) (a := 0) (n := i) hi0
      rw [Int.zero_add] at k2
      refine ⟨f9, ?_⟩
      rw [ev2, hx9, hI, eqz, bx_4 (by decide), ← k2]
theorem lR_look2 (G : pd_G) (sz : Nat) (hp : pd_P) {v : Nat → Int} {F : Int → Int} (hR : hp 178 = RO v) (h_stores : hp 199 = ia 21 F) (hFb : ∀ e, 0 ≤ e → e ≤ 20 → 0 ≤ F e ∧ F e ≤ 999) {b : Nat} (hb : b < 2097152) {fo fe g : Int} {gr d : Int} (hd0 : 0 ≤ d) (hd1 : d ≤ 20) {R : pd_R} (hx : ∀  (hp0 : pd_P), hp0 = hp → pd_t G mR_look 4 R 136 [some (vr 178), some (vi (b : Int)), some (vi fo), some (vi fe), some (vi g), some (vi gr), some (vi d), some (vi (if hasf b d.toNat = 0 then 0 else alk F b d (21 : Int).toNat)), some (vi (21))] [] sz hp0) : ∀ (n : Nat) (i : Int)  (hp0 : pd_P), 0 ≤ i → i + n = 21 → hp0 = hp → pd_t G mR_look 4 R 78 [some (vr 178), some (vi (b : Int)), some (vi fo), some (vi fe), some (vi g), some (vi gr), some (vi d), some (vi (if hasf b d.toNat = 0 then 0 else alk F b d (i : Int).toNat)), some (vi (i))] [] sz hp0 := by
  intro n
  induction n with
  | zero =>
    intro i  hp0 hi0 hiE he0
    have hiE2 : 21 = i := by omega
    subst hiE2
    have hx2 := hx  hp0 he0
    rw [he0] at hx2
    rw [he0]
    refine pt_iload eR_look_78 rfl ?_
    refine pt_ic eR_look_80 ?_
    refine pt_cgt eR_look_82 ⟨by omega, by omega⟩ ⟨by omega, by omega⟩ (fun c82 => ?_) (fun c82 => ?_)
    · exact hx2
    · exfalso; omega
  | succ n ih =>
    intro i  hp0 hi0 hiE he0
    rw [he0]
    refine pt_iload eR_look_78 rfl ?_
    refine pt_ic eR_look_80 ?_
    refine pt_cgt eR_look_82 ⟨by omega, by omega⟩ ⟨by omega, by omega⟩ (fun c82 => ?_) (fun c82 => ?_)
    · exfalso; omega
    · refine pt_iload eR_look_85 rfl ?_
      refine pt_iload eR_look_87 rfl ?_
      refine pt_iload eR_look_88 rfl ?_
      refine pt_ks2r eR_look_90 (cR_hasi G sz _ (x := b) (by omega) (by omega) (by omega)) (Nat.le_of_ble_eq_true rfl) (by decide) (Nat.le_refl _) (Nat.le_refl _) ?_
      refine pt_zeq eR_look_93 (hasf_j _ _) (fun c93 => ?_) (fun c93 => ?_)
      · refine pt_ic eR_look_126 ?_
        refine pt_iadd eR_look_127 ?_
        refine pt_istore7 eR_look_128 rfl ?_
        refine pt_inc8 eR_look_130 rfl ?_
        refine pt_goto eR_look_133 ?_
        have e9 := alk_s (f := F) (b := b) (d := d) hi0
        refine pt_lve [some (vr 178), some (vi (b : Int)), some (vi fo), some (vi fe), some (vi g), some (vi gr), some (vi d), some (vi (if hasf b d.toNat = 0 then 0 else alk F b d (i + 1 : Int).toNat)), some (vi (i + 1))] (by first | (rw [if_pos c93, if_pos c93]; rfl) | (rw [if_neg c93, if_neg c93, e9, if_pos c102]; done) | (rw [if_neg c93, if_neg c93, e9, if_neg c102, if_neg c119]; done) | (rw [if_neg c93, if_neg c93, e9, if_neg c102, if_pos c119]; done)) ?_
        exact ih (i + 1)  hp (by omega) (by omega) rfl 
      · refine pt_iload eR_look_96 rfl ?_
        refine pt_iload eR_look_97 rfl ?_
        refine pt_ks2r eR_look_99 (cR_hasi G sz _ (x := b) (by omega) (by omega) (by omega)) (Nat.le_of_ble_eq_true rfl) (by decide) (Nat.le_refl _) (Nat.le_refl _) ?_
        refine pt_zeq eR_look_102 (hasf_j _ _) (fun c102 => ?_) (fun c102 => ?_)
        · refine pt_ic eR_look_126 ?_
          refine pt_iadd eR_look_127 ?_
          refine pt_istore7 eR_look_128 rfl ?_
          refine pt_inc8 eR_look_130 rfl ?_
          refine pt_goto eR_look_133 ?_
          have e9 := alk_s (f := F) (b := b) (d := d) hi0
          refine pt_lve [some (vr 178), some (vi (b : Int)), some (vi fo), some (vi fe), some (vi g), some (vi gr), some (vi d), some (vi (if hasf b d.toNat = 0 then 0 else alk F b d (i + 1 : Int).toNat)), some (vi (i + 1))] (by first | (rw [if_pos c93, if_pos c93]; rfl) | (rw [if_neg c93, if_neg c93, e9, if_pos c102]; done) | (rw [if_neg c93, if_neg c93, e9, if_neg c102, if_neg c119]; done) | (rw [if_neg c93, if_neg c93, e9, if_neg c102, if_pos c119]; done)) ?_
          exact ih (i + 1)  hp (by omega) (by omega) rfl 
        · have f1 := hFb d hd0 hd1
          have f2 := hFb i hi0 (by omega)
          refine pt_aload eR_look_105 rfl ?_
          refine pt_get eR_look_106 hR rfl ?_
          refine pt_iload eR_look_109 rfl ?_
          refine pt_iald eR_look_111 h_stores (by omega) (by omega) (by decide) ?_
          refine pt_aload eR_look_112 rfl ?_
          refine pt_get eR_look_113 hR rfl ?_
          refine pt_iload eR_look_116 rfl ?_
          refine pt_iald eR_look_118 h_stores (by omega) (by omega) (by decide) ?_
          refine pt_cne eR_look_119 ⟨by omega, by omega⟩ ⟨by omega, by omega⟩ (fun c119 => ?_) (fun c119 => ?_)
          · refine pt_ic eR_look_126 ?_
            refine pt_iadd eR_look_127 ?_
            refine pt_istore7 eR_look_128 rfl ?_
            refine pt_inc8 eR_look_130 rfl ?_
            refine pt_goto eR_look_133 ?_
            have e9 := alk_s (f := F) (b := b) (d := d) hi0
            refine pt_lve [some (vr 178), some (vi (b : Int)), some (vi fo), some (vi fe), some (vi g), some (vi gr), some (vi d), some (vi (if hasf b d.toNat = 0 then 0 else alk F b d (i + 1 : Int).toNat)), some (vi (i + 1))] (by first | (rw [if_pos c93, if_pos c93]; rfl) | (rw [if_neg c93, if_neg c93, e9, if_pos c102]; done) | (rw [if_neg c93, if_neg c93, e9, if_neg c102, if_neg c119]; done) | (rw [if_neg c93, if_neg c93, e9, if_neg c102, if_pos c119]; done)) ?_
            exact ih (i + 1)  hp (by omega) (by omega) rfl 
          · refine pt_ic eR_look_122 ?_
            refine pt_goto eR_look_123 ?_
            refine pt_iadd eR_look_127 ?_
            refine pt_istore7 eR_look_128 rfl ?_
            refine pt_inc8 eR_look_130 rfl ?_
            refine pt_goto eR_look_133 ?_
            have e9 := alk_s (f := F) (b := b) (d := d) hi0
            refine pt_lve [some (vr 178), some (vi (b : Int)), some (vi fo), some (vi fe), some (vi g), some (vi gr), some (vi d), some (vi (if hasf b d.toNat = 0 then 0 else alk F b d (i + 1 : Int).toNat)), some (vi (i + 1))] (by first | (rw [if_pos c93, if_pos c93]; rfl) | (rw [if_neg c93, if_neg c93, e9, if_pos c102]; done) | (rw [if_neg c93, if_neg c93, e9, if_neg c102, if_neg c119]; done) | (rw [if_neg c93, if_neg c93, e9, if_neg c102, if_pos c119]; done)) ?_
            exact ih (i + 1)  hp (by omega) (by omega) rfl 
theorem lR_look3 (G : pd_G) (sz : Nat) (hp : pd_P) {v : Nat → Int} {F : Int → Int} (hR : hp 178 = RO v) (h_stores : hp 199 = ia 21 F) (hFb : ∀ e, 0 ≤ e → e ≤ 20 → 0 ≤ F e ∧ F e ≤ 999) {b : Nat} (hb : b < 2097152) {fo fe g : Int} {R : pd_R} (hx : ∀ (l7 l8 : Option pv) (hp0 : pd_P), hp0 = hp → pd_t G mR_look 4 R 158 [some (vr 178), some (vi (b : Int)), some (vi fo), some (vi fe), some (vi g), some (vi (mxa F b (21 : Int).toNat)), some (vi (21)), l7, l8] [] sz hp0) : ∀ (n : Nat) (i : Int) (l7 l8 : Option pv) (hp0 : pd_P), 0 ≤ i → i + n = 21 → hp0 = hp → pd_t G mR_look 4 R 65 [some (vr 178), some (vi (b : Int)), some (vi fo), some (vi fe), some (vi g), some (vi (mxa F b (i : Int).toNat)), some (vi (i)), l7, l8] [] sz hp0 := by
  intro n
  induction n with
  | zero =>
    intro i l7 l8 hp0 hi0 hiE hI
    have hiE2 : 21 = i := by omega
    subst hiE2
    have hx2 := hx l7 l8 hp0 hI
    rw [hI]
    rw [hI] at hx2
    refine pt_iload eR_look_65 rfl ?_
    refine pt_ic eR_look_67 ?_
    refine pt_cgt eR_look_69 ⟨by omega, by omega⟩ ⟨by omega, by omega⟩ (fun c69 => ?_) (fun c69 => ?_)
    · exact hx2
    · exfalso; omega
  | succ n ih =>
    intro i l7 l8 hp0 hi0 hiE hI
    rw [hI]
    refine pt_iload eR_look_65 rfl ?_
    refine pt_ic eR_look_67 ?_
    refine pt_cgt eR_look_69 ⟨by omega, by omega⟩ ⟨by omega, by omega⟩ (fun c69 => ?_) (fun c69 => ?_)
    · exfalso; omega
    · refine pt_ic eR_look_72 ?_
      refine pt_istore7 eR_look_73 rfl ?_
      refine pt_ic eR_look_75 ?_
      refine pt_istore8 eR_look_76 rfl ?_
      refine pt_lve [some (vr 178), some (vi (b : Int)), some (vi fo), some (vi fe), some (vi g), some (vi (mxa F b i.toNat)), some (vi i), some (vi (if hasf b i.toNat = 0 then 0 else alk F b i (0 : Int).toNat)), some (vi 0)] (by split <;> rfl) ?_
      refine lR_look2 G sz hp hR h_stores hFb hb hi0 (by omega) (fun hp5 he5 => ?_) 21 0 hp (by omega) (by omega) rfl
      rw [he5]
      have hb9 := mxa_b (f := F) (b := b) i.toNat
      have ha9 := alk_b (f := F) (b := b) (d := i) 21
      have e9 := mxa_s (f := F) (b := b) hi0
      have hn8 : (if hasf b i.toNat = 0 then 0 else alk F b i (21 : Int).toNat) = (if hasf b i.toNat = 0 then 0 else alk F b i 21) := rfl
      rw [hn8]
      have hn9 : 0 ≤ (if hasf b i.toNat = 0 then 0 else alk F b i 21) ∧ (if hasf b i.toNat = 0 then 0 else alk F b i 21) ≤ 21 := by split <;> omega
      generalize (if hasf b i.toNat = 0 then 0 else alk F b i 21) = n9 at hn9 e9 ⊢
      refine pt_iload eR_look_136 rfl ?_
      refine pt_iload eR_look_138 rfl ?_
      refine pt_cle eR_look_140 ⟨by omega, by omega⟩ ⟨by omega, by omega⟩ (fun c140 => ?_) (fun c140 => ?_)
      · refine pt_iload eR_look_148 rfl ?_
        refine pt_istore5 eR_look_150 rfl ?_
        refine pt_inc6 eR_look_152 rfl ?_
        refine pt_goto eR_look_155 ?_
        first
        | (have e8 : mxa F b (i + 1).toNat = n9 := by omega
           refine pt_lve [some (vr 178), some (vi (b : Int)), some (vi fo), some (vi fe), some (vi g), some (vi (mxa F b (i + 1).toNat)), some (vi (i + 1)), _, _] (by rw [e8]) ?_
           exact ih (i + 1) _ _ hp (by omega) (by omega) rfl)
        | (have e8 : mxa F b (i + 1).toNat = mxa F b i.toNat := by omega
           refine pt_lve [some (vr 178), some (vi (b : Int)), some (vi fo), some (vi fe), some (vi g), some (vi (mxa F b (i + 1).toNat)), some (vi (i + 1)), _, _] (by rw [e8]) ?_
           exact ih (i + 1) _ _ hp (by omega) (by omega) rfl)
      · refine pt_iload eR_look_143 rfl ?_
        refine pt_goto eR_look_145 ?_
        refine pt_istore5 eR_look_150 rfl ?_
        refine pt_inc6 eR_look_152 rfl ?_
        refine pt_goto eR_look_155 ?_
        first
        | (have e8 : mxa F b (i + 1).toNat = n9 := by omega
           refine pt_lve [some (vr 178), some (vi (b : Int)), some (vi fo), some (vi fe), some (vi g), some (vi (mxa F b (i + 1).toNat)), some (vi (i + 1)), _, _] (by rw [e8]) ?_
           exact ih (i + 1) _ _ hp (by omega) (by omega) rfl)
        | (have e8 : mxa F b (i + 1).toNat = mxa F b i.toNat := by omega
           refine pt_lve [some (vr 178), some (vi (b : Int)), some (vi fo), some (vi fe), some (vi g), some (vi (mxa F b (i + 1).toNat)), some (vi (i + 1)), _, _] (by rw [e8]) ?_
           exact ih (i + 1) _ _ hp (by omega) (by omega) rfl)
theorem lR_look4 (G : pd_G) (sz : Nat) (hp : pd_P) {v : Nat → Int} {gf br ms us : Int → Int} (hR : hp 178 = RO v) (h_goods : hp 181 = ia 2 gf) (h_brought : hp 186 = ia 160 br) (h_missed : hp 187 = ia 160 ms) (h_use : hp 183 = ia 8 us) (ig0 : 0 ≤ gf 0) (ig4 : gf 0 ≤ 4) (iB : okB br) (iM : okB ms) (iU : okU (gf 0) us) {fi : Int → Int} (h_first : hp 182 = ia 8 fi) (iF : ∀ g, 0 ≤ g → g < gf 0 → 0 ≤ fi g ∧ fi g ≤ 60) {b : Nat} (hb : b < 2097152) (hb0 : b ≠ 0) {R : pd_R} (hx : ∀ (l5 l6 l7 l8 : Option pv) (hp0 : pd_P), (∃ f s, hp0 = va_up (va_up hp 193 (ia 90 f)) 199 (ia 21 s)) → pd_t G mR_look 4 R 182 [some (vr 178), some (vi (b : Int)), some (vi (lk (lMf us br ms fi b) (gf 0 : Int).toNat).1), some (vi (if (gf 0 : Int) = 0 then 0 else (lk (lMf us br ms fi b) (gf 0 : Int).toNat).2)), some (vi (gf 0)), l5, l6, l7, l8] [] sz hp0) : ∀ (n : Nat) (i : Int) (l5 l6 l7 l8 : Option pv) (hp0 : pd_P), 0 ≤ i → i + n = gf 0 → (∃ f s, hp0 = va_up (va_up hp 193 (ia 90 f)) 199 (ia 21 s)) → pd_t G mR_look 4 R 13 [some (vr 178), some (vi (b : Int)), some (vi (lk (lMf us br ms fi b) (i : Int).toNat).1), some (vi (if (i : Int) = 0 then 0 else (lk (lMf us br ms fi b) (i : Int).toNat).2)), some (vi (i)), l5, l6, l7, l8] [] sz hp0 := by
  intro n
  induction n with
  | zero =>
    intro i l5 l6 l7 l8 hp0 hi0 hiE hI
    have hiE2 : gf 0 = i := by omega
    subst hiE2
    have hx2 := hx l5 l6 l7 l8 hp0 hI
    obtain ⟨f0, s0, hI⟩ := hI
    have hR0 := hR
    have h_goods0 := h_goods
    have h_brought0 := h_brought
    have h_missed0 := h_missed
    have h_use0 := h_use
    have h_first0 := h_first
    have hI0 := hI
    obtain ⟨hz, eqz⟩ : ∃ z : pd_P, z = va_up hp 193 (ia 90 f0) := ⟨_, rfl⟩
    rw [← eqz] at hI0
    have hR := pg_n hI0 (by decide) (pg_n eqz (by decide) hR)
    have h_goods := pg_n hI0 (by decide) (pg_n eqz (by decide) h_goods)
    have h_brought := pg_n hI0 (by decide) (pg_n eqz (by decide) h_brought)
    have h_missed := pg_n hI0 (by decide) (pg_n eqz (by decide) h_missed)
    have h_use := pg_n hI0 (by decide) (pg_n eqz (by decide) h_use)
    have h_first := pg_n hI0 (by decide) (pg_n eqz (by decide) h_first)
    have h_tried := pg_n hI0 (by decide) (pg_s eqz)
    have h_stores := pg_s hI0
    refine pt_iload eR_look_13 rfl ?_
    refine pt_aload eR_look_15 rfl ?_
    refine pt_get eR_look_16 hR rfl ?_
    refine pt_ic eR_look_19 ?_
    refine pt_iald eR_look_20 h_goods (by omega) (by omega) (by decide) ?_
    refine pt_cge eR_look_21 ⟨by omega, by omega⟩ ⟨by omega, by omega⟩ (fun c21 => ?_) (fun c21 => ?_)
    · exact hx2
    · exfalso; omega
  | succ n ih =>
    intro i l5 l6 l7 l8 hp0 hi0 hiE hI
    obtain ⟨f0, s0, hI⟩ := hI
    have hR0 := hR
    have h_goods0 := h_goods
    have h_brought0 := h_brought
    have h_missed0 := h_missed
    have h_use0 := h_use
    have h_first0 := h_first
    have hI0 := hI
    obtain ⟨hz, eqz⟩ : ∃ z : pd_P, z = va_up hp 193 (ia 90 f0) := ⟨_, rfl⟩
    rw [← eqz] at hI0
    have hR := pg_n hI0 (by decide) (pg_n eqz (by decide) hR)
    have h_goods := pg_n hI0 (by decide) (pg_n eqz (by decide) h_goods)
    have h_brought := pg_n hI0 (by decide) (pg_n eqz (by decide) h_brought)
    have h_missed := pg_n hI0 (by decide) (pg_n eqz (by decide) h_missed)
    have h_use := pg_n hI0 (by decide) (pg_n eqz (by decide) h_use)
    have h_first := pg_n hI0 (by decide) (pg_n eqz (by decide) h_first)
    have h_tried := pg_n hI0 (by decide) (pg_s eqz)
    have h_stores := pg_s hI0
    refine pt_iload eR_look_13 rfl ?_
    refine pt_aload eR_look_15 rfl ?_
    refine pt_get eR_look_16 hR rfl ?_
    refine pt_ic eR_look_19 ?_
    refine pt_iald eR_look_20 h_goods (by omega) (by omega) (by decide) ?_
    refine pt_cge eR_look_21 ⟨by omega, by omega⟩ ⟨by omega, by omega⟩ (fun c21 => ?_) (fun c21 => ?_)
    · exfalso; omega
    · refine pt_iload eR_look_24 rfl ?_
      refine pt_zeq eR_look_25 ⟨by omega, by omega⟩ (fun c25 => ?_) (fun c25 => ?_)
      · exfalso; omega
      · refine pt_ic eR_look_28 ?_
        refine pt_istore5 eR_look_29 rfl ?_
        refine lR_look1 G sz hp hR0 h_goods0 h_brought0 h_missed0 h_use0 ig0 ig4 iB iM iU h_first0 iF (s0 := s0) hi0 (by omega) (fun hp5 hI5 => ?_) 21 0 hp0 (by omega) (by omega) ⟨f0, by rw [blk_0]; exact hI⟩
        obtain ⟨f5, hI5⟩ := hI5
        refine pt_ext (pg_s hI5) (g := (fun e => sto us br ms fi i e.toNat)) (fun e h1 h2 => by rw [blk_in (by omega) (by omega), show e - 0 = e by omega]) ?_
        rw [hI5, bx_uu]
        refine pt_gen ?_
        intro hp6 ev6
        obtain ⟨hz, eqz⟩ : ∃ z : pd_P, z = va_up hp 193 (ia 90 f5) := ⟨_, rfl⟩
        have ev7 := ev6
        rw [← eqz] at ev7
        have hR := pg_n ev7 (by decide) (pg_n eqz (by decide) hR0)
        have h_stores := pg_s ev7
        refine pt_ic eR_look_59 ?_
        refine pt_istore5 eR_look_60 rfl ?_
        refine pt_ic eR_look_62 ?_
        refine pt_istore6 eR_look_63 rfl ?_
        refine lR_look3 G sz hp6 hR h_stores (fun e h0 h1 => sto_b hi0 (by omega) ig4 iB iM iU iF e.toNat (by omega)) hb (fun l7 l8 hp7 he7 => ?_) 21 0 _ _ hp6 (by omega) (by omega) rfl
        rw [he7]
        have e9 := lk_s (M := (lMf us br ms fi b)) hi0
        have hmb : ∀ x, 0 ≤ (lMf us br ms fi b) x ∧ (lMf us br ms fi b) x ≤ 21 := fun x => mxa_b 21
        obtain ⟨b1, b2, b3, b4, b5, b6⟩ := lk_b hmb i.toNat
        have hm1 := hmb i
        have hm2 : mxa (fun e => sto us br ms fi i e.toNat) b (21 : Int).toNat = lMf us br ms fi b i := rfl
        rw [hm2]
        rcases (show i = 0 ∨ (1 ≤ i ∧ ¬ i = 0) by omega) with hi9 | hi9
        · have b3 := b3 (by omega)
          have b7 : (lk (lMf us br ms fi b) i.toNat).1 = -9 := by rw [b3]
          have b8 : (lk (lMf us br ms fi b) i.toNat).2 = 22 := by rw [b3]
          rw [b7]
          refine pt_iload eR_look_158 rfl ?_
          refine pt_ic eR_look_159 ?_
          refine pt_ceq eR_look_161 ⟨by omega, by omega⟩ ⟨by omega, by omega⟩ (fun c161 => ?_) (fun c161 => ?_)
          · refine pt_iload eR_look_170 rfl ?_
            refine pt_istore2 eR_look_172 rfl ?_
            refine pt_iload eR_look_173 rfl ?_
            refine pt_istore3 eR_look_175 rfl ?_
            refine pt_inc4 eR_look_176 rfl ?_
            refine pt_goto eR_look_179 ?_
            first
            | (have e8 : lk (lMf us br ms fi b) (i + 1).toNat = (i, lMf us br ms fi b i) := by
                 rw [e9, if_pos (by omega)]
               refine pt_lve [some (vr 178), some (vi (b : Int)), some (vi (lk (lMf us br ms fi b) (i + 1 : Int).toNat).1), some (vi (if (i + 1 : Int) = 0 then 0 else (lk (lMf us br ms fi b) (i + 1 : Int).toNat).2)), some (vi (i + 1)), _, _, _, _] (by rw [if_neg (by omega), e8]) ?_
               exact ih (i + 1) _ _ _ _ hp6 (by omega) (by omega) ⟨_, _, ev6⟩)
            | (have e8 : lk (lMf us br ms fi b) (i + 1).toNat = lk (lMf us br ms fi b) i.toNat := by
                 rw [e9, if_neg (by omega)]
               refine pt_lve [some (vr 178), some (vi (b : Int)), some (vi (lk (lMf us br ms fi b) (i + 1 : Int).toNat).1), some (vi (if (i + 1 : Int) = 0 then 0 else (lk (lMf us br ms fi b) (i + 1 : Int).toNat).2)), some (vi (i + 1)), _, _, _, _] (by rw [if_neg (by omega), e8]) ?_
               exact ih (i + 1) _ _ _ _ hp6 (by omega) (by omega) ⟨_, _, ev6⟩)
          · exfalso; omega
        · obtain ⟨b7, b8, b9⟩ := b4 (by omega)
          rw [if_neg hi9.2]
          refine pt_iload eR_look_158 rfl ?_
          refine pt_ic eR_look_159 ?_
          refine pt_ceq eR_look_161 ⟨by omega, by omega⟩ ⟨by omega, by omega⟩ (fun c161 => ?_) (fun c161 => ?_)
          · refine pt_iload eR_look_170 rfl ?_
            refine pt_istore2 eR_look_172 rfl ?_
            refine pt_iload eR_look_173 rfl ?_
            refine pt_istore3 eR_look_175 rfl ?_
            refine pt_inc4 eR_look_176 rfl ?_
            refine pt_goto eR_look_179 ?_
            first
            | (have e8 : lk (lMf us br ms fi b) (i + 1).toNat = (i, lMf us br ms fi b i) := by
                 rw [e9, if_pos (by omega)]
               refine pt_lve [some (vr 178), some (vi (b : Int)), some (vi (lk (lMf us br ms fi b) (i + 1 : Int).toNat).1), some (vi (if (i + 1 : Int) = 0 then 0 else (lk (lMf us br ms fi b) (i + 1 : Int).toNat).2)), some (vi (i + 1)), _, _, _, _] (by rw [if_neg (by omega), e8]) ?_
               exact ih (i + 1) _ _ _ _ hp6 (by omega) (by omega) ⟨_, _, ev6⟩)
            | (have e8 : lk (lMf us br ms fi b) (i + 1).toNat = lk (lMf us br ms fi b) i.toNat := by
                 rw [e9, if_neg (by omega)]
               refine pt_lve [some (vr 178), some (vi (b : Int)), some (vi (lk (lMf us br ms fi b) (i + 1 : Int).toNat).1), some (vi (if (i + 1 : Int) = 0 then 0 else (lk (lMf us br ms fi b) (i + 1 : Int).toNat).2)), some (vi (i + 1)), _, _, _, _] (by rw [if_neg (by omega), e8]) ?_
               exact ih (i + 1) _ _ _ _ hp6 (by omega) (by omega) ⟨_, _, ev6⟩)
          · refine pt_iload eR_look_164 rfl ?_
            refine pt_iload eR_look_166 rfl ?_
            refine pt_cge eR_look_167 ⟨by omega, by omega⟩ ⟨by omega, by omega⟩ (fun c167 => ?_) (fun c167 => ?_)
            · refine pt_inc4 eR_look_176 rfl ?_
              refine pt_goto eR_look_179 ?_
              first
              | (have e8 : lk (lMf us br ms fi b) (i + 1).toNat = (i, lMf us br ms fi b i) := by
                   rw [e9, if_pos (by omega)]
                 refine pt_lve [some (vr 178), some (vi (b : Int)), some (vi (lk (lMf us br ms fi b) (i + 1 : Int).toNat).1), some (vi (if (i + 1 : Int) = 0 then 0 else (lk (lMf us br ms fi b) (i + 1 : Int).toNat).2)), some (vi (i + 1)), _, _, _, _] (by rw [if_neg (by omega), e8]) ?_
                 exact ih (i + 1) _ _ _ _ hp6 (by omega) (by omega) ⟨_, _, ev6⟩)
              | (have e8 : lk (lMf us br ms fi b) (i + 1).toNat = lk (lMf us br ms fi b) i.toNat := by
                   rw [e9, if_neg (by omega)]
                 refine pt_lve [some (vr 178), some (vi (b : Int)), some (vi (lk (lMf us br ms fi b) (i + 1 : Int).toNat).1), some (vi (if (i + 1 : Int) = 0 then 0 else (lk (lMf us br ms fi b) (i + 1 : Int).toNat).2)), some (vi (i + 1)), _, _, _, _] (by rw [if_neg (by omega), e8]) ?_
                 exact ih (i + 1) _ _ _ _ hp6 (by omega) (by omega) ⟨_, _, ev6⟩)
            · refine pt_iload eR_look_170 rfl ?_
              refine pt_istore2 eR_look_172 rfl ?_
              refine pt_iload eR_look_173 rfl ?_
              refine pt_istore3 eR_look_175 rfl ?_
              refine pt_inc4 eR_look_176 rfl ?_
              refine pt_goto eR_look_179 ?_
              first
              | (have e8 : lk (lMf us br ms fi b) (i + 1).toNat = (i, lMf us br ms fi b i) := by
                   rw [e9, if_pos (by omega)]
                 refine pt_lve [some (vr 178), some (vi (b : Int)), some (vi (lk (lMf us br ms fi b) (i + 1 : Int).toNat).1), some (vi (if (i + 1 : Int) = 0 then 0 else (lk (lMf us br ms fi b) (i + 1 : Int).toNat).2)), some (vi (i + 1)), _, _, _, _] (by rw [if_neg (by omega), e8]) ?_
                 exact ih (i + 1) _ _ _ _ hp6 (by omega) (by omega) ⟨_, _, ev6⟩)
              | (have e8 : lk (lMf us br ms fi b) (i + 1).toNat = lk (lMf us br ms fi b) i.toNat := by
                   rw [e9, if_neg (by omega)]
                 refine pt_lve [some (vr 178), some (vi (b : Int)), some (vi (lk (lMf us br ms fi b) (i + 1 : Int).toNat).1), some (vi (if (i + 1 : Int) = 0 then 0 else (lk (lMf us br ms fi b) (i + 1 : Int).toNat).2)), some (vi (i + 1)), _, _, _, _] (by rw [if_neg (by omega), e8]) ?_
                 exact ih (i + 1) _ _ _ _ hp6 (by omega) (by omega) ⟨_, _, ev6⟩)
theorem xR_look (G : pd_G) (sz : Nat) (hp : pd_P) {q : Nat → Int → Int} {v : Nat → Int} (hM : MW hp q v) (hI : IN q v) : pd_c G mR_look 4 [vr 178] sz hp (mPosG hp sz q v (rLook q v)) := by
  refine pd_con kR_look [some (vr 178), none, none, none, none, none, none, none, none] rfl rfl (Nat.le_of_ble_eq_true rfl) ?_
  obtain ⟨⟨ig0, ig4⟩, ⟨id0, id1, id2, id3⟩, iB, iM, iU, iF, iS, iP, iI, ⟨is0, is4, isx⟩, ⟨im0, im4, imx⟩, it0, it1⟩ := hI
  have hR := hM.1
  have h_tried := hM.w_tried
  have h_goods := hM.w_goods
  have h_brought := hM.w_brought
  have h_missed := hM.w_missed
  have h_use := hM.w_use
  have h_first := hM.w_first
  have h_sightOf := hM.w_sightOf
  have h_sightIs := hM.w_sightIs
  refine pt_aload eR_look_0 rfl ?_
  refine pt_kv0 eR_look_1 (cR_days G sz _ hR h_goods h_brought h_missed h_use ig0 ig4 iB iM iU h_first (fun g h0 h1 => (iF g h0 h1).1) h_sightOf h_sightIs is0 is4 isx h_tried) hR rfl (Nat.le_of_ble_eq_true rfl) (by decide) (Nat.le_refl _) (Nat.le_refl _) ?_
  rintro v2 sz2 hpx ⟨rfl, hz9, f9, hx9⟩
  obtain rfl := hz9.symm
  have hM1 : MW hpx (va_up q 22 f9) v := by rw [hx9]; exact hM.s_tried f9
  have hR := hM1.1
  have h_goods : hpx 181 = ia 2 (q 3) := hM1.w_goods
  have hb9 : dsf q v < 2097152 := dset_b 21
  rw [show ((dset (fun d => asn (fun g => sto (q 5) (q 8) (q 9) (q 4) g d.toNat) (q 24) (q 25) (v 26).toNat) 21 : Nat) : Int) = ((dsf q v : Nat) : Int) from rfl]
  generalize hdd : dsf q v = dd at hb9
  have hrl : rLook q v = if dd = 0 then -9 else (lk (lMf (q 5) (q 8) (q 9) (q 4) dd) (q 3 0).toNat).1 := by rw [← hdd]; rfl
  refine pt_istore1 eR_look_4 rfl ?_
  refine pt_ic eR_look_5 ?_
  refine pt_istore2 eR_look_7 rfl ?_
  refine pt_ic eR_look_8 ?_
  refine pt_istore3 eR_look_9 rfl ?_
  refine pt_ic eR_look_10 ?_
  refine pt_istore4 eR_look_11 rfl ?_
  by_cases hd0 : dd = 0
  · rw [if_pos hd0] at hrl
    rw [hrl]
    refine pt_iload eR_look_13 rfl ?_
    refine pt_aload eR_look_15 rfl ?_
    refine pt_get eR_look_16 hR rfl ?_
    refine pt_ic eR_look_19 ?_
    refine pt_iald eR_look_20 h_goods (by omega) (by omega) (by decide) ?_
    refine pt_cge eR_look_21 ⟨by omega, by omega⟩ ⟨by omega, by omega⟩ (fun c21 => ?_) (fun c21 => ?_)
    · refine pt_iload eR_look_182 rfl ?_
      refine pt_iret eR_look_183 (Nat.le_refl _) (Nat.le_refl _) ?_
      exact ⟨rfl, rfl, ⟨va_up q 22 f9, fun j h1 _ _ => va_up_ne _ _ h1, hM1⟩, fr.rf.up hx9 (by decide) (by decide)⟩
    · refine pt_iload eR_look_24 rfl ?_
      refine pt_zeq eR_look_25 ⟨by omega, by omega⟩ (fun c25 => ?_) (fun c25 => ?_)
      · refine pt_iload eR_look_182 rfl ?_
        refine pt_iret eR_look_183 (Nat.le_refl _) (Nat.le_refl _) ?_
        exact ⟨rfl, rfl, ⟨va_up q 22 f9, fun j h1 _ _ => va_up_ne _ _ h1, hM1⟩, fr.rf.up hx9 (by decide) (by decide)⟩
      · exfalso; omega
  · rw [if_neg hd0] at hrl
    rw [hrl]
    have hw1 : hpx = va_up (va_up hp 193 (ia 90 f9)) 199 (ia 21 (q 30)) := by rw [← hx9]; exact pu_self hM1.w_stores
    refine lR_look4 G sz hp hM.1 hM.w_goods hM.w_brought hM.w_missed hM.w_use ig0 ig4 iB iM iU hM.w_first (fun g h0 h1 => (iF g h0 h1).1) hb9 hd0 (fun l5 l6 l7 l8 hp5 hI5 => ?_) (q 3 0).toNat 0 none none none none hpx (by omega) (by omega) ⟨f9, _, hw1⟩
    obtain ⟨f5, s5, hI5⟩ := hI5
    have hM2 := (hM.s_tried f5).s_stores s5
    rw [← hI5] at hM2
    have hR := hM2.1
    obtain ⟨hz, eqz⟩ : ∃ z : pd_P, z = va_up hp 193 (ia 90 f5) := ⟨_, rfl⟩
    rw [← eqz] at hI5
    refine pt_iload eR_look_182 rfl ?_
    refine pt_iret eR_look_183 (Nat.le_refl _) (Nat.le_refl _) ?_
    exact ⟨rfl, rfl, ⟨_, fun j h1 _ h3 => by rw [va_up_ne _ _ h3, va_up_ne _ _ h1], hM2⟩, (fr.rf.up eqz (by decide) (by decide)).up hI5 (by decide) (by decide)⟩
theorem lD_alike (G : pd_G) (sz : Nat) (hp : pd_P) {to dr : Nat} {se ga gd ev bk : Int} {st F : Int → Int} {b : Nat} {g : Int} (hD : hp 1 = DO to dr se ga) (hH : hp to = HO to gd ev bk) (hH7 : hp (to + 7) = ia 84 st) (hg0 : 0 ≤ g) (hg4 : g < 4) (hb : b < 2097152) (hst : ∀ d, 0 ≤ d → d ≤ 20 → st (4 * d + g) = F d) (hSb : ∀ d, 0 ≤ d → d ≤ 20 → 0 ≤ F d ∧ F d ≤ 999) {d : Int} (hd0 : 0 ≤ d) (hd1 : d ≤ 20) {R : pd_R} (hx : ∀  (hp0 : pd_P), hp0 = hp → pd_t G mD_alike 0 R 62 [some (vr 1), some (vi d), some (vi g), some (vi (b : Int)), some (vi (alk F b d (21 : Int).toNat)), some (vi (21))] [] sz hp0) : ∀ (n : Nat) (i : Int)  (hp0 : pd_P), 0 ≤ i → i + n = 21 → hp0 = hp → pd_t G mD_alike 0 R 6 [some (vr 1), some (vi d), some (vi g), some (vi (b : Int)), some (vi (alk F b d (i : Int).toNat)), some (vi (i))] [] sz hp0 := by
  intro n
  induction n with
  | zero =>
    intro i  hp0 hi0 hiE he0
    have hiE2 : 21 = i := by omega
    subst hiE2
    have hx2 := hx  hp0 he0
    rw [he0] at hx2
    rw [he0]
    refine pt_iload eD_alike_6 rfl ?_
    refine pt_ic eD_alike_8 ?_
    refine pt_cgt eD_alike_10 ⟨by omega, by omega⟩ ⟨by omega, by omega⟩ (fun c10 => ?_) (fun c10 => ?_)
    · exact hx2
    · exfalso; omega
  | succ n ih =>
    intro i  hp0 hi0 hiE he0
    rw [he0]
    refine pt_iload eD_alike_6 rfl ?_
    refine pt_ic eD_alike_8 ?_
    refine pt_cgt eD_alike_10 ⟨by omega, by omega⟩ ⟨by omega, by omega⟩ (fun c10 => ?_) (fun c10 => ?_)
    · exfalso; omega
    · have f1 := hSb d hd0 hd1
      have f2 := hSb i hi0 (by omega)
      have s1 := hst d hd0 hd1
      have s2 := hst i hi0 (by omega)
      have hm : ((b / 2 ^ i.toNat : Nat) : Int) % 2 ^ 1 = ((b / 2 ^ i.toNat % 2 : Nat) : Int) := by omega
      have e9 := alk_s (f := F) (b := b) (d := d) hi0
      refine pt_iload eD_alike_13 rfl ?_
      refine pt_iload eD_alike_14 rfl ?_
      refine pt_ishr (z := ((b / 2 ^ i.toNat : Nat) : Int)) eD_alike_16 (jI_shri (by omega) (by omega) (by omega)) ?_
      refine pt_ic eD_alike_17 ?_
      refine pt_iand 1 eD_alike_18 (by decide) (by decide) ?_
      refine pt_ic eD_alike_19 ?_
      refine pt_cne eD_alike_20 ⟨by omega, by omega⟩ ⟨by omega, by omega⟩ (fun c20 => ?_) (fun c20 => ?_)
      · refine pt_inc5 eD_alike_56 rfl ?_
        refine pt_goto eD_alike_59 ?_
        refine pt_lve [some (vr 1), some (vi d), some (vi g), some (vi (b : Int)), some (vi (alk F b d (i + 1 : Int).toNat)), some (vi (i + 1))] (by first | (rw [e9, if_pos (hasf_n c20), Int.add_zero]; done) | (rw [e9, if_neg (hasf_y (by omega)), if_neg (by omega), Int.add_zero]; done) | (rw [e9, if_neg (hasf_y (by omega)), if_pos (by omega)]; done)) ?_
        exact ih (i + 1)  hp (by omega) (by omega) rfl 
      · refine pt_aload eD_alike_23 rfl ?_
        refine pt_get eD_alike_24 hD rfl ?_
        refine pt_get eD_alike_27 hH rfl ?_
        refine pt_iload eD_alike_30 rfl ?_
        refine pt_ic eD_alike_32 ?_
        refine pt_imul eD_alike_33 ?_
        refine pt_iload eD_alike_34 rfl ?_
        refine pt_iadd eD_alike_35 ?_
        refine pt_iald eD_alike_36 hH7 (by omega) (by omega) (by decide) ?_
        rw [show i * 4 + g = 4 * i + g by omega, s2]
        refine pt_aload eD_alike_37 rfl ?_
        refine pt_get eD_alike_38 hD rfl ?_
        refine pt_get eD_alike_41 hH rfl ?_
        refine pt_iload eD_alike_44 rfl ?_
        refine pt_ic eD_alike_45 ?_
        refine pt_imul eD_alike_46 ?_
        refine pt_iload eD_alike_47 rfl ?_
        refine pt_iadd eD_alike_48 ?_
        refine pt_iald eD_alike_49 hH7 (by omega) (by omega) (by decide) ?_
        rw [show d * 4 + g = 4 * d + g by omega, s1]
        refine pt_cne eD_alike_50 ⟨by omega, by omega⟩ ⟨by omega, by omega⟩ (fun c50 => ?_) (fun c50 => ?_)
        · refine pt_inc5 eD_alike_56 rfl ?_
          refine pt_goto eD_alike_59 ?_
          refine pt_lve [some (vr 1), some (vi d), some (vi g), some (vi (b : Int)), some (vi (alk F b d (i + 1 : Int).toNat)), some (vi (i + 1))] (by first | (rw [e9, if_pos (hasf_n c20), Int.add_zero]; done) | (rw [e9, if_neg (hasf_y (by omega)), if_neg (by omega), Int.add_zero]; done) | (rw [e9, if_neg (hasf_y (by omega)), if_pos (by omega)]; done)) ?_
          exact ih (i + 1)  hp (by omega) (by omega) rfl 
        · refine pt_inc4 eD_alike_53 rfl ?_
          refine pt_inc5 eD_alike_56 rfl ?_
          refine pt_goto eD_alike_59 ?_
          refine pt_lve [some (vr 1), some (vi d), some (vi g), some (vi (b : Int)), some (vi (alk F b d (i + 1 : Int).toNat)), some (vi (i + 1))] (by first | (rw [e9, if_pos (hasf_n c20), Int.add_zero]; done) | (rw [e9, if_neg (hasf_y (by omega)), if_neg (by omega), Int.add_zero]; done) | (rw [e9, if_neg (hasf_y (by omega)), if_pos (by omega)]; done)) ?_
          exact ih (i + 1)  hp (by omega) (by omega) rfl 
theorem cD_alike (G : pd_G) (sz : Nat) (hp : pd_P) {to dr : Nat} {se ga gd ev bk : Int} {st F : Int → Int} {b : Nat} {g : Int} (hD : hp 1 = DO to dr se ga) (hH : hp to = HO to gd ev bk) (hH7 : hp (to + 7) = ia 84 st) (hg0 : 0 ≤ g) (hg4 : g < 4) (hb : b < 2097152) (hst : ∀ d, 0 ≤ d → d ≤ 20 → st (4 * d + g) = F d) (hSb : ∀ d, 0 ≤ d → d ≤ 20 → 0 ≤ F d ∧ F d ≤ 999) {d : Int} (hd0 : 0 ≤ d) (hd1 : d ≤ 20) : pd_c G mD_alike 0 [vr 1, vi d, vi g, vi (b : Int)] sz hp (pd_pure (vi (alk F b d 21)) sz hp) := by
  refine pd_con kD_alike [some (vr 1), some (vi d), some (vi g), some (vi (b : Int)), none, none] rfl rfl (Nat.le_of_ble_eq_true rfl) ?_
  refine pt_ic eD_alike_0 ?_
  refine pt_istore4 eD_alike_1 rfl ?_
  refine pt_ic eD_alike_3 ?_
  refine pt_istore5 eD_alike_4 rfl ?_
  refine lD_alike G sz hp hD hH hH7 hg0 hg4 hb hst hSb hd0 hd1 (fun hp5 he5 => ?_) 21 0 hp (by omega) (by omega) rfl
  rw [he5]
  refine pt_iload eD_alike_62 rfl ?_
  refine pt_iret eD_alike_64 (Nat.le_refl _) (Nat.le_refl _) ?_
  exact ⟨rfl, rfl, rfl⟩
theorem lD_most (G : pd_G) (sz : Nat) (hp : pd_P) {to dr : Nat} {se ga gd ev bk : Int} {st F : Int → Int} {b : Nat} {g : Int} (hD : hp 1 = DO to dr se ga) (hH : hp to = HO to gd ev bk) (hH7 : hp (to + 7) = ia 84 st) (hg0 : 0 ≤ g) (hg4 : g < 4) (hb : b < 2097152) (hst : ∀ d, 0 ≤ d → d ≤ 20 → st (4 * d + g) = F d) (hSb : ∀ d, 0 ≤ d → d ≤ 20 → 0 ≤ F d ∧ F d ≤ 999) {R : pd_R} (hx : ∀  (hp0 : pd_P), hp0 = hp → pd_t G mD_mostAlike 1 R 41 [some (vr 1), some (vi g), some (vi (b : Int)), some (vi (mxa F b (21 : Int).toNat)), some (vi (21))] [] sz hp0) : ∀ (n : Nat) (i : Int)  (hp0 : pd_P), 0 ≤ i → i + n = 21 → hp0 = hp → pd_t G mD_mostAlike 1 R 5 [some (vr 1), some (vi g), some (vi (b : Int)), some (vi (mxa F b (i : Int).toNat)), some (vi (i))] [] sz hp0 := by
  intro n
  induction n with
  | zero =>
    intro i  hp0 hi0 hiE he0
    have hiE2 : 21 = i := by omega
    subst hiE2
    have hx2 := hx  hp0 he0
    rw [he0] at hx2
    rw [he0]
    refine pt_iload eD_mostAlike_5 rfl ?_
    refine pt_ic eD_mostAlike_7 ?_
    refine pt_cgt eD_mostAlike_9 ⟨by omega, by omega⟩ ⟨by omega, by omega⟩ (fun c9 => ?_) (fun c9 => ?_)
    · exact hx2
    · exfalso; omega
  | succ n ih =>
    intro i  hp0 hi0 hiE he0
    rw [he0]
    refine pt_iload eD_mostAlike_5 rfl ?_
    refine pt_ic eD_mostAlike_7 ?_
    refine pt_cgt eD_mostAlike_9 ⟨by omega, by omega⟩ ⟨by omega, by omega⟩ (fun c9 => ?_) (fun c9 => ?_)
    · exfalso; omega
    · have hm : ((b / 2 ^ i.toNat : Nat) : Int) % 2 ^ 1 = ((b / 2 ^ i.toNat % 2 : Nat) : Int) := by omega
      have e9 := mxa_s (f := F) (b := b) hi0
      have hb9 := mxa_b (f := F) (b := b) i.toNat
      have ha9 := alk_b (f := F) (b := b) (d := i) 21
      refine pt_iload eD_mostAlike_12 rfl ?_
      refine pt_iload eD_mostAlike_13 rfl ?_
      refine pt_ishr (z := ((b / 2 ^ i.toNat : Nat) : Int)) eD_mostAlike_15 (jI_shri (by omega) (by omega) (by omega)) ?_
      refine pt_ic eD_mostAlike_16 ?_
      refine pt_iand 1 eD_mostAlike_17 (by decide) (by decide) ?_
      refine pt_ic eD_mostAlike_18 ?_
      refine pt_cne eD_mostAlike_19 ⟨by omega, by omega⟩ ⟨by omega, by omega⟩ (fun c19 => ?_) (fun c19 => ?_)
      · refine pt_inc4 eD_mostAlike_35 rfl ?_
        refine pt_goto eD_mostAlike_38 ?_
        refine pt_lve [some (vr 1), some (vi g), some (vi (b : Int)), some (vi (mxa F b (i + 1 : Int).toNat)), some (vi (i + 1))] (by first | (rw [if_pos (hasf_n c19)] at e9; rw [show mxa F b (i + 1).toNat = mxa F b i.toNat by omega]; done) | (rw [e9, if_neg (hasf_y (by omega))]; done)) ?_
        exact ih (i + 1)  hp (by omega) (by omega) rfl 
      · refine pt_iload eD_mostAlike_22 rfl ?_
        refine pt_aload eD_mostAlike_23 rfl ?_
        refine pt_iload eD_mostAlike_24 rfl ?_
        refine pt_iload eD_mostAlike_26 rfl ?_
        refine pt_iload eD_mostAlike_27 rfl ?_
        refine pt_kv3r eD_mostAlike_28 (cD_alike G sz _ hD hH hH7 hg0 hg4 hb hst hSb hi0 (by omega)) hD rfl (Nat.le_of_ble_eq_true rfl) (by decide) (Nat.le_refl _) (Nat.le_refl _) ?_
        refine pt_max eD_mostAlike_31 ⟨by omega, by omega⟩ ⟨by omega, by omega⟩ (by decide) (Nat.le_of_ble_eq_true rfl) (Nat.le_refl _) (Nat.le_refl _) ?_
        refine pt_istore3 eD_mostAlike_34 rfl ?_
        refine pt_inc4 eD_mostAlike_35 rfl ?_
        refine pt_goto eD_mostAlike_38 ?_
        refine pt_lve [some (vr 1), some (vi g), some (vi (b : Int)), some (vi (mxa F b (i + 1 : Int).toNat)), some (vi (i + 1))] (by first | (rw [if_pos (hasf_n c19)] at e9; rw [show mxa F b (i + 1).toNat = mxa F b i.toNat by omega]; done) | (rw [e9, if_neg (hasf_y (by omega))]; done)) ?_
        exact ih (i + 1)  hp (by omega) (by omega) rfl 
theorem cD_mostAlike (G : pd_G) (sz : Nat) (hp : pd_P) {to dr : Nat} {se ga gd ev bk : Int} {st F : Int → Int} {b : Nat} {g : Int} (hD : hp 1 = DO to dr se ga) (hH : hp to = HO to gd ev bk) (hH7 : hp (to + 7) = ia 84 st) (hg0 : 0 ≤ g) (hg4 : g < 4) (hb : b < 2097152) (hst : ∀ d, 0 ≤ d → d ≤ 20 → st (4 * d + g) = F d) (hSb : ∀ d, 0 ≤ d → d ≤ 20 → 0 ≤ F d ∧ F d ≤ 999) : pd_c G mD_mostAlike 1 [vr 1, vi g, vi (b : Int)] sz hp (pd_pure (vi (mxa F b 21)) sz hp) := by
  refine pd_con kD_mostAlike [some (vr 1), some (vi g), some (vi (b : Int)), none, none] rfl rfl (Nat.le_of_ble_eq_true rfl) ?_
  refine pt_ic eD_mostAlike_0 ?_
  refine pt_istore3 eD_mostAlike_1 rfl ?_
  refine pt_ic eD_mostAlike_2 ?_
  refine pt_istore4 eD_mostAlike_3 rfl ?_
  refine lD_most G sz hp hD hH hH7 hg0 hg4 hb hst hSb (fun hp5 he5 => ?_) 21 0 hp (by omega) (by omega) rfl
  rw [he5]
  refine pt_iload eD_mostAlike_41 rfl ?_
  refine pt_iret eD_mostAlike_42 (Nat.le_refl _) (Nat.le_refl _) ?_
  exact ⟨rfl, rfl, rfl⟩
theorem lD_look (G : pd_G) (sz : Nat) (hp : pd_P) {to dr : Nat} {se ga gd ev bk : Int} {st : Int → Int} {T : Int → Int → Int} {b : Nat} (hD : hp 1 = DO to dr se ga) (hH : hp to = HO to gd ev bk) (hH7 : hp (to + 7) = ia 84 st) (hg0 : 0 ≤ gd) (hg4 : gd ≤ 4) (hb : b < 2097152) (hst : ∀ d g, 0 ≤ d → d ≤ 20 → 0 ≤ g → g < gd → st (4 * d + g) = T d g) (hSb : ∀ d g, 0 ≤ d → d ≤ 20 → 0 ≤ g → g < gd → 0 ≤ T d g ∧ T d g ≤ 999) {R : pd_R} (hx : ∀ (l5 : Option pv) (hp0 : pd_P), hp0 = hp → pd_t G mD_look 2 R 60 [some (vr 1), some (vi (b : Int)), some (vi (lk (fun g => mxa (fun e => T e g) b 21) (gd : Int).toNat).1), some (vi (lk (fun g => mxa (fun e => T e g) b 21) (gd : Int).toNat).2), some (vi (gd)), l5] [] sz hp0) : ∀ (n : Nat) (i : Int) (l5 : Option pv) (hp0 : pd_P), 0 ≤ i → i + n = gd → hp0 = hp → pd_t G mD_look 2 R 21 [some (vr 1), some (vi (b : Int)), some (vi (lk (fun g => mxa (fun e => T e g) b 21) (i : Int).toNat).1), some (vi (lk (fun g => mxa (fun e => T e g) b 21) (i : Int).toNat).2), some (vi (i)), l5] [] sz hp0 := by
  intro n
  induction n with
  | zero =>
    intro i l5 hp0 hi0 hiE he0
    have hiE2 : gd = i := by omega
    subst hiE2
    have hx2 := hx l5 hp0 he0
    rw [he0] at hx2
    rw [he0]
    refine pt_iload eD_look_21 rfl ?_
    refine pt_aload eD_look_23 rfl ?_
    refine pt_get eD_look_24 hD rfl ?_
    refine pt_get eD_look_27 hH rfl ?_
    refine pt_cge eD_look_30 ⟨by omega, by omega⟩ ⟨by omega, by omega⟩ (fun c30 => ?_) (fun c30 => ?_)
    · exact hx2
    · exfalso; omega
  | succ n ih =>
    intro i l5 hp0 hi0 hiE he0
    rw [he0]
    refine pt_iload eD_look_21 rfl ?_
    refine pt_aload eD_look_23 rfl ?_
    refine pt_get eD_look_24 hD rfl ?_
    refine pt_get eD_look_27 hH rfl ?_
    refine pt_cge eD_look_30 ⟨by omega, by omega⟩ ⟨by omega, by omega⟩ (fun c30 => ?_) (fun c30 => ?_)
    · exfalso; omega
    · have hmb : ∀ x, 0 ≤ (fun g => mxa (fun e => T e g) b 21) x ∧ (fun g => mxa (fun e => T e g) b 21) x ≤ 21 := fun x => mxa_b 21
      obtain ⟨b1, b2, b3, b4, b5, b6⟩ := lk_b hmb i.toNat
      have hm1 : 0 ≤ mxa (fun e => T e i) b 21 ∧ mxa (fun e => T e i) b 21 ≤ 21 := mxa_b 21
      have e9 : lk (fun g => mxa (fun e => T e g) b 21) (i + 1).toNat = if mxa (fun e => T e i) b 21 < (lk (fun g => mxa (fun e => T e g) b 21) i.toNat).2 then (i, mxa (fun e => T e i) b 21) else lk (fun g => mxa (fun e => T e g) b 21) i.toNat := lk_s (M := (fun g => mxa (fun e => T e g) b 21)) hi0
      refine pt_aload eD_look_33 rfl ?_
      refine pt_iload eD_look_34 rfl ?_
      refine pt_iload eD_look_36 rfl ?_
      refine pt_kv2r eD_look_37 (cD_mostAlike G sz _ hD hH hH7 hi0 (by omega) hb (F := fun e => T e i) (fun d h0 h1 => hst d i h0 h1 hi0 (by omega)) (fun d h0 h1 => hSb d i h0 h1 hi0 (by omega))) hD rfl (Nat.le_of_ble_eq_true rfl) (by decide) (Nat.le_refl _) (Nat.le_refl _) ?_
      refine pt_istore5 eD_look_40 rfl ?_
      refine pt_iload eD_look_42 rfl ?_
      refine pt_iload eD_look_44 rfl ?_
      refine pt_cge eD_look_45 ⟨by omega, by omega⟩ ⟨by omega, by omega⟩ (fun c45 => ?_) (fun c45 => ?_)
      · refine pt_inc4 eD_look_54 rfl ?_
        refine pt_goto eD_look_57 ?_
        first
        | (rw [if_pos (by omega)] at e9
           refine pt_lve [some (vr 1), some (vi (b : Int)), some (vi (lk (fun g => mxa (fun e => T e g) b 21) (i + 1 : Int).toNat).1), some (vi (lk (fun g => mxa (fun e => T e g) b 21) (i + 1 : Int).toNat).2), some (vi (i + 1)), _] (by rw [e9]) ?_)
        | (rw [if_neg (by omega)] at e9
           refine pt_lve [some (vr 1), some (vi (b : Int)), some (vi (lk (fun g => mxa (fun e => T e g) b 21) (i + 1 : Int).toNat).1), some (vi (lk (fun g => mxa (fun e => T e g) b 21) (i + 1 : Int).toNat).2), some (vi (i + 1)), _] (by rw [e9]) ?_)
        exact ih (i + 1) _ hp (by omega) (by omega) rfl 
      · refine pt_iload eD_look_48 rfl ?_
        refine pt_istore3 eD_look_50 rfl ?_
        refine pt_iload eD_look_51 rfl ?_
        refine pt_istore2 eD_look_53 rfl ?_
        refine pt_inc4 eD_look_54 rfl ?_
        refine pt_goto eD_look_57 ?_
        first
        | (rw [if_pos (by omega)] at e9
           refine pt_lve [some (vr 1), some (vi (b : Int)), some (vi (lk (fun g => mxa (fun e => T e g) b 21) (i + 1 : Int).toNat).1), some (vi (lk (fun g => mxa (fun e => T e g) b 21) (i + 1 : Int).toNat).2), some (vi (i + 1)), _] (by rw [e9]) ?_)
        | (rw [if_neg (by omega)] at e9
           refine pt_lve [some (vr 1), some (vi (b : Int)), some (vi (lk (fun g => mxa (fun e => T e g) b 21) (i + 1 : Int).toNat).1), some (vi (lk (fun g => mxa (fun e => T e g) b 21) (i + 1 : Int).toNat).2), some (vi (i + 1)), _] (by rw [e9]) ?_)
        exact ih (i + 1) _ hp (by omega) (by omega) rfl 
theorem xD_look (G : pd_G) (sz : Nat) (hp : pd_P) {to dr : Nat} {q : Nat → Int → Int} {v : Nat → Int} (hC : CW hp to dr q v) (hI : IN q v) : pd_c G mD_look 2 [vr 1] sz hp (cPost hp sz ((q, v, rLook q v))) := by
  refine pd_con kD_look [some (vr 1), none, none, none, none, none] rfl rfl (Nat.le_of_ble_eq_true rfl) ?_
  obtain ⟨⟨ig0, ig4⟩, ⟨id0, id1, id2, id3⟩, iB, iM, iU, iF, iS, iP, iI, ⟨is0, is4, isx⟩, ⟨im0, im4, imx⟩, it0, it1⟩ := hI
  have hC0 := hC
  obtain ⟨hto, hDo, hTx, hHs, hHd, hLf, hI0, hI1, hGo, hPl⟩ := hC
  have hDo2 := hDo
  obtain ⟨hD, ⟨imf, hIm, him0, him1⟩, hKp, hSg, hSt, hGd, hGt⟩ := hDo2
  have hHs2 := hHs
  obtain ⟨fi, us, we, wo, stt, hHo, hag, hstt⟩ := hHs2
  have hHo2 := hHo
  obtain ⟨hH, hH1, hH2, hH3, hH4, hH5, hH6, hH7⟩ := hHo2
  refine pt_aload eD_look_0 rfl ?_
  refine pt_kv0r eD_look_1 (cD_days G sz _ hD hSg hSt hH hH7 ig4 is0 is4 isx (T := fun d g => sto (q 5) (q 8) (q 9) (q 4) g d.toNat) (fun d g h0 h1 h2 h3 => by have h9 := hstt d.toNat g (by omega) h2 h3; rw [Int.toNat_of_nonneg h0] at h9; exact h9) (fun d g h0 h1 h2 h3 => sto_b h2 h3 ig4 iB iM iU (fun g h0 h1 => (iF g h0 h1).1) d.toNat (by omega))) hD rfl (Nat.le_of_ble_eq_true rfl) (by decide) (Nat.le_refl _) (Nat.le_refl _) ?_
  have hb9 : dsf q v < 2097152 := dset_b 21
  rw [show ((dset (fun d => asn ((fun d g => sto (q 5) (q 8) (q 9) (q 4) g d.toNat) d) (q 24) (q 25) (v 26).toNat) 21 : Nat) : Int) = ((dsf q v : Nat) : Int) from rfl]
  generalize hdd : dsf q v = dd at hb9
  have hrl : rLook q v = if dd = 0 then -9 else (lk (lMf (q 5) (q 8) (q 9) (q 4) dd) (q 3 0).toNat).1 := by rw [← hdd]; rfl
  refine pt_istore1 eD_look_4 rfl ?_
  refine pt_iload eD_look_5 rfl ?_
  refine pt_zne eD_look_6 ⟨by omega, by omega⟩ (fun c6 => ?_) (fun c6 => ?_)
  · refine pt_ic eD_look_12 ?_
    refine pt_istore2 eD_look_14 rfl ?_
    refine pt_ic eD_look_15 ?_
    refine pt_istore3 eD_look_17 rfl ?_
    refine pt_ic eD_look_18 ?_
    refine pt_istore4 eD_look_19 rfl ?_
    rw [if_neg (by omega)] at hrl
    refine lD_look G sz hp hD hH hH7 ig0 ig4 hb9 (T := fun d g => sto (q 5) (q 8) (q 9) (q 4) g d.toNat) (fun d g h0 h1 h2 h3 => by have h9 := hstt d.toNat g (by omega) h2 h3; rw [Int.toNat_of_nonneg h0] at h9; exact h9) (fun d g h0 h1 h2 h3 => sto_b h2 h3 ig4 iB iM iU (fun g h0 h1 => (iF g h0 h1).1) d.toNat (by omega)) (fun l5 hp5 he5 => ?_) (q 3 0).toNat 0 none hp (by omega) (by omega) rfl
    rw [he5]
    refine pt_iload eD_look_60 rfl ?_
    refine pt_iret eD_look_61 (Nat.le_refl _) (Nat.le_refl _) ?_
    rw [hrl]
    exact ⟨rfl, rfl, ⟨to, dr, hC0⟩, fr.rf⟩
  · refine pt_ic eD_look_9 ?_
    refine pt_iret eD_look_11 (Nat.le_refl _) (Nat.le_refl _) ?_
    rw [if_pos (by omega)] at hrl
    rw [hrl]
    exact ⟨rfl, rfl, ⟨to, dr, hC0⟩, fr.rf⟩
