/-! what is worth most -/
def mxr (wo we c w : Int) (T : Int → Int) : Nat → Int → Int → Int
  | 0, _, v => v
  | f + 1, n, v => if n ≤ c ∧ n * we ≤ w then mxr wo we c w T f (n + 1) (max v (n * wo + T (w - n * we))) else v
def bst (C WO WE : Int → Int) (gd : Int) : Nat → Int → Int
  | 0, _ => 0
  | k + 1, w => mxr (WO (gd - k - 1)) (WE (gd - k - 1)) (C (gd - k - 1)) w (bst C WO WE gd k) 62 0 0
def Bf (C WO WE : Int → Int) (gd g : Int) : Int → Int := bst C WO WE gd (gd - g).toNat
theorem Bf_s {C WO WE : Int → Int} {gd g : Int} (h0 : 0 ≤ g) (h1 : g < gd) (w : Int) : Bf C WO WE gd g w = mxr (WO g) (WE g) (C g) w (Bf C WO WE gd (g + 1)) 62 0 0 := by
  unfold Bf
  rw [show (gd - g).toNat = (gd - (g + 1)).toNat + 1 by omega, bst, show gd - ((gd - (g + 1)).toNat : Int) - 1 = g by omega]
theorem Bf_e {C WO WE : Int → Int} {gd : Int} (w : Int) : Bf C WO WE gd gd w = 0 := by
  unfold Bf
  rw [show (gd - gd).toNat = 0 by omega]
  rfl
def okC (C WO WE : Int → Int) (gd : Int) : Prop := ∀ g, 0 ≤ g → g < gd → (0 ≤ C g ∧ C g ≤ 30) ∧ (0 ≤ WO g ∧ WO g ≤ 9) ∧ (1 ≤ WE g ∧ WE g ≤ 9)
theorem mul_b {n w K : Int} (h0 : 0 ≤ n) (h1 : n ≤ K) (h2 : 0 ≤ w) (h3 : w ≤ 9) : 0 ≤ n * w ∧ n * w ≤ K * 9 :=
  ⟨Int.mul_nonneg h0 h2, Int.mul_le_mul h1 h3 h2 (by omega)⟩
theorem mxr_b {wo we c w K : Int} {T : Int → Int} (h0 : 0 ≤ wo) (h9 : wo ≤ 9) (hc : c ≤ 30) (hT : ∀ x, 0 ≤ T x ∧ T x ≤ K) : ∀ (f : Nat) (n v : Int), 0 ≤ n → 0 ≤ v → v ≤ K + 270 → 0 ≤ mxr wo we c w T f n v ∧ mxr wo we c w T f n v ≤ K + 270
  | 0, n, v, _, hv, hv2 => ⟨hv, hv2⟩
  | f + 1, n, v, hn, hv, hv2 => by
    rw [mxr]
    split
    · rename_i hx
      have h1 := mul_b hn (show n ≤ 30 by omega) h0 h9
      have h2 := hT (w - n * we)
      exact mxr_b h0 h9 hc hT f (n + 1) _ (by omega) (by omega) (by omega)
    · exact ⟨hv, hv2⟩
theorem bst_b {C WO WE : Int → Int} {gd : Int} (h : okC C WO WE gd) : ∀ (k : Nat), (k : Int) ≤ gd → ∀ w, 0 ≤ bst C WO WE gd k w ∧ bst C WO WE gd k w ≤ 270 * k
  | 0, _, w => ⟨Int.le_refl 0, by show (0 : Int) ≤ 270 * ((0 : Nat) : Int); omega⟩
  | k + 1, hk, w => by
    obtain ⟨h1, h2, h3⟩ := h (gd - k - 1) (by omega) (by omega)
    have h4 := mxr_b (w := w) (we := WE (gd - k - 1)) h2.1 h2.2 h1.2 (bst_b h k (by omega)) 62 0 0 (by omega) (by omega) (by omega)
    rw [bst]
    omega
theorem Bf_b {C WO WE : Int → Int} {gd g : Int} (h : okC C WO WE gd) (h0 : 0 ≤ g) (h1 : g ≤ gd) (h4 : gd ≤ 4) (w : Int) : 0 ≤ Bf C WO WE gd g w ∧ Bf C WO WE gd g w ≤ 1080 := by
  have := bst_b h (gd - g).toNat (by omega) w
  unfold Bf
  omega
theorem mxr_hit {wo we c w : Int} {T : Int → Int} : ∀ (f : Nat) (n v : Int), mxr wo we c w T f n v = v ∨ ∃ m, n ≤ m ∧ m < n + f ∧ m ≤ c ∧ m * we ≤ w ∧ m * wo + T (w - m * we) = mxr wo we c w T f n v
  | 0, n, v => Or.inl rfl
  | f + 1, n, v => by
    rw [mxr]
    split
    · rename_i hx
      rcases mxr_hit (wo := wo) (we := we) (c := c) (w := w) (T := T) f (n + 1) (max v (n * wo + T (w - n * we))) with h | ⟨m, h1, h2, h3, h4, h5⟩
      · rcases (show max v (n * wo + T (w - n * we)) = v ∨ max v (n * wo + T (w - n * we)) = n * wo + T (w - n * we) by omega) with h6 | h6
        · exact Or.inl (by rw [h, h6])
        · exact Or.inr ⟨n, Int.le_refl _, by omega, hx.1, hx.2, by rw [h, h6]⟩
      · exact Or.inr ⟨m, by omega, by omega, h3, h4, h5⟩
    · exact Or.inl rfl
theorem Bf_hit {C WO WE : Int → Int} {gd g w : Int} (h : okC C WO WE gd) (h0 : 0 ≤ g) (h1 : g < gd) (h4 : gd ≤ 4) (hw : 0 ≤ w) : ∃ m, 0 ≤ m ∧ m < 62 ∧ m ≤ C g ∧ m * WE g ≤ w ∧ m * WO g + Bf C WO WE gd (g + 1) (w - m * WE g) = Bf C WO WE gd g w := by
  have hb := Bf_b h (g := g + 1) (by omega) (by omega) h4 (w - 0 * WE g)
  obtain ⟨k1, k2, k3⟩ := h g h0 h1
  rw [Bf_s h0 h1 w, mxr, if_pos ⟨k1.1, by omega⟩]
  have e1 : max 0 (0 * WO g + Bf C WO WE gd (g + 1) (w - 0 * WE g)) = 0 * WO g + Bf C WO WE gd (g + 1) (w - 0 * WE g) := by omega
  rw [e1]
  rcases mxr_hit (wo := WO g) (we := WE g) (c := C g) (w := w) (T := Bf C WO WE gd (g + 1)) 61 (0 + 1) (0 * WO g + Bf C WO WE gd (g + 1) (w - 0 * WE g)) with h9 | ⟨m, h5, h6, h7, h8, h9⟩
  · exact ⟨0, by omega, by omega, k1.1, by omega, h9.symm⟩
  · exact ⟨m, by omega, by omega, h7, h8, h9⟩
def lst (wo we c w : Int) (T : Int → Int) (b : Int) : Nat → Int → Int
  | 0, _ => 0
  | f + 1, n => if n ≤ c ∧ n * we ≤ w then (if n * wo + T (w - n * we) = b then n else lst wo we c w T b f (n + 1)) else 0
theorem lst_r {wo we c w b m : Int} {T : Int → Int} (hwe : 0 ≤ we) (hc : m ≤ c) (hw : m * we ≤ w) (hm : m * wo + T (w - m * we) = b) : ∀ (f : Nat) (n : Int), 0 ≤ n → n ≤ m → m < n + f → n ≤ lst wo we c w T b f n ∧ lst wo we c w T b f n ≤ c ∧ lst wo we c w T b f n * we ≤ w
  | 0, n, _, h1, h2 => absurd h2 (by omega)
  | f + 1, n, h0, h1, h2 => by
    have hmo : n * we ≤ m * we := Int.mul_le_mul_of_nonneg_right h1 hwe
    rw [lst, if_pos ⟨by omega, by omega⟩]
    split
    · exact ⟨Int.le_refl _, by omega, by omega⟩
    · rename_i hx
      have hne : n ≠ m := fun he => hx (by rw [he]; exact hm)
      obtain ⟨r1, r2, r3⟩ := lst_r hwe hc hw hm f (n + 1) (by omega) (by omega) (by omega)
      exact ⟨by omega, r2, r3⟩
def lcf (C WO WE : Int → Int) (gd g w : Int) : Int := lst (WO g) (WE g) (C g) w (Bf C WO WE gd (g + 1)) (Bf C WO WE gd g w) 62 0
theorem lcf_r {C WO WE : Int → Int} {gd g w : Int} (h : okC C WO WE gd) (h0 : 0 ≤ g) (h1 : g < gd) (h4 : gd ≤ 4) (hw : 0 ≤ w) : 0 ≤ lcf C WO WE gd g w ∧ lcf C WO WE gd g w ≤ 30 ∧ lcf C WO WE gd g w * WE g ≤ w := by
  obtain ⟨m, m0, m1, m2, m3, m4⟩ := Bf_hit h h0 h1 h4 hw
  obtain ⟨k1, k2, k3⟩ := h g h0 h1
  obtain ⟨r1, r2, r3⟩ := lst_r (by omega) m2 m3 m4 62 0 (by omega) m0 (by omega)
  exact ⟨r1, Int.le_trans r2 k1.2, r3⟩
def lff (C WO WE : Int → Int) (gd W : Int) : Nat → Int
  | 0 => W
  | k + 1 => lff C WO WE gd W k - lcf C WO WE gd k (lff C WO WE gd W k) * WE k
theorem lff_s {C WO WE : Int → Int} {gd W i : Int} (h : 0 ≤ i) : lff C WO WE gd W (i + 1).toNat = lff C WO WE gd W i.toNat - lcf C WO WE gd i (lff C WO WE gd W i.toNat) * WE i := by
  rw [show (i + 1).toNat = i.toNat + 1 by omega, lff, Int.toNat_of_nonneg h]
theorem lff_r {C WO WE : Int → Int} {gd W : Int} (h : okC C WO WE gd) (h4 : gd ≤ 4) (hW : 0 ≤ W) : ∀ k : Nat, (k : Int) ≤ gd → 0 ≤ lff C WO WE gd W k ∧ lff C WO WE gd W k ≤ W
  | 0, _ => ⟨hW, Int.le_refl _⟩
  | k + 1, hk => by
    obtain ⟨r1, r2⟩ := lff_r h h4 hW k (by omega)
    obtain ⟨s1, s2, s3⟩ := lcf_r h (g := (k : Int)) (by omega) (by omega) h4 r1
    obtain ⟨k1, k2, k3⟩ := h k (by omega) (by omega)
    have := Int.mul_nonneg s1 (show 0 ≤ WE k by omega)
    rw [lff]
    omega
def cCf (q : Nat → Int → Int) : Int → Int := canf (q 2 0) (q 2 1) (q 9) (q 17)
def rCarry (q : Nat → Int → Int) (w g : Int) : Int := if ¬ ((0 ≤ w ∧ w ≤ 60) ∧ (g = -1 ∨ (0 ≤ g ∧ g ≤ q 3 0 - 1))) then -1 else if opf (q 2 0) (q 2 1) (q 17) = -9 then -9 else if g = -1 then Bf (cCf q) (q 7) (q 6) (q 3 0) 0 w else lcf (cCf q) (q 7) (q 6) (q 3 0) g (lff (cCf q) (q 7) (q 6) (q 3 0) w g.toNat)
theorem lR_tm1 (G : pd_G) (sz : Nat) (hp : pd_P) {v : Nat → Int} {gf df ms σ we wo : Int → Int} (hR : hp 178 = RO v) (h_goods : hp 181 = ia 2 gf) (h_door : hp 180 = ia 4 df) (h_missed : hp 187 = ia 160 ms) (h_now : hp 188 = ia 90 σ) (h_weight : hp 184 = ia 8 we) (h_worth : hp 185 = ia 8 wo) (ig0 : 0 ≤ gf 0) (ig4 : gf 0 ≤ 4) (id0 : 1 ≤ df 0) (id1 : df 0 ≤ 9) (id2 : 1 ≤ df 1) (id3 : df 1 ≤ 9) (hs : okS ms σ) (hok : okC (canf (df 0) (df 1) ms σ) wo we (gf 0)) {f0 : Int → Int} {g w : Int} (h_most : hp 194 = ia 305 f0) (hrow : ∀ x, 0 ≤ x → x ≤ 60 → f0 (61 * (g + 1) + x) = Bf (canf (df 0) (df 1) ms σ) wo we (gf 0) (g + 1) (x)) (hg0 : 0 ≤ g) (hg1 : g < gf 0) (hw0 : 0 ≤ w) (hw1 : w ≤ 60) {R : pd_R} (hx : ∀ l4 l5, pd_t G mR_tellMost 4 R 138 [some (vr 178), some (vi g), some (vi w), some (vi (Bf (canf (df 0) (df 1) ms σ) wo we (gf 0) (g) (w))), l4, l5] [] sz hp) : ∀ (fu : Nat) (n v0 : Int) (l5 : Option pv), 0 ≤ n → n + fu = 62 → 0 ≤ v0 → v0 ≤ 1350 → mxr (wo g) (we g) ((canf (df 0) (df 1) ms σ) g) w (Bf (canf (df 0) (df 1) ms σ) wo we (gf 0) (g + 1)) fu n v0 = Bf (canf (df 0) (df 1) ms σ) wo we (gf 0) (g) (w) → pd_t G mR_tellMost 4 R 57 [some (vr 178), some (vi g), some (vi w), some (vi v0), some (vi n), l5] [] sz hp := by
  intro fu
  induction fu with
  | zero =>
    intro n v0 l5 hn0 hnE hv0 hv1 hres
    have k0 := hok g hg0 hg1
    have k1 := k0.1
    have k2 := k0.2.1
    have k3 := k0.2.2
    have m1 := mul_b hn0 (show n ≤ 62 by omega) k2.1 k2.2
    have m2 := mul_b hn0 (show n ≤ 62 by omega) (show 0 ≤ we g by omega) k3.2
    have hres2 : v0 = Bf (canf (df 0) (df 1) ms σ) wo we (gf 0) (g) (w) := hres
    refine pt_iload eR_tellMost_57 rfl ?_
    refine pt_aload eR_tellMost_59 rfl ?_
    refine pt_aload eR_tellMost_60 rfl ?_
    refine pt_get eR_tellMost_61 hR rfl ?_
    refine pt_iload eR_tellMost_64 rfl ?_
    refine pt_kv2r eR_tellMost_65 (cR_canTake G sz _ hR h_door h_missed h_now id0 id1 id2 id3 hs.1 hs.2.1 hs.2.2.1 (by omega) (by omega)) hR rfl (Nat.le_of_ble_eq_true rfl) (by decide) (Nat.le_refl _) (Nat.le_refl _) ?_
    refine pt_cgt eR_tellMost_68 ⟨by omega, by omega⟩ ⟨by omega, by omega⟩ (fun c68 => ?_) (fun c68 => ?_)
    · rw [hres2]
      exact hx _ _
    · exfalso; omega
  | succ fu ih =>
    intro n v0 l5 hn0 hnE hv0 hv1 hres
    have k0 := hok g hg0 hg1
    have k1 := k0.1
    have k2 := k0.2.1
    have k3 := k0.2.2
    have m1 := mul_b hn0 (show n ≤ 62 by omega) k2.1 k2.2
    have m2 := mul_b hn0 (show n ≤ 62 by omega) (show 0 ≤ we g by omega) k3.2
    rw [mxr] at hres
    have hBb := Bf_b hok (g := g + 1) (by omega) (by omega) ig4 (w - n * we g)
    refine pt_iload eR_tellMost_57 rfl ?_
    refine pt_aload eR_tellMost_59 rfl ?_
    refine pt_aload eR_tellMost_60 rfl ?_
    refine pt_get eR_tellMost_61 hR rfl ?_
    refine pt_iload eR_tellMost_64 rfl ?_
    refine pt_kv2r eR_tellMost_65 (cR_canTake G sz _ hR h_door h_missed h_now id0 id1 id2 id3 hs.1 hs.2.1 hs.2.2.1 (by omega) (by omega)) hR rfl (Nat.le_of_ble_eq_true rfl) (by decide) (Nat.le_refl _) (Nat.le_refl _) ?_
    refine pt_cgt eR_tellMost_68 ⟨by omega, by omega⟩ ⟨by omega, by omega⟩ (fun c68 => ?_) (fun c68 => ?_)
    · rw [if_neg (by omega)] at hres
      rw [hres]
      exact hx _ _
    · refine pt_iload eR_tellMost_71 rfl ?_
      refine pt_aload eR_tellMost_73 rfl ?_
      refine pt_get eR_tellMost_74 hR rfl ?_
      refine pt_iload eR_tellMost_77 rfl ?_
      refine pt_iald eR_tellMost_78 h_weight (by omega) (by omega) (by decide) ?_
      refine pt_imul eR_tellMost_79 ?_
      refine pt_iload eR_tellMost_80 rfl ?_
      refine pt_cgt eR_tellMost_81 ⟨by omega, by omega⟩ ⟨by omega, by omega⟩ (fun c81 => ?_) (fun c81 => ?_)
      · rw [if_neg (by omega)] at hres
        rw [hres]
        exact hx _ _
      · have m3 := mul_b hn0 (show n ≤ 30 by omega) k2.1 k2.2
        have hrw := hrow (w - n * we g) (by omega) (by omega)
        rw [if_pos ⟨by omega, by omega⟩] at hres
        refine pt_iload eR_tellMost_84 rfl ?_
        refine pt_aload eR_tellMost_86 rfl ?_
        refine pt_get eR_tellMost_87 hR rfl ?_
        refine pt_iload eR_tellMost_90 rfl ?_
        refine pt_iald eR_tellMost_91 h_worth (by omega) (by omega) (by decide) ?_
        refine pt_imul eR_tellMost_92 ?_
        refine pt_aload eR_tellMost_93 rfl ?_
        refine pt_get eR_tellMost_94 hR rfl ?_
        refine pt_ic eR_tellMost_97 ?_
        refine pt_iload eR_tellMost_99 rfl ?_
        refine pt_ic eR_tellMost_100 ?_
        refine pt_iadd eR_tellMost_101 ?_
        refine pt_imul eR_tellMost_102 ?_
        refine pt_iload eR_tellMost_103 rfl ?_
        refine pt_iadd eR_tellMost_104 ?_
        refine pt_iload eR_tellMost_105 rfl ?_
        refine pt_aload eR_tellMost_107 rfl ?_
        refine pt_get eR_tellMost_108 hR rfl ?_
        refine pt_iload eR_tellMost_111 rfl ?_
        refine pt_iald eR_tellMost_112 h_weight (by omega) (by omega) (by decide) ?_
        refine pt_imul eR_tellMost_113 ?_
        refine pt_isub eR_tellMost_114 ?_
        refine pt_iald eR_tellMost_115 h_most (by omega) (by omega) (by decide) ?_
        rw [show 61 * (g + 1) + w - n * we g = 61 * (g + 1) + (w - n * we g) by omega, hrw]
        refine pt_iadd eR_tellMost_116 ?_
        refine pt_istore5 eR_tellMost_117 rfl ?_
        refine pt_iload eR_tellMost_119 rfl ?_
        refine pt_iload eR_tellMost_121 rfl ?_
        refine pt_cle eR_tellMost_122 ⟨by omega, by omega⟩ ⟨by omega, by omega⟩ (fun c122 => ?_) (fun c122 => ?_)
        · refine pt_iload eR_tellMost_130 rfl ?_
          refine pt_istore3 eR_tellMost_131 rfl ?_
          refine pt_inc4 eR_tellMost_132 rfl ?_
          refine pt_goto eR_tellMost_135 ?_
          first
          | (have e9 : max v0 (n * wo g + Bf (canf (df 0) (df 1) ms σ) wo we (gf 0) (g + 1) (w - n * we g)) = (n * wo g + Bf (canf (df 0) (df 1) ms σ) wo we (gf 0) (g + 1) (w - n * we g)) := by omega
             rw [e9] at hres
             exact ih (n + 1) _ _ (by omega) (by omega) (by omega) (by omega) hres)
          | (have e9 : max v0 (n * wo g + Bf (canf (df 0) (df 1) ms σ) wo we (gf 0) (g + 1) (w - n * we g)) = v0 := by omega
             rw [e9] at hres
             exact ih (n + 1) _ _ (by omega) (by omega) (by omega) (by omega) hres)
        · refine pt_iload eR_tellMost_125 rfl ?_
          refine pt_goto eR_tellMost_127 ?_
          refine pt_istore3 eR_tellMost_131 rfl ?_
          refine pt_inc4 eR_tellMost_132 rfl ?_
          refine pt_goto eR_tellMost_135 ?_
          first
          | (have e9 : max v0 (n * wo g + Bf (canf (df 0) (df 1) ms σ) wo we (gf 0) (g + 1) (w - n * we g)) = (n * wo g + Bf (canf (df 0) (df 1) ms σ) wo we (gf 0) (g + 1) (w - n * we g)) := by omega
             rw [e9] at hres
             exact ih (n + 1) _ _ (by omega) (by omega) (by omega) (by omega) hres)
          | (have e9 : max v0 (n * wo g + Bf (canf (df 0) (df 1) ms σ) wo we (gf 0) (g + 1) (w - n * we g)) = v0 := by omega
             rw [e9] at hres
             exact ih (n + 1) _ _ (by omega) (by omega) (by omega) (by omega) hres)
theorem lR_tm2 (G : pd_G) (sz : Nat) (hp : pd_P) {v : Nat → Int} {gf df ms σ we wo : Int → Int} (hR : hp 178 = RO v) (h_goods : hp 181 = ia 2 gf) (h_door : hp 180 = ia 4 df) (h_missed : hp 187 = ia 160 ms) (h_now : hp 188 = ia 90 σ) (h_weight : hp 184 = ia 8 we) (h_worth : hp 185 = ia 8 wo) (ig0 : 0 ≤ gf 0) (ig4 : gf 0 ≤ 4) (id0 : 1 ≤ df 0) (id1 : df 0 ≤ 9) (id2 : 1 ≤ df 1) (id3 : df 1 ≤ 9) (hs : okS ms σ) (hok : okC (canf (df 0) (df 1) ms σ) wo we (gf 0)) {g : Int} (hg0 : 0 ≤ g) (hg1 : g < gf 0) {R : pd_R} (hx : ∀ (l3 l4 l5 : Option pv) (hp0 : pd_P), (∃ f : Int → Int, hp0 = va_up hp 194 (ia 305 f) ∧ (∀ g1 x, g < g1 → g1 ≤ gf 0 → 0 ≤ x → x ≤ 60 → f (61 * g1 + x) = Bf (canf (df 0) (df 1) ms σ) wo we (gf 0) (g1) (x)) ∧ ∀ x, 0 ≤ x → x < 61 → f (61 * g + x) = Bf (canf (df 0) (df 1) ms σ) wo we (gf 0) (g) (x)) → pd_t G mR_tellMost 4 R 156 [some (vr 178), some (vi g), some (vi (61)), l3, l4, l5] [] sz hp0) : ∀ (n : Nat) (i : Int) (l3 l4 l5 : Option pv) (hp0 : pd_P), 0 ≤ i → i + n = 61 → (∃ f : Int → Int, hp0 = va_up hp 194 (ia 305 f) ∧ (∀ g1 x, g < g1 → g1 ≤ gf 0 → 0 ≤ x → x ≤ 60 → f (61 * g1 + x) = Bf (canf (df 0) (df 1) ms σ) wo we (gf 0) (g1) (x)) ∧ ∀ x, 0 ≤ x → x < i → f (61 * g + x) = Bf (canf (df 0) (df 1) ms σ) wo we (gf 0) (g) (x)) → pd_t G mR_tellMost 4 R 46 [some (vr 178), some (vi g), some (vi (i)), l3, l4, l5] [] sz hp0 := by
  intro n
  induction n with
  | zero =>
    intro i l3 l4 l5 hp0 hi0 hiE hI
    have hiE2 : 61 = i := by omega
    subst hiE2
    have hx2 := hx l3 l4 l5 hp0 hI
    obtain ⟨f0, hI, hr1, hr2⟩ := hI
    have hR := pg_n hI (by decide) hR
    have h_goods := pg_n hI (by decide) h_goods
    have h_door := pg_n hI (by decide) h_door
    have h_missed := pg_n hI (by decide) h_missed
    have h_now := pg_n hI (by decide) h_now
    have h_weight := pg_n hI (by decide) h_weight
    have h_worth := pg_n hI (by decide) h_worth
    have h_most := pg_s hI
    refine pt_iload eR_tellMost_46 rfl ?_
    refine pt_ic eR_tellMost_47 ?_
    refine pt_cgt eR_tellMost_49 ⟨by omega, by omega⟩ ⟨by omega, by omega⟩ (fun c49 => ?_) (fun c49 => ?_)
    · exact hx2
    · exfalso; omega
  | succ n ih =>
    intro i l3 l4 l5 hp0 hi0 hiE hI
    obtain ⟨f0, hI, hr1, hr2⟩ := hI
    have hR := pg_n hI (by decide) hR
    have h_goods := pg_n hI (by decide) h_goods
    have h_door := pg_n hI (by decide) h_door
    have h_missed := pg_n hI (by decide) h_missed
    have h_now := pg_n hI (by decide) h_now
    have h_weight := pg_n hI (by decide) h_weight
    have h_worth := pg_n hI (by decide) h_worth
    have h_most := pg_s hI
    refine pt_iload eR_tellMost_46 rfl ?_
    refine pt_ic eR_tellMost_47 ?_
    refine pt_cgt eR_tellMost_49 ⟨by omega, by omega⟩ ⟨by omega, by omega⟩ (fun c49 => ?_) (fun c49 => ?_)
    · exfalso; omega
    · refine pt_ic eR_tellMost_52 ?_
      refine pt_istore3 eR_tellMost_53 rfl ?_
      refine pt_ic eR_tellMost_54 ?_
      refine pt_istore4 eR_tellMost_55 rfl ?_
      have hBb := Bf_b hok (g := g) hg0 (by omega) ig4 i
      refine lR_tm1 G sz hp0 hR h_goods h_door h_missed h_now h_weight h_worth ig0 ig4 id0 id1 id2 id3 hs hok h_most (fun x h0 h1 => hr1 (g + 1) x (by omega) (by omega) h0 h1) hg0 hg1 hi0 (by omega) (fun l4 l5 => ?_) 62 0 0 _ (by omega) (by omega) (by omega) (by omega) (Bf_s hg0 hg1 i).symm
      refine pt_aload eR_tellMost_138 rfl ?_
      refine pt_get eR_tellMost_139 hR rfl ?_
      refine pt_ic eR_tellMost_142 ?_
      refine pt_iload eR_tellMost_144 rfl ?_
      refine pt_imul eR_tellMost_145 ?_
      refine pt_iload eR_tellMost_146 rfl ?_
      refine pt_iadd eR_tellMost_147 ?_
      refine pt_iload eR_tellMost_148 rfl ?_
      refine pt_iast eR_tellMost_149 h_most (by omega) (by omega) (by decide) ?_
      refine pt_gen ?_
      intro hp1 ev1
      have hR := pg_n ev1 (by omega) hR
      have h_most := pg_s ev1
      have h_goods := pg_n ev1 (by omega) h_goods
      have h_door := pg_n ev1 (by omega) h_door
      have h_missed := pg_n ev1 (by omega) h_missed
      have h_now := pg_n ev1 (by omega) h_now
      have h_weight := pg_n ev1 (by omega) h_weight
      have h_worth := pg_n ev1 (by omega) h_worth
      refine pt_inc2 eR_tellMost_150 rfl ?_
      refine pt_goto eR_tellMost_153 ?_
      refine ih (i + 1) _ _ _ hp1 (by omega) (by omega) ⟨_, by rw [ev1, hI, bx_uu], fun g1 x h1 h2 h3 h4 => ?_, fun x h1 h2 => ?_⟩
      · rw [uI_n _ _ (by omega)]
        exact hr1 g1 x h1 h2 h3 h4
      · by_cases hxi : x = i
        · rw [hxi, uI_s]
        · rw [uI_n _ _ (by omega)]
          exact hr2 x h1 (by omega)
theorem lR_tm3 (G : pd_G) (sz : Nat) (hp : pd_P) {v : Nat → Int} {gf df ms σ we wo : Int → Int} (hR : hp 178 = RO v) (h_goods : hp 181 = ia 2 gf) (h_door : hp 180 = ia 4 df) (h_missed : hp 187 = ia 160 ms) (h_now : hp 188 = ia 90 σ) (h_weight : hp 184 = ia 8 we) (h_worth : hp 185 = ia 8 wo) (ig0 : 0 ≤ gf 0) (ig4 : gf 0 ≤ 4) (id0 : 1 ≤ df 0) (id1 : df 0 ≤ 9) (id2 : 1 ≤ df 1) (id3 : df 1 ≤ 9) (hs : okS ms σ) (hok : okC (canf (df 0) (df 1) ms σ) wo we (gf 0)) {R : pd_R} (hx : ∀ l2 l3 l4 l5 (hp0 : pd_P), (∃ f : Int → Int, hp0 = va_up hp 194 (ia 305 f) ∧ ∀ g1 x, 0 ≤ g1 → g1 ≤ gf 0 → 0 ≤ x → x ≤ 60 → f (61 * g1 + x) = Bf (canf (df 0) (df 1) ms σ) wo we (gf 0) (g1) (x)) → pd_t G mR_tellMost 4 R 162 [some (vr 178), some (vi (-1)), l2, l3, l4, l5] [] sz hp0) : ∀ (n : Nat) (l2 l3 l4 l5 : Option pv) (hp0 : pd_P), (n : Int) ≤ gf 0 → (∃ f : Int → Int, hp0 = va_up hp 194 (ia 305 f) ∧ ∀ g1 x, (n : Int) ≤ g1 → g1 ≤ gf 0 → 0 ≤ x → x ≤ 60 → f (61 * g1 + x) = Bf (canf (df 0) (df 1) ms σ) wo we (gf 0) (g1) (x)) → pd_t G mR_tellMost 4 R 40 [some (vr 178), some (vi ((n : Int) - 1)), l2, l3, l4, l5] [] sz hp0 := by
  intro n
  induction n with
  | zero =>
    intro l2 l3 l4 l5 hp0 hn hI
    have hx2 := hx l2 l3 l4 l5 hp0 hI
    refine pt_iload eR_tellMost_40 rfl ?_
    refine pt_zlt eR_tellMost_41 ⟨by omega, by omega⟩ (fun c41 => ?_) (fun c41 => ?_)
    · exact hx2
    · exfalso; omega
  | succ n ih =>
    intro l2 l3 l4 l5 hp0 hn hI
    obtain ⟨f0, hI, hr1⟩ := hI
    refine pt_lve [some (vr 178), some (vi (n : Int)), l2, l3, l4, l5] (by rw [show ((n + 1 : Nat) : Int) - 1 = (n : Int) by omega]) ?_
    refine pt_iload eR_tellMost_40 rfl ?_
    refine pt_zlt eR_tellMost_41 ⟨by omega, by omega⟩ (fun c41 => ?_) (fun c41 => ?_)
    · exfalso; omega
    · refine pt_ic eR_tellMost_44 ?_
      refine pt_istore2 eR_tellMost_45 rfl ?_
      refine lR_tm2 G sz hp hR h_goods h_door h_missed h_now h_weight h_worth ig0 ig4 id0 id1 id2 id3 hs hok (g := (n : Int)) (by omega) (by omega) (fun l3 l4 l5 hp5 hI5 => ?_) 61 0 l3 l4 l5 hp0 (by omega) (by omega) ⟨f0, hI, fun g1 x h1 h2 h3 h4 => hr1 g1 x (by omega) h2 h3 h4, fun x h1 h2 => absurd h2 (by omega)⟩
      obtain ⟨f5, hI5, hr5, hr6⟩ := hI5
      refine pt_inc1 eR_tellMost_156 rfl ?_
      refine pt_goto eR_tellMost_159 ?_
      refine ih _ _ _ _ hp5 (by omega) ⟨f5, hI5, fun g1 x h1 h2 h3 h4 => ?_⟩
      rcases (show g1 = (n : Int) ∨ (n : Int) < g1 by omega) with h9 | h9
      · rw [h9]; exact hr6 x h3 (by omega)
      · exact hr5 g1 x h9 h2 h3 h4
theorem lR_tm0 (G : pd_G) (sz : Nat) (hp : pd_P) {v : Nat → Int} {gf : Int → Int} (hR : hp 178 = RO v) (h_goods : hp 181 = ia 2 gf) (ig0 : 0 ≤ gf 0) (ig4 : gf 0 ≤ 4) {R : pd_R} (hx : ∀  (hp0 : pd_P), (∃ f : Int → Int, hp0 = va_up hp 194 (ia 305 f) ∧ ∀ x, 0 ≤ x → x < 61 → f (61 * gf 0 + x) = 0) → pd_t G mR_tellMost 4 R 31 [some (vr 178), some (vi (61)), none, none, none, none] [] sz hp0) : ∀ (n : Nat) (i : Int)  (hp0 : pd_P), 0 ≤ i → i + n = 61 → (∃ f : Int → Int, hp0 = va_up hp 194 (ia 305 f) ∧ ∀ x, 0 ≤ x → x < i → f (61 * gf 0 + x) = 0) → pd_t G mR_tellMost 4 R 2 [some (vr 178), some (vi (i)), none, none, none, none] [] sz hp0 := by
  intro n
  induction n with
  | zero =>
    intro i  hp0 hi0 hiE hI
    have hiE2 : 61 = i := by omega
    subst hiE2
    have hx2 := hx  hp0 hI
    obtain ⟨f0, hI, hr1⟩ := hI
    have hR := pg_n hI (by decide) hR
    have h_goods := pg_n hI (by decide) h_goods
    have h_most := pg_s hI
    refine pt_iload eR_tellMost_2 rfl ?_
    refine pt_ic eR_tellMost_3 ?_
    refine pt_cgt eR_tellMost_5 ⟨by omega, by omega⟩ ⟨by omega, by omega⟩ (fun c5 => ?_) (fun c5 => ?_)
    · exact hx2
    · exfalso; omega
  | succ n ih =>
    intro i  hp0 hi0 hiE hI
    obtain ⟨f0, hI, hr1⟩ := hI
    have hR := pg_n hI (by decide) hR
    have h_goods := pg_n hI (by decide) h_goods
    have h_most := pg_s hI
    refine pt_iload eR_tellMost_2 rfl ?_
    refine pt_ic eR_tellMost_3 ?_
    refine pt_cgt eR_tellMost_5 ⟨by omega, by omega⟩ ⟨by omega, by omega⟩ (fun c5 => ?_) (fun c5 => ?_)
    · exfalso; omega
    · refine pt_aload eR_tellMost_8 rfl ?_
      refine pt_get eR_tellMost_9 hR rfl ?_
      refine pt_ic eR_tellMost_12 ?_
      refine pt_aload eR_tellMost_14 rfl ?_
      refine pt_get eR_tellMost_15 hR rfl ?_
      refine pt_ic eR_tellMost_18 ?_
      refine pt_iald eR_tellMost_19 h_goods (by omega) (by omega) (by decide) ?_
      refine pt_imul eR_tellMost_20 ?_
      refine pt_iload eR_tellMost_21 rfl ?_
      refine pt_iadd eR_tellMost_22 ?_
      refine pt_ic eR_tellMost_23 ?_
      refine pt_iast eR_tellMost_24 h_most (by omega) (by omega) (by decide) ?_
      refine pt_gen ?_
      intro hp1 ev1
      have hR := pg_n ev1 (by omega) hR
      have h_goods := pg_n ev1 (by omega) h_goods
      have h_most := pg_s ev1
      refine pt_inc1 eR_tellMost_25 rfl ?_
      refine pt_goto eR_tellMost_28 ?_
      refine ih (i + 1)  _ (by omega) (by omega) ?_
      refine ⟨_, by rw [ev1, hI, bx_uu], fun x h1 h2 => ?_⟩
      by_cases hxi : x = i
      · rw [hxi, uI_s]
      · rw [uI_n _ _ (by omega)]
        exact hr1 x h1 (by omega)
theorem cR_tellMost (G : pd_G) (sz : Nat) (hp : pd_P) {v : Nat → Int} {gf df ms σ we wo : Int → Int} (hR : hp 178 = RO v) (h_goods : hp 181 = ia 2 gf) (h_door : hp 180 = ia 4 df) (h_missed : hp 187 = ia 160 ms) (h_now : hp 188 = ia 90 σ) (h_weight : hp 184 = ia 8 we) (h_worth : hp 185 = ia 8 wo) (ig0 : 0 ≤ gf 0) (ig4 : gf 0 ≤ 4) (id0 : 1 ≤ df 0) (id1 : df 0 ≤ 9) (id2 : 1 ≤ df 1) (id3 : df 1 ≤ 9) (hs : okS ms σ) (hok : okC (canf (df 0) (df 1) ms σ) wo we (gf 0)) {f9 : Int → Int} (h_most : hp 194 = ia 305 f9) : pd_c G mR_tellMost 4 [vr 178] sz hp (fun v' sz' hp' => v' = none ∧ sz' = sz ∧ (∃ f : Int → Int, hp' = va_up hp 194 (ia 305 f) ∧ ∀ g1 x, 0 ≤ g1 → g1 ≤ gf 0 → 0 ≤ x → x ≤ 60 → f (61 * g1 + x) = Bf (canf (df 0) (df 1) ms σ) wo we (gf 0) (g1) (x))) := by
  refine pd_con kR_tellMost [some (vr 178), none, none, none, none, none] rfl rfl (Nat.le_of_ble_eq_true rfl) ?_
  refine pt_ic eR_tellMost_0 ?_
  refine pt_istore1 eR_tellMost_1 rfl ?_
  refine lR_tm0 G sz hp hR h_goods ig0 ig4 (fun hp5 hI5 => ?_) 61 0 hp (by omega) (by omega) ⟨f9, pu_self h_most, fun x h1 h2 => absurd h2 (by omega)⟩
  obtain ⟨f5, hI5, hr5⟩ := hI5
  have hR5 := pg_n hI5 (by decide) hR
  have h_goods5 := pg_n hI5 (by decide) h_goods
  refine pt_aload eR_tellMost_31 rfl ?_
  refine pt_get eR_tellMost_32 hR5 rfl ?_
  refine pt_ic eR_tellMost_35 ?_
  refine pt_iald eR_tellMost_36 h_goods5 (by omega) (by omega) (by decide) ?_
  refine pt_ic eR_tellMost_37 ?_
  refine pt_isub eR_tellMost_38 ?_
  refine pt_istore1 eR_tellMost_39 rfl ?_
  refine pt_lve [some (vr 178), some (vi (((gf 0).toNat : Int) - 1)), none, none, none, none] (by rw [Int.toNat_of_nonneg ig0]) ?_
  refine lR_tm3 G sz hp hR h_goods h_door h_missed h_now h_weight h_worth ig0 ig4 id0 id1 id2 id3 hs hok (fun l2 l3 l4 l5 hp6 hI6 => ?_) (gf 0).toNat none none none none hp5 (by omega) ⟨f5, hI5, fun g1 x h1 h2 h3 h4 => ?_⟩
  · refine pt_vret eR_tellMost_162 (Nat.le_refl _) (Nat.le_refl _) ?_
    exact ⟨rfl, rfl, hI6⟩
  · rw [show g1 = gf 0 by omega, Bf_e]
    exact hr5 x h3 (by omega)
