/-! by which takings nobody is hungry: the reference -/
def rsg (us br ms : Int → Int) (d g t : Int) : Int := if rsf t (br (4 * d + g)) (ms (4 * d + g)) (us g) < 0 then -1 else rsf t (br (4 * d + g)) (ms (4 * d + g)) (us g)
def nxf (us br ms σ : Int → Int) (ev bk : Int) : NX := fun l g b t => if t = -1 then -1 else if b = 0 then rsg us br ms (σ 0 + l) g t else if opnf ev bk ms σ (σ 0 + l) g ≤ 0 then -1 else rsg us br ms (σ 0 + l) g (min 999 (t + opnf ev bk ms σ (σ 0 + l) g))
theorem nxf_m {us br ms σ : Int → Int} {ev bk : Int} (l g b : Int) : nxf us br ms σ ev bk l g b (-1) = -1 := by
  unfold nxf
  rw [if_pos rfl]
def tR (σ τ s : Int → Int) (ev bk gd l : Int) : Prop := τ 0 = σ 0 + l ∧ τ 1 = σ 1 ∧ okT τ ∧ (∀ g, 0 ≤ g → g < gd → τ (2 + g) = s g) ∧ ∀ d g, σ 0 + l ≤ d → lawf d ev bk ≠ -9 → 0 ≤ g → g < 4 → τ (10 + 4 * lawf d ev bk + g) = σ (10 + 4 * lawf d ev bk + g)
theorem hnf_lks {us br ms τ nx : Int → Int} : ∀ n : Nat, (∀ g : Nat, g < n → nx g = if rr us br ms τ g < 0 then -1 else rr us br ms τ g) → hnf us br ms τ n = lks nx n
  | 0, _ => rfl
  | n + 1, h => by
    have h1 := hnf_lks (us := us) (br := br) (ms := ms) (τ := τ) (nx := nx) n (fun g hg => h g (by omega))
    have h2 := h n (by omega)
    rw [hnf, lks, h1]
    by_cases h3 : rr us br ms τ n < 0
    · rw [if_pos h3] at h2
      rw [if_pos h3, if_pos h2]
    · rw [if_neg h3] at h2
      rw [if_neg h3, if_neg (by omega)]
theorem passf_T {us br ms τ : Int → Int} {gd : Int} (hg0 : 0 ≤ gd) (hg : gd ≤ 4) (hb : okB br) (hm : okB ms) (hu : okU gd us) (hT : okT τ) (h0 : 0 ≤ τ 0) (h1 : τ 0 < 20) : okT (passf us br ms τ gd) := by
  intro g g0 g4
  rw [← passf_t g0 g4 hg]
  unfold thf
  have ht := hT g g0 g4
  split
  · rename_i hc
    have h3 := hm (4 * τ 0 + g) (by omega) (by omega)
    have h4 := hu g hc.1 hc.2
    unfold rr rsf
    omega
  · exact ht
/-- a day goes by behind the choice -/
theorem tR_pass {us br ms σ τ nx : Int → Int} {ev bk gd l : Int} (hg0 : 0 ≤ gd) (hg : gd ≤ 4) (hb : okB br) (hm : okB ms) (hu : okU gd us) (ht0 : τ 0 = σ 0 + l) (ht1 : τ 1 = σ 1) (hT : okT τ) (h0 : 0 ≤ τ 0) (h1 : τ 0 < 20) (hnx : ∀ g, 0 ≤ g → g < gd → nx g = if rr us br ms τ g < 0 then -1 else rr us br ms τ g) (hfu : ∀ d g, σ 0 + l + 1 ≤ d → lawf d ev bk ≠ -9 → 0 ≤ g → g < 4 → τ (10 + 4 * lawf d ev bk + g) = σ (10 + 4 * lawf d ev bk + g)) (hlr : ∀ d, 0 ≤ d → lawf d ev bk = -9 ∨ 0 ≤ lawf d ev bk) (hs0 : 0 ≤ σ 0) (hl0 : 0 ≤ l) (hz : hnf us br ms τ gd.toNat = 0) : tR σ (passf us br ms τ gd) nx ev bk gd (l + 1) := by
  refine ⟨by rw [passf_0]; omega, by rw [passf_1]; exact ht1, passf_T hg0 hg hb hm hu hT h0 h1, fun g g0 g1 => ?_, fun d g d0 d1 g0 g4 => ?_⟩
  · have hlk := hnf_lks (us := us) (br := br) (ms := ms) (τ := τ) (nx := nx) gd.toNat (fun g hg => hnx g (by omega) (by omega))
    have hn := lks_0 gd.toNat (by rw [← hlk]; exact hz) g.toNat (by omega)
    rw [Int.toNat_of_nonneg g0] at hn
    have h9 := hnx g g0 g1
    rw [← passf_t g0 (by omega) hg]
    unfold thf
    rw [if_pos ⟨g0, g1⟩]
    by_cases h3 : rr us br ms τ g < 0
    · rw [if_pos h3] at h9
      exact absurd h9 hn
    · rw [if_neg h3] at h9
      omega
  · have hr := hlr d (by omega)
    rw [show 10 + 4 * lawf d ev bk + g = 10 + (4 * lawf d ev bk + g) by omega, ← passf_k (by omega) hg]
    rw [show 10 + (4 * lawf d ev bk + g) = 10 + 4 * lawf d ev bk + g by omega]
    exact hfu d g (by omega) d1 g0 g4
theorem tR_can {ms σ τ s : Int → Int} {ev bk gd l c : Int} (h : tR σ τ s ev bk gd l) (h0 : 0 ≤ c) (h4 : c < 4) : canf ev bk ms τ c = opnf ev bk ms σ (σ 0 + l) c := by
  obtain ⟨t0, t1, t2, t3, t4⟩ := h
  unfold canf opnf
  rw [t0, t1]
  by_cases h1 : σ 1 = 1
  · rw [if_pos h1, if_pos h1]
  · rw [if_neg h1, if_neg h1]
    by_cases h2 : lawf (σ 0 + l) ev bk = -9
    · rw [if_pos h2, if_pos h2]
    · rw [if_neg h2, if_neg h2, t4 (σ 0 + l) c (Int.le_refl _) h2 h0 h4]
/-- nothing is taken -/
theorem nx_no {us br ms σ τ s : Int → Int} {ev bk gd l c : Int} (h : tR σ τ s ev bk gd l) (hg : gd ≤ 4) (hc : c = -1) : ∀ g, 0 ≤ g → g < gd → nxs (nxf us br ms σ ev bk) l s c g = if rr us br ms τ g < 0 then -1 else rr us br ms τ g := by
  obtain ⟨t0, t1, t2, t3, t4⟩ := h
  intro g g0 g1
  have h1 := t3 g g0 g1
  have h2 := t2 g g0 (by omega)
  unfold nxs nxf
  rw [if_neg (show ¬ g = c by omega), if_neg (by omega), if_pos rfl, ← h1, ← t0]
  rfl
/-- something is taken -/
theorem nx_yes {us br ms σ τ s : Int → Int} {ev bk gd l c : Int} (h : tR σ τ s ev bk gd l) (hg : gd ≤ 4) (h0 : 0 ≤ c) (h4 : c < gd) (hbk : 1 ≤ bk) (hs0 : 0 ≤ σ 0 + l) (hop : 0 < opnf ev bk ms σ (σ 0 + l) c) (hof : 0 ≤ opf ev bk τ) : ∀ g, 0 ≤ g → g < gd → nxs (nxf us br ms σ ev bk) l s c g = if rr us br ms (tkf ev bk τ c (opnf ev bk ms σ (σ 0 + l) c)) g < 0 then -1 else rr us br ms (tkf ev bk τ c (opnf ev bk ms σ (σ 0 + l) c)) g := by
  obtain ⟨t0, t1, t2, t3, t4⟩ := h
  intro g g0 g1
  have h1 := t3 g g0 g1
  have h2 := t2 g g0 (by omega)
  have k0 : tkf ev bk τ c (opnf ev bk ms σ (σ 0 + l) c) 0 = τ 0 := by
    unfold tkf
    rw [uI_n _ _ (by omega), uI_n _ _ (by omega)]
  unfold nxs nxf
  rw [if_neg (show ¬ s g = -1 by omega)]
  by_cases hc : g = c
  · subst hc
    rw [if_pos rfl, if_neg (by omega), if_neg (by omega), ← h1]
    have k1 : tkf ev bk τ g (opnf ev bk ms σ (σ 0 + l) g) (2 + g) = min (τ (2 + g) + opnf ev bk ms σ (σ 0 + l) g) 999 := by
      unfold tkf
      rw [uI_s]
    unfold rr
    rw [k0, k1, t0, show min (τ (2 + g) + opnf ev bk ms σ (σ 0 + l) g) 999 = min 999 (τ (2 + g) + opnf ev bk ms σ (σ 0 + l) g) by omega]
    rfl
  · rw [if_neg hc, if_pos rfl, ← h1]
    have k1 : tkf ev bk τ c (opnf ev bk ms σ (σ 0 + l) c) (2 + g) = τ (2 + g) := by
      unfold tkf
      rw [uI_n _ _ (by omega), uI_n _ _ (by omega)]
    unfold rr
    rw [k0, k1, t0]
    rfl
theorem opnf_b {ms σ : Int → Int} {ev bk d g : Int} (hbk : 1 ≤ bk) (hd : 0 ≤ d) (hs : okS ms σ) (hm : okB ms) (h0 : 0 ≤ g) (h4 : g < 4) : 0 ≤ opnf ev bk ms σ d g ∧ opnf ev bk ms σ d g ≤ 30 := by
  have hr := lawf_r (ev := ev) hbk hd
  unfold opnf
  split
  · omega
  · split
    · omega
    · have h1 := hs.2.2.2.2 (4 * lawf d ev bk + g) (by omega) (by omega)
      have h2 := hm (4 * lawf d ev bk + g) (by omega) (by omega)
      rw [show 10 + 4 * lawf d ev bk + g = 10 + (4 * lawf d ev bk + g) by omega]
      omega
theorem opnf_p {ms σ : Int → Int} {ev bk d g : Int} (h : opnf ev bk ms σ d g ≠ 0) : ¬ σ 1 = 1 ∧ lawf d ev bk ≠ -9 := by
  unfold opnf at h
  by_cases h1 : σ 1 = 1
  · rw [if_pos h1] at h; exact absurd rfl h
  · rw [if_neg h1] at h
    by_cases h2 : lawf d ev bk = -9
    · rw [if_pos h2] at h; exact absurd rfl h
    · exact ⟨h1, h2⟩
theorem tR_opf {σ τ s : Int → Int} {ev bk gd l : Int} (h : tR σ τ s ev bk gd l) (h1 : ¬ σ 1 = 1) : opf ev bk τ = lawf (σ 0 + l) ev bk := by
  unfold opf
  rw [h.2.1, if_neg h1, h.1]
theorem tkf_T {τ : Int → Int} {ev bk c n : Int} (hT : okT τ) (h0 : 0 ≤ c) (h4 : c < 4) (hn : 0 ≤ n) (hof : 0 ≤ opf ev bk τ) : okT (tkf ev bk τ c n) := by
  intro g g0 g4
  have h1 := hT g g0 g4
  have h2 := hT c h0 h4
  unfold tkf
  by_cases hc : g = c
  · rw [hc, uI_s]; omega
  · rw [uI_n _ _ (by omega), uI_n _ _ (by omega)]; exact h1
theorem tkf_fu {σ τ s : Int → Int} {ev bk gd l c n : Int} (h : tR σ τ s ev bk gd l) (hl : lawf (σ 0 + l) ev bk ≠ -9) (he : opf ev bk τ = lawf (σ 0 + l) ev bk) (hbk : 1 ≤ bk) (hs0 : 0 ≤ σ 0 + l) (h0 : 0 ≤ c) (h4 : c < 4) : ∀ d g, σ 0 + l + 1 ≤ d → lawf d ev bk ≠ -9 → 0 ≤ g → g < 4 → tkf ev bk τ c n (10 + 4 * lawf d ev bk + g) = σ (10 + 4 * lawf d ev bk + g) := by
  intro d g d0 d1 g0 g4
  have e1 : lawf d ev bk = d - bk := by
    unfold lawf at d1 ⊢
    by_cases hc : d < 20 ∧ d % ev = 0 ∧ bk ≤ d
    · rw [if_pos hc]
    · rw [if_neg hc] at d1; exact absurd rfl d1
  have e2 : lawf (σ 0 + l) ev bk = σ 0 + l - bk := by
    unfold lawf at hl ⊢
    by_cases hc : σ 0 + l < 20 ∧ (σ 0 + l) % ev = 0 ∧ bk ≤ σ 0 + l
    · rw [if_pos hc]
    · rw [if_neg hc] at hl; exact absurd rfl hl
  have r1 := lawf_r (ev := ev) hbk (show 0 ≤ d by omega)
  have r2 := lawf_r (ev := ev) hbk hs0
  have k1 : tkf ev bk τ c n (10 + 4 * lawf d ev bk + g) = τ (10 + 4 * lawf d ev bk + g) := by
    unfold tkf
    rw [he, uI_n _ _ (by omega), uI_n _ _ (by omega)]
  rw [k1]
  exact h.2.2.2.2 d g (by omega) d1 g0 g4
theorem nx_lk {us br ms σ τ nx : Int → Int} {gd : Int} (hnx : ∀ g, 0 ≤ g → g < gd → nx g = if rr us br ms τ g < 0 then -1 else rr us br ms τ g) (hz : 0 < hnf us br ms τ gd.toNat) : 0 < lks nx gd.toNat := by
  rw [← hnf_lks (us := us) (br := br) (ms := ms) (τ := τ) (nx := nx) gd.toNat (fun g hg => hnx g (by omega) (by omega))]
  exact hz
theorem tR_s {σ τ s : Int → Int} {ev bk gd l : Int} (h : tR σ τ s ev bk gd l) (hg : gd ≤ 4) : lks s gd.toNat = 0 := by
  refine lks_1 _ (fun g hg1 => ?_)
  have h1 := h.2.2.2.1 g (by omega) (by omega)
  have h2 := h.2.2.1 g (by omega) (by omega)
  omega
theorem tR_0 {ms σ : Int → Int} {ev bk gd : Int} (hs : okS ms σ) : tR σ σ (fun g => σ (2 + g)) ev bk gd 0 := ⟨by omega, rfl, hs.2.2.2.1, fun _ _ _ => rfl, fun _ _ _ _ _ _ => rfl⟩
def fres (r cnt : Int) : Int := if r = -9 then -9 else cnt + r
theorem lR_tb1 (G : pd_G) (sz : Nat) (hp : pd_P) {X M : Nat} {n0 : Int} (hM : M ≤ 6) {R : pd_R} (hx : ∀  (hp0 : pd_P), hp0 = hp → pd_t G mR_takenBy 4 R 30 [some (vr 178), some (vi (X : Int)), some (vi (M : Int)), some (vi n0), some (vi ((5 ^ ((max 1 M : Nat) - 1 : Int).toNat : Nat) : Int)), some (vi ((max 1 M : Nat))), none, none] [] sz hp0) : ∀ (n : Nat) (i : Int)  (hp0 : pd_P), 1 ≤ i → i + n = (max 1 M : Nat) → hp0 = hp → pd_t G mR_takenBy 4 R 12 [some (vr 178), some (vi (X : Int)), some (vi (M : Int)), some (vi n0), some (vi ((5 ^ (i - 1 : Int).toNat : Nat) : Int)), some (vi (i)), none, none] [] sz hp0 := by
  intro n
  induction n with
  | zero =>
    intro i  hp0 hi0 hiE he0
    have hiE2 : (max 1 M : Nat) = i := by omega
    subst hiE2
    have hx2 := hx  hp0 he0
    rw [he0] at hx2
    rw [he0]
    refine pt_iload eR_takenBy_12 rfl ?_
    refine pt_iload eR_takenBy_14 rfl ?_
    refine pt_cge eR_takenBy_15 ⟨by omega, by omega⟩ ⟨by omega, by omega⟩ (fun c15 => ?_) (fun c15 => ?_)
    · exact hx2
    · exfalso; omega
  | succ n ih =>
    intro i  hp0 hi0 hiE he0
    rw [he0]
    refine pt_iload eR_takenBy_12 rfl ?_
    refine pt_iload eR_takenBy_14 rfl ?_
    refine pt_cge eR_takenBy_15 ⟨by omega, by omega⟩ ⟨by omega, by omega⟩ (fun c15 => ?_) (fun c15 => ?_)
    · exfalso; omega
    · refine pt_iload eR_takenBy_18 rfl ?_
      refine pt_ic eR_takenBy_20 ?_
      refine pt_imul eR_takenBy_21 ?_
      refine pt_istore4 eR_takenBy_22 rfl ?_
      refine pt_inc5 eR_takenBy_24 rfl ?_
      refine pt_goto eR_takenBy_27 ?_
      rw [show ((5 ^ (i - 1).toNat : Nat) : Int) * 5 = ((5 ^ (i + 1 - 1).toNat : Nat) : Int) from by rw [show (i + 1 - 1).toNat = (i - 1).toNat + 1 by omega, Nat.pow_succ, Int.natCast_mul]; rfl]
      exact ih (i + 1)  hp (by omega) (by omega) rfl 
theorem lR_tb2 (G : pd_G) (sz : Nat) (hp : pd_P) {v : Nat → Int} {gf br ms us : Int → Int} (hR : hp 178 = RO v) (h_goods : hp 181 = ia 2 gf) (h_brought : hp 186 = ia 160 br) (h_missed : hp 187 = ia 160 ms) (h_use : hp 183 = ia 8 us) (ig0 : 0 ≤ gf 0) (ig4 : gf 0 ≤ 4) (iB : okB br) (iM : okB ms) (iU : okU (gf 0) us) {df σ : Int → Int} (h_door : hp 180 = ia 4 df) (id0 : 1 ≤ df 0) (id1 : df 0 ≤ 9) (id2 : 1 ≤ df 1) (id3 : df 1 ≤ 9) (hs : okS ms σ) {X M : Nat} {r : Int} (hM : M ≤ 6) (hMd : σ 0 + M ≤ 20) (hX : X < 15625) : ∀ (n : Nat) (i cnt b0 : Int) (s τ : Int → Int) (l6 l7 : Option pv) (hp0 : pd_P), 0 ≤ i → i + n = M → (n = 0 ∨ b0 = ((5 ^ (n - 1) : Nat) : Int)) → tR σ τ s (df 0) (df 1) (gf 0) i → hp0 = va_up hp 193 (ia 90 τ) → r = fres (fv (nxf us br ms σ (df 0) (df 1)) (gf 0) n i s X) cnt → pd_t G mR_takenBy 4 (fun v' sz' hp' => v' = some (vi r) ∧ sz' = sz ∧ ∃ f, hp' = va_up hp 193 (ia 90 f)) 33 [some (vr 178), some (vi (X : Int)), some (vi (M : Int)), some (vi cnt), some (vi b0), some (vi i), l6, l7] [] sz hp0 := by
  have s0 := hs.1
  have s1 := hs.2.1
  have s2 := hs.2.2.1
  intro n
  induction n with
  | zero =>
    intro i cnt b0 s τ l6 l7 hp0 hi0 hiE hb hT he0 hr
    have hR := pg_n he0 (by decide) hR
    have hr2 : r = cnt := by
      rw [hr]
      unfold fres
      rw [fv, if_pos (tR_s hT ig4), if_neg (by omega)]
      omega
    refine pt_iload eR_takenBy_33 rfl ?_
    refine pt_iload eR_takenBy_35 rfl ?_
    refine pt_cge eR_takenBy_36 ⟨by omega, by omega⟩ ⟨by omega, by omega⟩ (fun c36 => ?_) (fun c36 => ?_)
    · refine pt_iload eR_takenBy_129 rfl ?_
      refine pt_iret eR_takenBy_130 (Nat.le_refl _) (Nat.le_refl _) ?_
      exact ⟨by rw [hr2], rfl, _, he0⟩
    · exfalso; omega
  | succ n ih =>
    intro i cnt b0 s τ l6 l7 hp0 hi0 hiE hb hT he0 hr
    have hR := pg_n he0 (by decide) hR
    have h_goods := pg_n he0 (by decide) h_goods
    have h_brought := pg_n he0 (by decide) h_brought
    have h_missed := pg_n he0 (by decide) h_missed
    have h_use := pg_n he0 (by decide) h_use
    have h_door := pg_n he0 (by decide) h_door
    have h_tried := pg_s he0
    have hb1 : b0 = ((5 ^ n : Nat) : Int) := by
      rcases hb with hb | hb
      · exact absurd hb (by omega)
      · exact hb
    subst hb1
    have p1 := p5_pos n
    have p2 : 5 ^ n ≤ 15625 := Nat.pow_le_pow_right (j := 6) (by decide) (by omega)
    have hT0 : 0 ≤ τ 0 := by rw [hT.1]; omega
    have hT2 : τ 0 < 20 := by rw [hT.1]; omega
    have hTT := hT.2.2.1
    have ht1 := hT.2.1
    have hd5 : X / 5 ^ n % 5 < 5 := Nat.mod_lt _ (by decide)
    have hb5 : n = 0 ∨ ((5 ^ n : Nat) : Int) / 5 = ((5 ^ (n - 1) : Nat) : Int) := by
      rcases (show n = 0 ∨ ∃ n1, n = n1 + 1 by rcases n with _ | n1; exact Or.inl rfl; exact Or.inr ⟨n1, rfl⟩) with h9 | ⟨n1, h9⟩
      · exact Or.inl h9
      · right
        rw [h9, Nat.pow_succ, show n1 + 1 - 1 = n1 from rfl]
        omega
    rw [fv] at hr
    have hcc : (((X : Int) / ((5 ^ n : Nat) : Int)) % 5 - 1) = ((X / 5 ^ n % 5 : Nat) : Int) - 1 := rfl
    refine pt_iload eR_takenBy_33 rfl ?_
    refine pt_iload eR_takenBy_35 rfl ?_
    refine pt_cge eR_takenBy_36 ⟨by omega, by omega⟩ ⟨by omega, by omega⟩ (fun c36 => ?_) (fun c36 => ?_)
    · exfalso; omega
    · refine pt_iload eR_takenBy_39 rfl ?_
      refine pt_iload eR_takenBy_40 rfl ?_
      refine pt_idiv eR_takenBy_42 (by omega) (by omega) (by omega) (by omega) ?_
      refine pt_ic eR_takenBy_43 ?_
      refine pt_irem eR_takenBy_44 (Int.ediv_nonneg (by omega) (by omega)) (Int.lt_of_le_of_lt (Int.ediv_le_self _ (by omega)) (by omega)) (by omega) (by omega) ?_
      refine pt_ic eR_takenBy_45 ?_
      refine pt_isub eR_takenBy_46 ?_
      rw [hcc]
      generalize hgc : ((X / 5 ^ n % 5 : Nat) : Int) - 1 = c at hr ⊢
      have cr0 : -1 ≤ c := by omega
      have cr4 : c < 4 := by omega
      clear hcc
      refine pt_istore6 eR_takenBy_47 rfl ?_
      refine pt_iload eR_takenBy_49 rfl ?_
      refine pt_ic eR_takenBy_51 ?_
      refine pt_idiv eR_takenBy_52 (by omega) (by omega) (by omega) (by omega) ?_
      refine pt_istore4 eR_takenBy_53 rfl ?_
      refine pt_iload eR_takenBy_55 rfl ?_
      refine pt_aload eR_takenBy_57 rfl ?_
      refine pt_get eR_takenBy_58 hR rfl ?_
      refine pt_ic eR_takenBy_61 ?_
      refine pt_iald eR_takenBy_62 h_goods (by omega) (by omega) (by decide) ?_
      refine pt_clt eR_takenBy_63 ⟨by omega, by omega⟩ ⟨by omega, by omega⟩ (fun c63 => ?_) (fun c63 => ?_)
      · refine pt_iload eR_takenBy_69 rfl ?_
        refine pt_zlt eR_takenBy_71 ⟨by omega, by omega⟩ (fun c71 => ?_) (fun c71 => ?_)
        · try (have hc1 : c = -1 := by omega
               rw [if_neg (by omega)] at hr
               have hcst : cst c = 0 := by unfold cst; rw [if_pos (by omega)]
               have hnx := nx_no (us := us) (br := br) (ms := ms) hT ig4 hc1
               have hfu : ∀ d g, σ 0 + i + 1 ≤ d → lawf d (df 0) (df 1) ≠ -9 → 0 ≤ g → g < 4 → τ (10 + 4 * lawf d (df 0) (df 1) + g) = σ (10 + 4 * lawf d (df 0) (df 1) + g) := fun d g h1 h2 h3 h4 => hT.2.2.2.2 d g (by omega) h2 h3 h4)
          refine pt_aload eR_takenBy_109 rfl ?_
          refine pt_aload eR_takenBy_110 rfl ?_
          refine pt_get eR_takenBy_111 hR rfl ?_
          refine pt_kv1 eR_takenBy_114 (cR_passOn G sz _ (Or.inr rfl) hR h_goods h_brought h_missed h_use ig0 ig4 iB iM iU hTT hT0 hT2 h_tried) hR rfl (Nat.le_of_ble_eq_true rfl) (by decide) (Nat.le_refl _) (Nat.le_refl _) ?_
          rintro v2 sz2 hpy ⟨rfl, hz9, hy9⟩
          obtain rfl := hz9.symm
          have hlk := hnf_lks (gf 0).toNat (fun g hg => hnx g (by omega) (by omega))
          rw [hlk]
          have hlb := lks_b (s := nxs (nxf us br ms σ (df 0) (df 1)) i s c) (gf 0).toNat
          refine pt_zle eR_takenBy_117 ⟨by omega, by omega⟩ (fun c117 => ?_) (fun c117 => ?_)
          · refine pt_inc5 eR_takenBy_123 rfl ?_
            refine pt_goto eR_takenBy_126 ?_
            have hrel := tR_pass (ev := df 0) (bk := df 1) ig0 ig4 iB iM iU (by first | exact hT.1 | (rw [k0]; exact hT.1)) (by first | exact hT.2.1 | (rw [k1]; exact hT.2.1)) hTT hT0 hT2 hnx hfu (fun d h => by have := lawf_r (ev := df 0) (bk := df 1) id2 h; omega) s0 hi0 (by omega)
            refine ih (i + 1) _ _ _ _ _ _ hpy (by omega) (by omega) hb5 hrel (by first | (rw [hy9, hx9, he0, bx_uu, bx_uu]) | (rw [hy9, he0, bx_uu])) ?_
            rw [hr]
            unfold fres
            rw [hcst]
            by_cases hf9 : fv (nxf us br ms σ (df 0) (df 1)) (gf 0) n (i + 1) (nxs (nxf us br ms σ (df 0) (df 1)) i s c) X = -9
            · rw [if_pos hf9, if_pos rfl, if_pos hf9]
            · have hfb := fv_b (N := nxf us br ms σ (df 0) (df 1)) (gd := gf 0) n (i + 1) (nxs (nxf us br ms σ (df 0) (df 1)) i s c) X
              rw [if_neg hf9, if_neg hf9, if_neg (by omega)]
              omega
          · refine pt_ic eR_takenBy_120 ?_
            refine pt_iret eR_takenBy_122 (Nat.le_refl _) (Nat.le_refl _) ?_
            rw [if_pos (fv_lk nxf_m n (i + 1) _ X (by omega))] at hr
            first | exact ⟨by rw [hr]; rfl, rfl, _, by rw [hy9, hx9, he0, bx_uu, bx_uu]⟩ | exact ⟨by rw [hr]; rfl, rfl, _, by rw [hy9, he0, bx_uu]⟩
        · have c0 : 0 ≤ c := by omega
          rw [if_neg (by omega)] at hr
          have hcst : cst c = 1 := by unfold cst; rw [if_neg (by omega)]
          have hob := opnf_b (ev := df 0) (d := σ 0 + i) id2 (by omega) hs iM c0 cr4
          have hcan := tR_can (ms := ms) hT c0 cr4
          refine pt_aload eR_takenBy_74 rfl ?_
          refine pt_aload eR_takenBy_75 rfl ?_
          refine pt_get eR_takenBy_76 hR rfl ?_
          refine pt_iload eR_takenBy_79 rfl ?_
          refine pt_kv2r eR_takenBy_81 (cR_canTake G sz _ hR h_door h_missed h_tried id0 id1 id2 id3 (by omega) (by omega) (by omega) c0 (by omega)) hR rfl (Nat.le_of_ble_eq_true rfl) (by decide) (Nat.le_refl _) (Nat.le_refl _) ?_
          rw [hcan]
          refine pt_istore7 eR_takenBy_84 rfl ?_
          refine pt_iload eR_takenBy_86 rfl ?_
          refine pt_zne eR_takenBy_88 ⟨by omega, by omega⟩ (fun c88 => ?_) (fun c88 => ?_)
          · have hpp := opnf_p c88
            have heo := tR_opf hT hpp.1
            have hro := lawf_r (ev := df 0) (d := σ 0 + i) id2 (by omega)
            refine pt_aload eR_takenBy_94 rfl ?_
            refine pt_aload eR_takenBy_95 rfl ?_
            refine pt_get eR_takenBy_96 hR rfl ?_
            refine pt_iload eR_takenBy_99 rfl ?_
            refine pt_iload eR_takenBy_101 rfl ?_
            refine pt_kv3 eR_takenBy_103 (cR_takeOf G sz _ (Or.inr rfl) hR h_door h_tried id0 id1 id2 id3 (by omega) (by omega) (by omega) (by omega) c0 (by omega) (by omega) (by omega) (by have := hT.2.2.1 c c0 (by omega); omega) (by have := hT.2.2.1 c c0 (by omega); omega)) hR rfl (Nat.le_of_ble_eq_true rfl) (by decide) (Nat.le_refl _) (Nat.le_refl _) ?_
            rintro v2 sz2 hpx ⟨rfl, hz8, hx9⟩
            obtain rfl := hz8.symm
            have hR := pg_n hx9 (by decide) hR
            have h_goods := pg_n hx9 (by decide) h_goods
            have h_brought := pg_n hx9 (by decide) h_brought
            have h_missed := pg_n hx9 (by decide) h_missed
            have h_use := pg_n hx9 (by decide) h_use
            have h_door := pg_n hx9 (by decide) h_door
            have h_tried := pg_s hx9
            have hof : 0 ≤ opf (df 0) (df 1) τ := by omega
            have hTT := tkf_T (n := opnf (df 0) (df 1) ms σ (σ 0 + i) c) hT.2.2.1 c0 (by omega) (by omega) hof
            have k0 : tkf (df 0) (df 1) τ c (opnf (df 0) (df 1) ms σ (σ 0 + i) c) 0 = τ 0 := by
              unfold tkf
              rw [uI_n _ _ (by omega), uI_n _ _ (by omega)]
            have k1 : tkf (df 0) (df 1) τ c (opnf (df 0) (df 1) ms σ (σ 0 + i) c) 1 = τ 1 := by
              unfold tkf
              rw [uI_n _ _ (by omega), uI_n _ _ (by omega)]
            have hT0 : 0 ≤ tkf (df 0) (df 1) τ c (opnf (df 0) (df 1) ms σ (σ 0 + i) c) 0 := by omega
            have hT2 : tkf (df 0) (df 1) τ c (opnf (df 0) (df 1) ms σ (σ 0 + i) c) 0 < 20 := by omega
            have hnx := nx_yes (us := us) (br := br) (ms := ms) hT ig4 c0 c63 id2 (by omega) (by omega) hof
            have hfu := tkf_fu (n := opnf (df 0) (df 1) ms σ (σ 0 + i) c) hT hpp.2 heo id2 (by omega) c0 (by omega)
            refine pt_inc3 eR_takenBy_106 rfl ?_
            try (have hc1 : c = -1 := by omega
                 rw [if_neg (by omega)] at hr
                 have hcst : cst c = 0 := by unfold cst; rw [if_pos (by omega)]
                 have hnx := nx_no (us := us) (br := br) (ms := ms) hT ig4 hc1
                 have hfu : ∀ d g, σ 0 + i + 1 ≤ d → lawf d (df 0) (df 1) ≠ -9 → 0 ≤ g → g < 4 → τ (10 + 4 * lawf d (df 0) (df 1) + g) = σ (10 + 4 * lawf d (df 0) (df 1) + g) := fun d g h1 h2 h3 h4 => hT.2.2.2.2 d g (by omega) h2 h3 h4)
            refine pt_aload eR_takenBy_109 rfl ?_
            refine pt_aload eR_takenBy_110 rfl ?_
            refine pt_get eR_takenBy_111 hR rfl ?_
            refine pt_kv1 eR_takenBy_114 (cR_passOn G sz _ (Or.inr rfl) hR h_goods h_brought h_missed h_use ig0 ig4 iB iM iU hTT hT0 hT2 h_tried) hR rfl (Nat.le_of_ble_eq_true rfl) (by decide) (Nat.le_refl _) (Nat.le_refl _) ?_
            rintro v2 sz2 hpy ⟨rfl, hz9, hy9⟩
            obtain rfl := hz9.symm
            have hlk := hnf_lks (gf 0).toNat (fun g hg => hnx g (by omega) (by omega))
            rw [hlk]
            have hlb := lks_b (s := nxs (nxf us br ms σ (df 0) (df 1)) i s c) (gf 0).toNat
            refine pt_zle eR_takenBy_117 ⟨by omega, by omega⟩ (fun c117 => ?_) (fun c117 => ?_)
            · refine pt_inc5 eR_takenBy_123 rfl ?_
              refine pt_goto eR_takenBy_126 ?_
              have hrel := tR_pass (ev := df 0) (bk := df 1) ig0 ig4 iB iM iU (by first | exact hT.1 | (rw [k0]; exact hT.1)) (by first | exact hT.2.1 | (rw [k1]; exact hT.2.1)) hTT hT0 hT2 hnx hfu (fun d h => by have := lawf_r (ev := df 0) (bk := df 1) id2 h; omega) s0 hi0 (by omega)
              refine ih (i + 1) _ _ _ _ _ _ hpy (by omega) (by omega) hb5 hrel (by first | (rw [hy9, hx9, he0, bx_uu, bx_uu]) | (rw [hy9, he0, bx_uu])) ?_
              rw [hr]
              unfold fres
              rw [hcst]
              by_cases hf9 : fv (nxf us br ms σ (df 0) (df 1)) (gf 0) n (i + 1) (nxs (nxf us br ms σ (df 0) (df 1)) i s c) X = -9
              · rw [if_pos hf9, if_pos rfl, if_pos hf9]
              · have hfb := fv_b (N := nxf us br ms σ (df 0) (df 1)) (gd := gf 0) n (i + 1) (nxs (nxf us br ms σ (df 0) (df 1)) i s c) X
                rw [if_neg hf9, if_neg hf9, if_neg (by omega)]
                omega
            · refine pt_ic eR_takenBy_120 ?_
              refine pt_iret eR_takenBy_122 (Nat.le_refl _) (Nat.le_refl _) ?_
              rw [if_pos (fv_lk nxf_m n (i + 1) _ X (by omega))] at hr
              first | exact ⟨by rw [hr]; rfl, rfl, _, by rw [hy9, hx9, he0, bx_uu, bx_uu]⟩ | exact ⟨by rw [hr]; rfl, rfl, _, by rw [hy9, he0, bx_uu]⟩
          · refine pt_ic eR_takenBy_91 ?_
            refine pt_iret eR_takenBy_93 (Nat.le_refl _) (Nat.le_refl _) ?_
            have hk9 : nxs (nxf us br ms σ (df 0) (df 1)) i s c (c.toNat : Int) = -1 := by
              unfold nxs nxf
              rw [Int.toNat_of_nonneg c0, if_pos rfl, if_neg (show ¬ (1 : Int) = 0 by omega), if_pos (show opnf (df 0) (df 1) ms σ (σ 0 + i) c ≤ 0 by omega)]
              split <;> rfl
            rw [if_pos (fv_lk nxf_m n (i + 1) _ X (lks_x (g := c.toNat) (by omega) hk9))] at hr
            exact ⟨by rw [hr]; rfl, rfl, _, he0⟩
      · refine pt_ic eR_takenBy_66 ?_
        refine pt_iret eR_takenBy_68 (Nat.le_refl _) (Nat.le_refl _) ?_
        rw [if_pos (by omega)] at hr
        exact ⟨by rw [hr]; rfl, rfl, _, he0⟩
theorem cR_takenBy (G : pd_G) (sz : Nat) (hp : pd_P) {v : Nat → Int} {gf br ms us : Int → Int} (hR : hp 178 = RO v) (h_goods : hp 181 = ia 2 gf) (h_brought : hp 186 = ia 160 br) (h_missed : hp 187 = ia 160 ms) (h_use : hp 183 = ia 8 us) (ig0 : 0 ≤ gf 0) (ig4 : gf 0 ≤ 4) (iB : okB br) (iM : okB ms) (iU : okU (gf 0) us) {df σ : Int → Int} (h_door : hp 180 = ia 4 df) (id0 : 1 ≤ df 0) (id1 : df 0 ≤ 9) (id2 : 1 ≤ df 1) (id3 : df 1 ≤ 9) (hs : okS ms σ) {τ : Int → Int} {X M : Nat} (hM : M ≤ 6) (hMd : σ 0 + M ≤ 20) (hX : X < 15625) (h_now : hp 188 = ia 90 σ) (h_tried : hp 193 = ia 90 τ) : pd_c G mR_takenBy 4 [vr 178, vi (X : Int), vi (M : Int)] sz hp (fun v' sz' hp' => v' = some (vi (fv (nxf us br ms σ (df 0) (df 1)) (gf 0) M 0 (fun g => σ (2 + g)) X)) ∧ sz' = sz ∧ ∃ f, hp' = va_up hp 193 (ia 90 f)) := by
  refine pd_con kR_takenBy [some (vr 178), some (vi (X : Int)), some (vi (M : Int)), none, none, none, none, none] rfl rfl (Nat.le_of_ble_eq_true rfl) ?_
  refine pt_aload eR_takenBy_0 rfl ?_
  refine pt_kv0 eR_takenBy_1 (cR_take G sz _ hR h_now h_tried) hR rfl (Nat.le_of_ble_eq_true rfl) (by decide) (Nat.le_refl _) (Nat.le_refl _) ?_
  rintro v2 sz2 hpx ⟨rfl, hz9, hx9⟩
  obtain rfl := hz9.symm
  refine pt_ic eR_takenBy_4 ?_
  refine pt_istore3 eR_takenBy_5 rfl ?_
  refine pt_ic eR_takenBy_6 ?_
  refine pt_istore4 eR_takenBy_7 rfl ?_
  refine pt_ic eR_takenBy_9 ?_
  refine pt_istore5 eR_takenBy_10 rfl ?_
  refine lR_tb1 G sz hpx (X := X) (M := M) (n0 := 0) hM (fun hp5 he5 => ?_) (max 1 M - 1) 1 hpx (by omega) (by omega) rfl
  rw [he5]
  refine pt_ic eR_takenBy_30 ?_
  refine pt_istore5 eR_takenBy_31 rfl ?_
  refine lR_tb2 G sz hp hR h_goods h_brought h_missed h_use ig0 ig4 iB iM iU h_door id0 id1 id2 id3 hs hM hMd hX M 0 0 _ _ σ none none hpx (by omega) (by omega) ?_ (tR_0 hs) hx9 ?_
  · rcases (show M = 0 ∨ 1 ≤ M by omega) with h9 | h9
    · exact Or.inl h9
    · exact Or.inr (by rw [show (((max 1 M : Nat) : Int) - 1).toNat = M - 1 by omega])
  · have hb9 := fv_b (N := (nxf us br ms σ (df 0) (df 1))) (gd := gf 0) M 0 (fun g => σ (2 + g)) X
    unfold fres
    split
    · rename_i h9; exact h9
    · omega
def fmn (σ : Int → Int) (n : Int) : Nat := (min (20 - σ 0) n).toNat
def fdg (X : Nat) (j : Nat) : Int := if X / 5 ^ j % 5 = 0 then -9 else ((X / 5 ^ j % 5 : Nat) : Int) - 1
def rFed (q : Nat → Int → Int) (n k : Int) : Int := if ¬ ((1 ≤ n ∧ n ≤ 6) ∧ (-1 ≤ k ∧ k ≤ 5)) then -1 else if k = -1 then (fo (nxf (q 5) (q 8) (q 9) (q 17) (q 2 0) (q 2 1)) (q 3 0) (fmn (q 17) n) (fun g => q 17 (2 + g)) (5 ^ fmn (q 17) n)).1 else if (fo (nxf (q 5) (q 8) (q 9) (q 17) (q 2 0) (q 2 1)) (q 3 0) (fmn (q 17) n) (fun g => q 17 (2 + g)) (5 ^ fmn (q 17) n)).1 = -9 ∨ fmn (q 17) n ≤ k then -9 else fdg (fo (nxf (q 5) (q 8) (q 9) (q 17) (q 2 0) (q 2 1)) (q 3 0) (fmn (q 17) n) (fun g => q 17 (2 + g)) (5 ^ fmn (q 17) n)).2.toNat (fmn (q 17) n - 1 - k.toNat)
theorem fo_r {N : NX} {gd : Int} {m : Nat} {s : Int → Int} (n : Nat) : ((fo N gd m s n).1 = -9 ∧ (fo N gd m s n).2 = -9) ∨ ((0 ≤ (fo N gd m s n).1 ∧ (fo N gd m s n).1 ≤ m) ∧ (0 ≤ (fo N gd m s n).2 ∧ (fo N gd m s n).2 < n)) := by
  rcases fo_sp (N := N) (gd := gd) (m := m) (s := s) n with ⟨h1, h2⟩ | ⟨X, h1, h2, h3, h4, h5⟩
  · rw [h1]; exact Or.inl ⟨rfl, rfl⟩
  · rw [h1]
    have := fv_b (N := N) (gd := gd) m 0 s X
    exact Or.inr ⟨by omega, by omega⟩
theorem fo_s {N : NX} {gd : Int} {m : Nat} {s : Int → Int} {x : Nat} : fo N gd m s (x + 1) = if (fo N gd m s x).1 = 0 then fo N gd m s x else if fv N gd m 0 s x ≠ -9 ∧ ((fo N gd m s x).1 = -9 ∨ fv N gd m 0 s x < (fo N gd m s x).1) then (fv N gd m 0 s x, (x : Int)) else fo N gd m s x := rfl
theorem fo_stop {N : NX} {gd : Int} {m : Nat} {s : Int → Int} {x : Nat} (h : (fo N gd m s x).1 = 0) : ∀ n : Nat, fo N gd m s (x + n) = fo N gd m s x
  | 0 => rfl
  | n + 1 => by
    have h1 := fo_stop h n
    show fo N gd m s (x + n + 1) = _
    rw [fo, h1, if_pos h]
theorem lR_fe1 (G : pd_G) (sz : Nat) (hp : pd_P) {M : Nat} {nn k : Int} (hM : M ≤ 6) {R : pd_R} (hx : ∀  (hp0 : pd_P), hp0 = hp → pd_t G mR_fed 5 R 72 [some (vr 178), some (vi nn), some (vi k), some (vi (M : Int)), some (vi ((5 ^ ((M : Int) : Int).toNat : Nat) : Int)), some (vi ((M : Int))), none, none, none] [] sz hp0) : ∀ (n : Nat) (i : Int)  (hp0 : pd_P), 0 ≤ i → i + n = (M : Int) → hp0 = hp → pd_t G mR_fed 5 R 54 [some (vr 178), some (vi nn), some (vi k), some (vi (M : Int)), some (vi ((5 ^ (i : Int).toNat : Nat) : Int)), some (vi (i)), none, none, none] [] sz hp0 := by
  intro n
  induction n with
  | zero =>
    intro i  hp0 hi0 hiE he0
    have hiE2 : (M : Int) = i := by omega
    subst hiE2
    have hx2 := hx  hp0 he0
    rw [he0] at hx2
    rw [he0]
    refine pt_iload eR_fed_54 rfl ?_
    refine pt_iload eR_fed_56 rfl ?_
    refine pt_cge eR_fed_57 ⟨by omega, by omega⟩ ⟨by omega, by omega⟩ (fun c57 => ?_) (fun c57 => ?_)
    · exact hx2
    · exfalso; omega
  | succ n ih =>
    intro i  hp0 hi0 hiE he0
    rw [he0]
    refine pt_iload eR_fed_54 rfl ?_
    refine pt_iload eR_fed_56 rfl ?_
    refine pt_cge eR_fed_57 ⟨by omega, by omega⟩ ⟨by omega, by omega⟩ (fun c57 => ?_) (fun c57 => ?_)
    · exfalso; omega
    · refine pt_iload eR_fed_60 rfl ?_
      refine pt_ic eR_fed_62 ?_
      refine pt_imul eR_fed_63 ?_
      refine pt_istore4 eR_fed_64 rfl ?_
      refine pt_inc5 eR_fed_66 rfl ?_
      refine pt_goto eR_fed_69 ?_
      rw [show ((5 ^ i.toNat : Nat) : Int) * 5 = ((5 ^ (i + 1).toNat : Nat) : Int) from by rw [show (i + 1).toNat = i.toNat + 1 by omega, Nat.pow_succ, Int.natCast_mul]; rfl]
      exact ih (i + 1)  hp (by omega) (by omega) rfl 
theorem lR_fe2 (G : pd_G) (sz : Nat) (hp : pd_P) {v : Nat → Int} {gf br ms us : Int → Int} (hR : hp 178 = RO v) (h_goods : hp 181 = ia 2 gf) (h_brought : hp 186 = ia 160 br) (h_missed : hp 187 = ia 160 ms) (h_use : hp 183 = ia 8 us) (ig0 : 0 ≤ gf 0) (ig4 : gf 0 ≤ 4) (iB : okB br) (iM : okB ms) (iU : okU (gf 0) us) {df σ : Int → Int} (h_door : hp 180 = ia 4 df) (id0 : 1 ≤ df 0) (id1 : df 0 ≤ 9) (id2 : 1 ≤ df 1) (id3 : df 1 ≤ 9) (hs : okS ms σ) {M : Nat} {nn k : Int} (hM : M ≤ 6) (hMd : σ 0 + M ≤ 20) (h_now : hp 188 = ia 90 σ) {R : pd_R} (hx : ∀ l7 l8 (hp0 : pd_P), (∃ f, hp0 = va_up hp 193 (ia 90 f)) → pd_t G mR_fed 5 R 139 [some (vr 178), some (vi nn), some (vi k), some (vi (M : Int)), some (vi ((5 ^ M : Nat) : Int)), some (vi (fo (nxf us br ms σ (df 0) (df 1)) (gf 0) M (fun g => σ (2 + g)) (5 ^ M)).2), some (vi (fo (nxf us br ms σ (df 0) (df 1)) (gf 0) M (fun g => σ (2 + g)) (5 ^ M)).1), l7, l8] [] sz hp0) : ∀ (n x : Nat) (l8 : Option pv) (hp0 : pd_P), x + n = 5 ^ M → (∃ f, hp0 = va_up hp 193 (ia 90 f)) → pd_t G mR_fed 5 R 83 [some (vr 178), some (vi nn), some (vi k), some (vi (M : Int)), some (vi ((5 ^ M : Nat) : Int)), some (vi (fo (nxf us br ms σ (df 0) (df 1)) (gf 0) M (fun g => σ (2 + g)) x).2), some (vi (fo (nxf us br ms σ (df 0) (df 1)) (gf 0) M (fun g => σ (2 + g)) x).1), some (vi (x : Int)), l8] [] sz hp0 := by
  have p2 : 5 ^ M ≤ 15625 := Nat.pow_le_pow_right (j := 6) (by decide) hM
  have p3 := p5_pos M
  intro n
  induction n with
  | zero =>
    intro x l8 hp0 hxE hI
    have hx9 : x = 5 ^ M := by omega
    subst hx9
    have hx2 := hx (some (vi ((5 ^ M : Nat) : Int))) l8 hp0 hI
    refine pt_iload eR_fed_83 rfl ?_
    refine pt_iload eR_fed_85 rfl ?_
    refine pt_cge eR_fed_87 ⟨by omega, by omega⟩ ⟨by omega, by omega⟩ (fun c87 => ?_) (fun c87 => ?_)
    · exact hx2
    · exfalso; omega
  | succ n ih =>
    intro x l8 hp0 hxE hI
    have hI9 := hI
    obtain ⟨f0, hI⟩ := hI
    have hR := pg_n hI (by decide) hR
    have h_goods := pg_n hI (by decide) h_goods
    have h_brought := pg_n hI (by decide) h_brought
    have h_missed := pg_n hI (by decide) h_missed
    have h_use := pg_n hI (by decide) h_use
    have h_door := pg_n hI (by decide) h_door
    have h_now := pg_n hI (by decide) h_now
    have h_tried := pg_s hI
    have hfr := fo_r (N := (nxf us br ms σ (df 0) (df 1))) (gd := gf 0) (m := M) (s := fun g => σ (2 + g)) x
    refine pt_iload eR_fed_83 rfl ?_
    refine pt_iload eR_fed_85 rfl ?_
    refine pt_cge eR_fed_87 ⟨by omega, by omega⟩ ⟨by omega, by omega⟩ (fun c87 => ?_) (fun c87 => ?_)
    · first
      | (exfalso; omega)
      | (have hst := fo_stop c92 (n + 1)
         have hx2 := hx (some (vi (x : Int))) l8 hp0 hI9
         rw [← hxE, hst] at hx2
         rw [← hxE]
         exact hx2)
    · refine pt_iload eR_fed_90 rfl ?_
      refine pt_zeq eR_fed_92 ⟨by omega, by omega⟩ (fun c92 => ?_) (fun c92 => ?_)
      · first
        | (exfalso; omega)
        | (have hst := fo_stop c92 (n + 1)
           have hx2 := hx (some (vi (x : Int))) l8 hp0 hI9
           rw [← hxE, hst] at hx2
           rw [← hxE]
           exact hx2)
      · refine pt_aload eR_fed_95 rfl ?_
        refine pt_iload eR_fed_96 rfl ?_
        refine pt_iload eR_fed_98 rfl ?_
        refine pt_kv2 eR_fed_99 (cR_takenBy G sz _ hR h_goods h_brought h_missed h_use ig0 ig4 iB iM iU h_door id0 id1 id2 id3 hs (X := x) (M := M) hM hMd (by omega) h_now h_tried) hR rfl (Nat.le_of_ble_eq_true rfl) (by decide) (Nat.le_refl _) (Nat.le_refl _) ?_
        rintro v2 sz2 hpy ⟨rfl, hz9, f9, hy9⟩
        obtain rfl := hz9.symm
        have hw9 : ∃ f, hpy = va_up hp 193 (ia 90 f) := ⟨f9, by rw [hy9, hI, bx_uu]⟩
        have hvb := fv_b (N := (nxf us br ms σ (df 0) (df 1))) (gd := gf 0) M 0 (fun g => σ (2 + g)) x
        have e9 := fo_s (N := (nxf us br ms σ (df 0) (df 1))) (gd := gf 0) (m := M) (s := fun g => σ (2 + g)) (x := x)
        rw [if_neg c92] at e9
        refine pt_istore8 eR_fed_102 rfl ?_
        refine pt_iload eR_fed_104 rfl ?_
        refine pt_ic eR_fed_106 ?_
        refine pt_ceq eR_fed_108 ⟨by omega, by omega⟩ ⟨by omega, by omega⟩ (fun c108 => ?_) (fun c108 => ?_)
        · refine pt_inc7 eR_fed_133 rfl ?_
          refine pt_goto eR_fed_136 ?_
          first
          | (rw [if_pos ⟨by omega, by omega⟩] at e9
             refine pt_lve [some (vr 178), some (vi nn), some (vi k), some (vi (M : Int)), some (vi ((5 ^ M : Nat) : Int)), some (vi (fo (nxf us br ms σ (df 0) (df 1)) (gf 0) M (fun g => σ (2 + g)) (x + 1)).2), some (vi (fo (nxf us br ms σ (df 0) (df 1)) (gf 0) M (fun g => σ (2 + g)) (x + 1)).1), some (vi ((x + 1 : Nat) : Int)), _] (by rw [e9]; rfl) ?_
             exact ih (x + 1) _ hpy (by omega) hw9)
          | (rw [if_neg (by omega)] at e9
             refine pt_lve [some (vr 178), some (vi nn), some (vi k), some (vi (M : Int)), some (vi ((5 ^ M : Nat) : Int)), some (vi (fo (nxf us br ms σ (df 0) (df 1)) (gf 0) M (fun g => σ (2 + g)) (x + 1)).2), some (vi (fo (nxf us br ms σ (df 0) (df 1)) (gf 0) M (fun g => σ (2 + g)) (x + 1)).1), some (vi ((x + 1 : Nat) : Int)), _] (by rw [e9]; rfl) ?_
             exact ih (x + 1) _ hpy (by omega) hw9)
        · refine pt_iload eR_fed_111 rfl ?_
          refine pt_ic eR_fed_113 ?_
          refine pt_ceq eR_fed_115 ⟨by omega, by omega⟩ ⟨by omega, by omega⟩ (fun c115 => ?_) (fun c115 => ?_)
          · refine pt_iload eR_fed_125 rfl ?_
            refine pt_istore5 eR_fed_127 rfl ?_
            refine pt_iload eR_fed_129 rfl ?_
            refine pt_istore6 eR_fed_131 rfl ?_
            refine pt_inc7 eR_fed_133 rfl ?_
            refine pt_goto eR_fed_136 ?_
            first
            | (rw [if_pos ⟨by omega, by omega⟩] at e9
               refine pt_lve [some (vr 178), some (vi nn), some (vi k), some (vi (M : Int)), some (vi ((5 ^ M : Nat) : Int)), some (vi (fo (nxf us br ms σ (df 0) (df 1)) (gf 0) M (fun g => σ (2 + g)) (x + 1)).2), some (vi (fo (nxf us br ms σ (df 0) (df 1)) (gf 0) M (fun g => σ (2 + g)) (x + 1)).1), some (vi ((x + 1 : Nat) : Int)), _] (by rw [e9]; rfl) ?_
               exact ih (x + 1) _ hpy (by omega) hw9)
            | (rw [if_neg (by omega)] at e9
               refine pt_lve [some (vr 178), some (vi nn), some (vi k), some (vi (M : Int)), some (vi ((5 ^ M : Nat) : Int)), some (vi (fo (nxf us br ms σ (df 0) (df 1)) (gf 0) M (fun g => σ (2 + g)) (x + 1)).2), some (vi (fo (nxf us br ms σ (df 0) (df 1)) (gf 0) M (fun g => σ (2 + g)) (x + 1)).1), some (vi ((x + 1 : Nat) : Int)), _] (by rw [e9]; rfl) ?_
               exact ih (x + 1) _ hpy (by omega) hw9)
          · refine pt_iload eR_fed_118 rfl ?_
            refine pt_iload eR_fed_120 rfl ?_
            refine pt_cge eR_fed_122 ⟨by omega, by omega⟩ ⟨by omega, by omega⟩ (fun c122 => ?_) (fun c122 => ?_)
            · refine pt_inc7 eR_fed_133 rfl ?_
              refine pt_goto eR_fed_136 ?_
              first
              | (rw [if_pos ⟨by omega, by omega⟩] at e9
                 refine pt_lve [some (vr 178), some (vi nn), some (vi k), some (vi (M : Int)), some (vi ((5 ^ M : Nat) : Int)), some (vi (fo (nxf us br ms σ (df 0) (df 1)) (gf 0) M (fun g => σ (2 + g)) (x + 1)).2), some (vi (fo (nxf us br ms σ (df 0) (df 1)) (gf 0) M (fun g => σ (2 + g)) (x + 1)).1), some (vi ((x + 1 : Nat) : Int)), _] (by rw [e9]; rfl) ?_
                 exact ih (x + 1) _ hpy (by omega) hw9)
              | (rw [if_neg (by omega)] at e9
                 refine pt_lve [some (vr 178), some (vi nn), some (vi k), some (vi (M : Int)), some (vi ((5 ^ M : Nat) : Int)), some (vi (fo (nxf us br ms σ (df 0) (df 1)) (gf 0) M (fun g => σ (2 + g)) (x + 1)).2), some (vi (fo (nxf us br ms σ (df 0) (df 1)) (gf 0) M (fun g => σ (2 + g)) (x + 1)).1), some (vi ((x + 1 : Nat) : Int)), _] (by rw [e9]; rfl) ?_
                 exact ih (x + 1) _ hpy (by omega) hw9)
            · refine pt_iload eR_fed_125 rfl ?_
              refine pt_istore5 eR_fed_127 rfl ?_
              refine pt_iload eR_fed_129 rfl ?_
              refine pt_istore6 eR_fed_131 rfl ?_
              refine pt_inc7 eR_fed_133 rfl ?_
              refine pt_goto eR_fed_136 ?_
              first
              | (rw [if_pos ⟨by omega, by omega⟩] at e9
                 refine pt_lve [some (vr 178), some (vi nn), some (vi k), some (vi (M : Int)), some (vi ((5 ^ M : Nat) : Int)), some (vi (fo (nxf us br ms σ (df 0) (df 1)) (gf 0) M (fun g => σ (2 + g)) (x + 1)).2), some (vi (fo (nxf us br ms σ (df 0) (df 1)) (gf 0) M (fun g => σ (2 + g)) (x + 1)).1), some (vi ((x + 1 : Nat) : Int)), _] (by rw [e9]; rfl) ?_
                 exact ih (x + 1) _ hpy (by omega) hw9)
              | (rw [if_neg (by omega)] at e9
                 refine pt_lve [some (vr 178), some (vi nn), some (vi k), some (vi (M : Int)), some (vi ((5 ^ M : Nat) : Int)), some (vi (fo (nxf us br ms σ (df 0) (df 1)) (gf 0) M (fun g => σ (2 + g)) (x + 1)).2), some (vi (fo (nxf us br ms σ (df 0) (df 1)) (gf 0) M (fun g => σ (2 + g)) (x + 1)).1), some (vi ((x + 1 : Nat) : Int)), _] (by rw [e9]; rfl) ?_
                 exact ih (x + 1) _ hpy (by omega) hw9)
theorem lR_fe3 (G : pd_G) (sz : Nat) (hp : pd_P) {nn k mm c6 : Int} {fw : Int} {X : Nat} {r : Nat} {l8 : Option pv} {R : pd_R} (hX : X < 15625) (hk : -1 ≤ k) (hk5 : k ≤ 5) (hx : pd_t G mR_fed 5 R 192 [some (vr 178), some (vi nn), some (vi k), some (vi mm), some (vi c6), some (vi ((X / 5 ^ r : Nat) : Int)), some (vi fw), some (vi k), l8] [] sz hp) : ∀ (n j : Nat), j + n = r → n ≤ 6 → pd_t G mR_fed 5 R 174 [some (vr 178), some (vi nn), some (vi k), some (vi mm), some (vi c6), some (vi ((X / 5 ^ j : Nat) : Int)), some (vi fw), some (vi (k + n)), l8] [] sz hp := by
  intro n
  induction n with
  | zero =>
    intro j hj hn
    have hjr : j = r := by omega
    subst hjr
    rw [show k + ((0 : Nat) : Int) = k by omega]
    refine pt_iload eR_fed_174 rfl ?_
    refine pt_iload eR_fed_176 rfl ?_
    refine pt_cle eR_fed_177 ⟨by omega, by omega⟩ ⟨by omega, by omega⟩ (fun c177 => ?_) (fun c177 => ?_)
    · exact hx
    · exfalso; omega
  | succ n ih =>
    intro j hj hn
    have hd : X / 5 ^ j ≤ X := Nat.div_le_self _ _
    have hd2 : ((X / 5 ^ j : Nat) : Int) / 5 = ((X / 5 ^ (j + 1) : Nat) : Int) := by
      rw [Nat.pow_succ, ← Nat.div_div_eq_div_mul]
      rfl
    generalize hgx : X / 5 ^ j = Y at hd hd2 ⊢
    refine pt_iload eR_fed_174 rfl ?_
    refine pt_iload eR_fed_176 rfl ?_
    refine pt_cle eR_fed_177 ⟨by omega, by omega⟩ ⟨by omega, by omega⟩ (fun c177 => ?_) (fun c177 => ?_)
    · exfalso; omega
    · refine pt_iload eR_fed_180 rfl ?_
      refine pt_ic eR_fed_182 ?_
      refine pt_idiv eR_fed_183 (by omega) (by omega) (by omega) (by omega) ?_
      rw [hd2]
      refine pt_istore5 eR_fed_184 rfl ?_
      refine pt_inc7 eR_fed_186 rfl ?_
      refine pt_goto eR_fed_189 ?_
      rw [show k + ((n + 1 : Nat) : Int) + -1 = k + (n : Int) by omega]
      exact ih (j + 1) (by omega) (by omega)
