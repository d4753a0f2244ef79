/-! stores, house: the class -/
theorem sto_c {us br ms fi us2 br2 ms2 fi2 : Int → Int} {g : Int} (hf : fi g = fi2 g) (hu : us g = us2 g) (h0 : 0 ≤ g) (h4 : g < 4) (hb : ∀ k, 0 ≤ k → k < 80 → br k = br2 k) (hm : ∀ k, 0 ≤ k → k < 80 → ms k = ms2 k) : ∀ d : Nat, d ≤ 20 → sto us br ms fi g d = sto us2 br2 ms2 fi2 g d
  | 0, _ => hf
  | d + 1, hd => by
    show max 0 (rsf (sto us br ms fi g d) (br (4 * d + g)) (ms (4 * d + g)) (us g)) = max 0 (rsf (sto us2 br2 ms2 fi2 g d) (br2 (4 * d + g)) (ms2 (4 * d + g)) (us2 g))
    rw [sto_c hf hu h0 h4 hb hm d (by omega), hb _ (by omega) (by omega), hm _ (by omega) (by omega), hu]
theorem beg_c {fi fi2 : Int → Int} {gd : Int} (h : ∀ g, 0 ≤ g → g < gd → fi g = fi2 g) : beg fi gd = beg fi2 gd := by
  funext x
  unfold beg
  split
  · exact h _ (by omega) (by omega)
  · rfl
/-- the stores of the goods below g -/
def stq (us br ms fi st : Int → Int) (g : Int) : Prop := ∀ (d : Nat) (j : Int), d ≤ 20 → 0 ≤ j → j < g → st (4 * d + j) = sto us br ms fi j d
theorem lH_rs (G : pd_G) (sz : Nat) (hp : pd_P) {h : Nat} {gd ev bk : Int} {fi us br ms : Int → Int} (hg0 : 0 ≤ gd) (hg4 : gd ≤ 4) (hb : okB br) (hm : okB ms) (hu : okU gd us) (hf : ∀ g, 0 ≤ g → g < gd → 0 ≤ fi g ∧ fi g ≤ 60) (hH0 : hp h = HO h gd ev bk) (hH50 : hp (h + 5) = ia 80 br) (hH60 : hp (h + 6) = ia 80 ms) (hH20 : hp (h + 2) = ia 4 us) (hH10 : hp (h + 1) = ia 4 fi) {g : Int} (g0 : 0 ≤ g) (g1 : g < gd) {R : pd_R} (hx : ∀ (st : Int → Int) (hp0 : pd_P), hp0 (h + 7) = ia 84 st → fr hp hp0 (h + 7) (h + 8) → stq us br ms fi st (g + 1) → pd_t G mH_reckonStores 2 R 68 [some (vr h), some (vi g), some (vi 20)] [] sz hp0) : ∀ (f d : Nat) (st : Int → Int) (hp0 : pd_P), d + f = 20 → hp0 (h + 7) = ia 84 st → fr hp hp0 (h + 7) (h + 8) → stq us br ms fi st g → (∀ e : Nat, e ≤ d → st (4 * e + g) = sto us br ms fi g e) → pd_t G mH_reckonStores 2 R 24 [some (vr h), some (vi g), some (vi (d : Int))] [] sz hp0 := by
  intro f
  induction f with
  | zero =>
    intro d st hp0 hdf hH7 hfr hst hsg
    have hd : d = 20 := by omega
    subst hd
    have hH := hfr.at (by omega) hH0
    have hH5 := hfr.at (by omega) hH50
    have hH6 := hfr.at (by omega) hH60
    have hH2 := hfr.at (by omega) hH20
    have hH1 := hfr.at (by omega) hH10
    refine pt_iload eH_reckonStores_24 rfl ?_
    refine pt_ic eH_reckonStores_25 ?_
    refine pt_cge eH_reckonStores_27 ⟨by omega, by omega⟩ ⟨by omega, by omega⟩ (fun c27 => ?_) (fun c27 => ?_)
    · refine hx st hp0 hH7 hfr (fun e j he j0 j1 => ?_)
      by_cases hj : j = g
      · rw [hj]; exact hsg e he
      · exact hst e j he j0 (by omega)
    · exfalso; omega
  | succ f ih =>
    intro d st hp0 hdf hH7 hfr hst hsg
    have hH := hfr.at (by omega) hH0
    have hH5 := hfr.at (by omega) hH50
    have hH6 := hfr.at (by omega) hH60
    have hH2 := hfr.at (by omega) hH20
    have hH1 := hfr.at (by omega) hH10
    have hsb := sto_b g0 g1 hg4 hb hm hu hf d (by omega)
    have hs0 : st ((d : Int) * 4 + g) = sto us br ms fi g d := by rw [show (d : Int) * 4 + g = 4 * d + g by omega]; exact hsg d (Nat.le_refl _)
    have hbb := hb (4 * d + g) (by omega) (by omega)
    have hmm := hm (4 * d + g) (by omega) (by omega)
    have huu := hu g g0 g1
    have hsn : sto us br ms fi g (d + 1) = max 0 (rsf (sto us br ms fi g d) (br (4 * d + g)) (ms (4 * d + g)) (us g)) := rfl
    have hrr : rsf (sto us br ms fi g d) (br (4 * d + g)) (ms (4 * d + g)) (us g) = max 0 (min (sto us br ms fi g d + br (4 * d + g)) 999 - ms (4 * d + g)) - us g := rfl
    refine pt_iload eH_reckonStores_24 rfl ?_
    refine pt_ic eH_reckonStores_25 ?_
    refine pt_cge eH_reckonStores_27 ⟨by omega, by omega⟩ ⟨by omega, by omega⟩ (fun c27 => ?_) (fun c27 => ?_)
    · exfalso; omega
    · refine pt_aload eH_reckonStores_30 rfl ?_
      refine pt_get eH_reckonStores_31 hH rfl ?_
      refine pt_iload eH_reckonStores_34 rfl ?_
      refine pt_ic eH_reckonStores_35 ?_
      refine pt_iadd eH_reckonStores_36 ?_
      refine pt_ic eH_reckonStores_37 ?_
      refine pt_imul eH_reckonStores_38 ?_
      refine pt_iload eH_reckonStores_39 rfl ?_
      refine pt_iadd eH_reckonStores_40 ?_
      refine pt_ic eH_reckonStores_41 ?_
      refine pt_aload eH_reckonStores_42 rfl ?_
      refine pt_aload eH_reckonStores_43 rfl ?_
      refine pt_get eH_reckonStores_44 hH rfl ?_
      refine pt_iload eH_reckonStores_47 rfl ?_
      refine pt_ic eH_reckonStores_48 ?_
      refine pt_imul eH_reckonStores_49 ?_
      refine pt_iload eH_reckonStores_50 rfl ?_
      refine pt_iadd eH_reckonStores_51 ?_
      refine pt_iald eH_reckonStores_52 hH7 (by omega) (by omega) (by decide) ?_
      rw [hs0]
      refine pt_iload eH_reckonStores_53 rfl ?_
      refine pt_iload eH_reckonStores_54 rfl ?_
      refine pt_kv3r eH_reckonStores_55 (cH_rest G sz _ hH hH5 hH6 hH2 hsb.1 hsb.2 (by omega) (by omega) g0 (by omega) hbb hmm huu) hH rfl (Nat.le_of_ble_eq_true rfl) (by decide) (Nat.le_refl _) (Nat.le_refl _) ?_
      generalize rsf (sto us br ms fi g d) (br (4 * d + g)) (ms (4 * d + g)) (us g) = rr at hsn hrr ⊢
      rw [show (if rr < 0 then -1 else rr) = max (-1) rr by split <;> omega]
      refine pt_max eH_reckonStores_58 ⟨by omega, by omega⟩ ⟨by omega, by omega⟩ (by decide) (Nat.le_of_ble_eq_true rfl) (Nat.le_refl _) (Nat.le_refl _) ?_
      refine pt_iast eH_reckonStores_61 hH7 (by omega) (by omega) (by decide) ?_
      refine pt_gen ?_
      intro hp1 ev1
      have hH := pg_n ev1 (by omega) hH
      have hH1 := pg_n ev1 (by omega) hH1
      have hH2 := pg_n ev1 (by omega) hH2
      have hH5 := pg_n ev1 (by omega) hH5
      have hH6 := pg_n ev1 (by omega) hH6
      have hH7 := pg_s ev1
      refine pt_inc2 eH_reckonStores_62 rfl ?_
      refine pt_goto eH_reckonStores_65 ?_
      refine ih (d + 1) _ hp1 (by omega) hH7 (hfr.up ev1 (by omega) (by omega)) (fun e j he j0 j1 => ?_) (fun e he => ?_)
      · rw [uI_n _ _ (by omega)]
        exact hst e j he j0 j1
      · by_cases hed : e = d + 1
        · rw [hed, show 4 * ((d + 1 : Nat) : Int) + g = ((d : Int) + 1) * 4 + g by omega, uI_s, hsn]
          omega
        · rw [uI_n _ _ (by omega)]
          exact hsg e (by omega)
theorem lH_ro (G : pd_G) (sz : Nat) (hp : pd_P) {h : Nat} {gd ev bk : Int} {fi us br ms : Int → Int} (hg0 : 0 ≤ gd) (hg4 : gd ≤ 4) (hb : okB br) (hm : okB ms) (hu : okU gd us) (hf : ∀ g, 0 ≤ g → g < gd → 0 ≤ fi g ∧ fi g ≤ 60) (hH0 : hp h = HO h gd ev bk) (hH50 : hp (h + 5) = ia 80 br) (hH60 : hp (h + 6) = ia 80 ms) (hH20 : hp (h + 2) = ia 4 us) (hH10 : hp (h + 1) = ia 4 fi) {R : pd_R} (hx : ∀ (st : Int → Int) (l2 : Option pv) (hp0 : pd_P), hp0 (h + 7) = ia 84 st → fr hp hp0 (h + 7) (h + 8) → stq us br ms fi st gd → pd_t G mH_reckonStores 2 R 74 [some (vr h), some (vi gd), l2] [] sz hp0) : ∀ (f : Nat) (g : Int) (st : Int → Int) (l2 : Option pv) (hp0 : pd_P), 0 ≤ g → g + f = gd → hp0 (h + 7) = ia 84 st → fr hp hp0 (h + 7) (h + 8) → stq us br ms fi st g → pd_t G mH_reckonStores 2 R 2 [some (vr h), some (vi g), l2] [] sz hp0 := by
  intro f
  induction f with
  | zero =>
    intro g st l2 hp0 g0 hgf hH7 hfr hst
    have hd : gd = g := by omega
    subst hd
    have hH := hfr.at (by omega) hH0
    have hH5 := hfr.at (by omega) hH50
    have hH6 := hfr.at (by omega) hH60
    have hH2 := hfr.at (by omega) hH20
    have hH1 := hfr.at (by omega) hH10
    refine pt_iload eH_reckonStores_2 rfl ?_
    refine pt_aload eH_reckonStores_3 rfl ?_
    refine pt_get eH_reckonStores_4 hH rfl ?_
    refine pt_cge eH_reckonStores_7 ⟨by omega, by omega⟩ ⟨by omega, by omega⟩ (fun c7 => ?_) (fun c7 => ?_)
    · exact hx st l2 hp0 hH7 hfr hst
    · exfalso; omega
  | succ f ih =>
    intro g st l2 hp0 g0 hgf hH7 hfr hst
    have hH := hfr.at (by omega) hH0
    have hH5 := hfr.at (by omega) hH50
    have hH6 := hfr.at (by omega) hH60
    have hH2 := hfr.at (by omega) hH20
    have hH1 := hfr.at (by omega) hH10
    refine pt_iload eH_reckonStores_2 rfl ?_
    refine pt_aload eH_reckonStores_3 rfl ?_
    refine pt_get eH_reckonStores_4 hH rfl ?_
    refine pt_cge eH_reckonStores_7 ⟨by omega, by omega⟩ ⟨by omega, by omega⟩ (fun c7 => ?_) (fun c7 => ?_)
    · exfalso; omega
    · refine pt_aload eH_reckonStores_10 rfl ?_
      refine pt_get eH_reckonStores_11 hH rfl ?_
      refine pt_iload eH_reckonStores_14 rfl ?_
      refine pt_aload eH_reckonStores_15 rfl ?_
      refine pt_get eH_reckonStores_16 hH rfl ?_
      refine pt_iload eH_reckonStores_19 rfl ?_
      refine pt_iald eH_reckonStores_20 hH1 (by omega) (by omega) (by decide) ?_
      refine pt_iast eH_reckonStores_21 hH7 (by omega) (by omega) (by decide) ?_
      refine pt_gen ?_
      intro hp1 ev1
      have hH := pg_n ev1 (by omega) hH
      have hH1 := pg_n ev1 (by omega) hH1
      have hH2 := pg_n ev1 (by omega) hH2
      have hH5 := pg_n ev1 (by omega) hH5
      have hH6 := pg_n ev1 (by omega) hH6
      have hH7 := pg_s ev1
      refine pt_ic eH_reckonStores_22 ?_
      refine pt_istore2 eH_reckonStores_23 rfl ?_
      refine lH_rs G sz hp hg0 hg4 hb hm hu hf hH0 hH50 hH60 hH20 hH10 g0 (by omega) (fun st2 hp2 k1 k2 k3 => ?_) 20 0 _ hp1 (by omega) hH7 (hfr.up ev1 (by omega) (by omega)) (fun e j he j0 j1 => ?_) (fun e he => ?_)
      · refine pt_inc1 eH_reckonStores_68 rfl ?_
        refine pt_goto eH_reckonStores_71 ?_
        exact ih (g + 1) st2 _ hp2 (by omega) (by omega) k1 k2 k3
      · rw [uI_n _ _ (by omega)]
        exact hst e j he j0 j1
      · have he0 : e = 0 := by omega
        rw [he0, show 4 * ((0 : Nat) : Int) + g = g by omega, uI_s]
        rfl
theorem cH_reckonStores (G : pd_G) (sz : Nat) (hp : pd_P) {h : Nat} {gd ev bk : Int} {fi us we wo br ms st : Int → Int} (hg0 : 0 ≤ gd) (hg4 : gd ≤ 4) (hb : okB br) (hm : okB ms) (hu : okU gd us) (hf : ∀ g, 0 ≤ g → g < gd → 0 ≤ fi g ∧ fi g ≤ 60) (hHo : HoA hp h gd ev bk fi us we wo br ms st) : pd_c G mH_reckonStores 2 [vr h] sz hp (fun v' sz' hp' => v' = none ∧ sz' = sz ∧ (∃ st2 : Int → Int, HoA hp' h gd ev bk fi us we wo br ms st2 ∧ stq us br ms fi st2 gd) ∧ fr hp hp' (h + 7) (h + 8)) := by
  refine pd_con kH_reckonStores [some (vr h), none, none] rfl rfl (Nat.le_of_ble_eq_true rfl) ?_
  obtain ⟨hH, hH1, hH2, hH3, hH4, hH5, hH6, hH7⟩ := hHo
  refine pt_ic eH_reckonStores_0 ?_
  refine pt_istore1 eH_reckonStores_1 rfl ?_
  refine lH_ro G sz hp hg0 hg4 hb hm hu hf hH hH5 hH6 hH2 hH1 (fun st2 l2 hp2 k1 k2 k3 => ?_) gd.toNat 0 st _ hp (by omega) (by omega) hH7 fr.rf (fun e j _ j0 j1 => absurd j0 (by omega))
  refine pt_vret eH_reckonStores_74 (Nat.le_refl _) (Nat.le_refl _) ?_
  exact ⟨rfl, rfl, ⟨st2, ⟨k2.at (by omega) hH, k2.at (by omega) hH1, k2.at (by omega) hH2, k2.at (by omega) hH3, k2.at (by omega) hH4, k2.at (by omega) hH5, k2.at (by omega) hH6, k1⟩, k3⟩, k2⟩
theorem FR.mid {h : Nat} {hp hp1 : pd_P} (f : FR h hp hp1) (hh : 5 ≤ h) : ∃ hpm : pd_P, fr hp hpm 2 5 ∧ fr hpm hp1 h (h + 8) := by
  refine ⟨fun k => if k = 2 ∨ k = 4 then hp1 k else hp k, fun k hk => ?_, fun k hk => ?_⟩
  · show (if k = 2 ∨ k = 4 then hp1 k else hp k) = hp k
    rw [if_neg (by omega)]
  · show hp1 k = if k = 2 ∨ k = 4 then hp1 k else hp k
    split
    · rfl
    · exact f k (by omega) (by omega) hk
theorem sgn_m {x : Int} (h : 0 ≤ x ∧ x ≤ 255) : sgn x % 2 ^ 8 = x := by
  unfold sgn
  split <;> omega
theorem HsA.Hd {hp : pd_P} {h : Nat} {q : Nat → Int → Int} (H : HsA hp h q) : HdA hp h := by
  obtain ⟨fi, us, we, wo, st, h1, -⟩ := H
  exact ⟨_, _, _, fi, us, we, wo, _, _, st, h1⟩
theorem TxA.ok {hp : pd_P} {q : Nat → Int → Int} {v : Nat → Int} (h : TxA hp q v) (h0 : 0 ≤ v 1 ∧ v 1 ≤ 150) : okX (fun x => q 0 x % 2 ^ 8) (v 1) := by
  obtain ⟨tx, nu, a, b, c, d, e, h1, h2, h3, h4⟩ := h
  refine ⟨h0, fun i i0 i1 => ?_⟩
  have h5 := h4 i i0 i1
  show 0 ≤ q 0 i % 2 ^ 8 ∧ q 0 i % 2 ^ 8 ≤ 255
  omega
theorem GdA.v {hp : pd_P} {v u : Nat → Int} (h : GdA hp v) (e : u 31 = v 31) : GdA hp u := by
  obtain ⟨f, t0, t1, t2, t3, t4, t5, h1, h2, h3, h4, h5, h6, h7, h8, h9⟩ := h
  exact ⟨f, t0, t1, t2, t3, t4, t5, h1, h2, h3, h4, h5, h6, h7, h8, h9.trans e.symm⟩
theorem rdf_j {b : Int → Int} {n : Int} (hX : okX b n) : ∀ (f : Nat) (q : Nat → Int → Int) (h a k : Int), 0 ≤ a → a ≤ n → 0 ≤ k → k + f ≤ 1000 → jR (rdf b n f q h a k).1
  | 0, q, h, a, k, h0, h1, h2, h3 => by
    have := hX.1
    show jR (-10 - a)
    exact ⟨by omega, by omega⟩
  | f + 1, q, h, a, k, h0, h1, h2, h3 => by
    have hx := hX.1
    rw [rdf]
    split
    · show jR k
      exact ⟨by omega, by omega⟩
    · split
      · have hkr := tk_r hX h0 h1 (ifl b n (q 3 1) h a).toNat
        have htp := te_r hX (show 0 ≤ tk b n a (ifl b n (q 3 1) h a).toNat by omega) hkr.2
        show jR (-10 - tkp b n (tk b n a (ifl b n (q 3 1) h a).toNat))
        exact ⟨by omega, by omega⟩
      · have hkr := tk_r hX h0 h1 (nuN (tv b n a) + 2)
        exact rdf_j hX f _ _ _ _ (by omega) hkr.2 (by omega) (by omega)
theorem xD_house (G : pd_G) (sz : Nat) (hp : pd_P) {to dr : Nat} {q : Nat → Int → Int} {v : Nat → Int} (hC : CW hp to dr q v) (hv1 : 0 ≤ v 1 ∧ v 1 ≤ 150) : pd_c G mD_house 6 [vr 1] sz hp (cPost hp sz (fHouse q v)) := by
  refine pd_con kD_house [some (vr 1), none, none, none] rfl rfl (Nat.le_of_ble_eq_true rfl) ?_
  obtain ⟨hto, hDo, hTx, hHs, hHd, hLf, hI0, hI1, hGo, hPl⟩ := hC
  have hDo2 := hDo
  obtain ⟨hD, ⟨imf, hIm, him0, him1⟩, hKp, hSg, hSt, hGd, hGt⟩ := hDo2
  have hTx2 := hTx
  obtain ⟨tx, nu, ta, tb, tc, td, te, hT, hTb, hTn, htx⟩ := hTx2
  have hX := hTx.ok hv1
  have hb9 : ∀ i, 0 ≤ i → i < v 1 → tx i = (fun x => q 0 x % 2 ^ 8) i := fun i i0 i1 => by
    have h5 := htx i i0 i1
    show tx i = q 0 i % 2 ^ 8
    rw [h5.2.2, sgn_m ⟨h5.1, h5.2.1⟩]
  have hHd0 := hHd
  obtain ⟨gd0, ev0, bk0, fi0, us0, we0, wo0, br0, ms0, st0, hHd, -⟩ := hHd
  refine pt_aload eD_house_0 rfl ?_
  refine pt_get eD_house_1 hD rfl ?_
  refine pt_aload eD_house_4 rfl ?_
  refine pt_get eD_house_5 hD rfl ?_
  refine pt_kv1 eD_house_8 (cT_tell G sz _ q (h := dr) (b := (fun x => q 0 x % 2 ^ 8)) (n := v 1) (by omega) hX hb9 hTb hT hTn hHd0) hT rfl (Nat.le_of_ble_eq_true rfl) (by decide) (Nat.le_refl _) (Nat.le_refl _) ?_
  rintro v2 sz2 hpx ⟨rfl, hz9, ⟨nu2, y1, y2, y3, y4, y5, hT, hTn⟩, hHd2, hHR, hFR⟩
  obtain rfl := hz9.symm
  have hr0 : hrd q v = rdf (fun x => q 0 x % 2 ^ 8) (v 1) 151 (rq0 q) 0 0 0 := rfl
  rw [← hr0] at hHR ⊢
  have hDr := rdf_ok (b := (fun x => q 0 x % 2 ^ 8)) (n := v 1) 151 (rq0 q) 0 0 0 rq0_D
  rw [← hr0] at hDr
  have hrb : jR (hrd q v).1 := rdf_j hX 151 (rq0 q) 0 0 0 (Int.le_refl 0) hX.1.1 (by decide) (by decide)
  obtain ⟨hpm, hfm1, hfm2⟩ := hFR.mid (by omega)
  have hDo := (hDo.keep hfm1 (by omega)).keep hfm2 (by omega)
  have hHs := (hHs.keep hfm1 (by omega)).keep hfm2 (by omega)
  have hLf := (hLf.keep hfm1 (by omega)).keep hfm2 (by omega)
  have hI0 := (hI0.keep hfm1 (by omega)).keep hfm2 (by omega)
  have hI1 := (hI1.keep hfm1 (by omega)).keep hfm2 (by omega)
  have hGo := (hGo.keep hfm1 (by omega)).keep hfm2 (by omega)
  have hPl := (hPl.keep hfm1 (by omega)).keep hfm2 (by omega)
  have hTb := hFR.at (by omega) hTb
  have hD := hDo.1
  have hfr1 : fr hp hpx 1 178 := fun k hk => hFR k (by omega) (by omega) (by omega)
  have hHe := hHd2
  obtain ⟨hgd, hev, hbk, hfi, hus, hwe, hwo, hbr, hms, hst, hHd, -⟩ := hHe
  refine pt_istore1 eD_house_11 rfl ?_
  refine pt_iload eD_house_12 rfl ?_
  refine pt_zge eD_house_13 hrb (fun c13 => ?_) (fun c13 => ?_)
  · refine pt_aload eD_house_18 rfl ?_
    refine pt_get eD_house_19 hD rfl ?_
    refine pt_astore2 eD_house_22 rfl ?_
    refine pt_aload eD_house_23 rfl ?_
    refine pt_aload eD_house_24 rfl ?_
    refine pt_get eD_house_25 hD rfl ?_
    refine pt_put11 eD_house_28 hD trivial ?_
    refine pt_gen ?_
    intro hp2 ev2
    have hD := pg_s ev2
    have hT := pg_n ev2 (by omega) hT
    have hTb := pg_n ev2 (by omega) hTb
    have hTn := pg_n ev2 (by omega) hTn
    have hHd := pg_n ev2 (by omega) hHd
    refine pt_aload eD_house_31 rfl ?_
    refine pt_aload eD_house_32 rfl ?_
    refine pt_put12 eD_house_33 hD trivial ?_
    refine pt_gen ?_
    intro hp3 ev3
    have hD := pg_s ev3
    have hT := pg_n ev3 (by omega) hT
    have hTb := pg_n ev3 (by omega) hTb
    have hTn := pg_n ev3 (by omega) hTn
    have hHd := pg_n ev3 (by omega) hHd
    have hFp : fr hpx hp3 1 2 := ((fr.rf.up ev2 (by omega) (by omega)).up ev3 (by omega) (by omega))
    obtain ⟨r, hr9⟩ : ∃ r, r = (hrd q v).2 := ⟨_, rfl⟩
    have hHR2 := hHR (by omega)
    rw [← hr9] at hHR2 hDr
    obtain ⟨hDD, hLr⟩ := hDr
    have hLr : LV q r := rq0_LV.tr hLr
    obtain ⟨fi, us, we, wo, br, ms, st, hHo, hag, hab⟩ := hHR2
    have hHo := hHo.keep hFp (by omega)
    have hokb : okB br := fun k k0 k1 => by rw [(hab k k0 k1).1]; exact (hDD.2.2.1 (80 + k) (by omega) (by omega)).1
    have hokm : okB ms := fun k k0 k1 => by rw [(hab k k0 k1).2]; exact (hDD.2.2.1 (80 + k) (by omega) (by omega)).2
    have hoku : okU (r 3 1) us := fun k k0 k1 => by rw [(hag k k0 k1).2.1]; exact (hDD.2.2.2 k k0 k1).2.1
    have hokf : ∀ g, 0 ≤ g → g < r 3 1 → 0 ≤ fi g ∧ fi g ≤ 60 := fun k k0 k1 => by rw [(hag k k0 k1).1]; exact (hDD.2.2.2 k k0 k1).1
    obtain ⟨-, ⟨imf, hIm, him0, him1⟩, hKp, hSg, hSt, hGd, hGt⟩ := hDo
    have hIm := hFp.at (by omega) hIm
    have hKp := hFp.at (by omega) hKp
    have hSg := hFp.at (by omega) hSg
    have hSt := hFp.at (by omega) hSt
    have hGd := hFp.at (by omega) hGd
    have hGt := hFp.at (by omega) hGt
    obtain ⟨Q, hLi, -⟩ := hLf
    have hLi := hLi.fr hFp (by omega)
    have hL := hLi.1
    have hHold := hHs.Hd.keep hFp (by omega)
    obtain ⟨p0, k0, Q0, hA0, -⟩ := hI0
    have hA0 := hA0.fr hFp (by omega)
    obtain ⟨p1, k1, Q1, hA1, -⟩ := hI1
    have hA1 := hA1.fr hFp (by omega)
    have hGo := hGo.keep hFp (by omega)
    have hPl := hPl.keep hFp (by omega)
    refine pt_aload eD_house_36 rfl ?_
    refine pt_get eD_house_37 hD rfl ?_
    refine pt_kv0 eD_house_40 (cH_reckonStores G sz _ hDD.1.1 hDD.1.2 hokb hokm hoku hokf hHo) hHd rfl (Nat.le_of_ble_eq_true rfl) (by decide) (Nat.le_refl _) (Nat.le_refl _) ?_
    rintro v2 sz2 hpy ⟨rfl, hz9, ⟨st2, hHo2, hsq2⟩, hfs⟩
    obtain rfl := hz9.symm
    have hD := hfs.at (by omega) hD
    have hT := hfs.at (by omega) hT
    have hL := hfs.at (by omega) hL
    have hKp := hfs.at (by omega) hKp
    have hHd := hHo2.1
    refine pt_aload eD_house_43 rfl ?_
    refine pt_get eD_house_44 hD rfl ?_
    refine pt_aload eD_house_47 rfl ?_
    refine pt_get eD_house_48 hD rfl ?_
    refine pt_kv1 eD_house_51 (cL_begin G sz _ (by omega) (hLi.fr hfs (by omega)) hHo2.1 hHo2.2.1 hDD.1.1 hDD.1.2) hL rfl (Nat.le_of_ble_eq_true rfl) (by decide) (Nat.le_refl _) (Nat.le_refl _) ?_
    rintro v2 sz2 hpz ⟨rfl, hz9, hLi2, hfl⟩
    obtain rfl := hz9.symm
    have hD := hfl.at (by omega) hD
    have hT := hfl.at (by omega) hT
    have hL := hLi2.1
    have hKp := hfl.at (by omega) hKp
    have hHo3 := hHo2.keep hfl (by omega)
    have hHd := hHo3.1
    refine pt_aload eD_house_54 rfl ?_
    refine pt_get eD_house_55 hD rfl ?_
    refine pt_ic eD_house_58 ?_
    refine pt_put1 eD_house_59 hT trivial ?_
    refine pt_gen ?_
    intro hp23 ev23
    have hD := pg_n ev23 (by omega) hD
    have hT := pg_s ev23
    have hL := pg_n ev23 (by omega) hL
    have hKp := pg_n ev23 (by omega) hKp
    have hHd := pg_n ev23 (by omega) hHd
    refine pt_aload eD_house_62 rfl ?_
    refine pt_ic eD_house_63 ?_
    refine pt_put13 eD_house_64 hD trivial ?_
    refine pt_gen ?_
    intro hp24 ev24
    have hD := pg_s ev24
    have hT := pg_n ev24 (by omega) hT
    have hL := pg_n ev24 (by omega) hL
    have hKp := pg_n ev24 (by omega) hKp
    have hHd := pg_n ev24 (by omega) hHd
    refine pt_aload eD_house_67 rfl ?_
    refine pt_ic eD_house_68 ?_
    refine pt_put14 eD_house_69 hD trivial ?_
    refine pt_gen ?_
    intro hp25 ev25
    have hD := pg_s ev25
    have hT := pg_n ev25 (by omega) hT
    have hL := pg_n ev25 (by omega) hL
    have hKp := pg_n ev25 (by omega) hKp
    have hHd := pg_n ev25 (by omega) hHd
    refine pt_ic eD_house_72 ?_
    refine pt_istore3 eD_house_73 rfl ?_
    refine pt_iload eD_house_74 rfl ?_
    refine pt_ic eD_house_75 ?_
    refine pt_cge eD_house_76 ⟨by omega, by omega⟩ ⟨by omega, by omega⟩ (fun c76 => ?_) (fun c76 => ?_)
    · exfalso; omega
    · refine pt_aload eD_house_79 rfl ?_
      refine pt_get eD_house_80 hD rfl ?_
      refine pt_iload eD_house_83 rfl ?_
      refine pt_ic eD_house_84 ?_
      refine pt_zast eD_house_85 hKp (by omega) (by omega) (by decide) (Or.inl rfl) ?_
      refine pt_gen ?_
      intro hp41 ev41
      have hD := pg_n ev41 (by omega) hD
      have hT := pg_n ev41 (by omega) hT
      have hL := pg_n ev41 (by omega) hL
      have hKp := pg_s ev41
      have hHd := pg_n ev41 (by omega) hHd
      refine pt_inc3 eD_house_86 rfl ?_
      refine pt_goto eD_house_89 ?_
      refine pt_iload eD_house_74 rfl ?_
      refine pt_ic eD_house_75 ?_
      refine pt_cge eD_house_76 ⟨by omega, by omega⟩ ⟨by omega, by omega⟩ (fun c76 => ?_) (fun c76 => ?_)
      · exfalso; omega
      · refine pt_aload eD_house_79 rfl ?_
        refine pt_get eD_house_80 hD rfl ?_
        refine pt_iload eD_house_83 rfl ?_
        refine pt_ic eD_house_84 ?_
        refine pt_zast eD_house_85 hKp (by omega) (by omega) (by decide) (Or.inl rfl) ?_
        refine pt_gen ?_
        intro hp42 ev42
        have hD := pg_n ev42 (by omega) hD
        have hT := pg_n ev42 (by omega) hT
        have hL := pg_n ev42 (by omega) hL
        have hKp := pg_s ev42
        have hHd := pg_n ev42 (by omega) hHd
        refine pt_inc3 eD_house_86 rfl ?_
        refine pt_goto eD_house_89 ?_
        refine pt_iload eD_house_74 rfl ?_
        refine pt_ic eD_house_75 ?_
        refine pt_cge eD_house_76 ⟨by omega, by omega⟩ ⟨by omega, by omega⟩ (fun c76 => ?_) (fun c76 => ?_)
        · have hfw1 : fr hpz hp25 1 3 := (((fr.rf.up ev23 (by omega) (by omega)).up ev24 (by omega) (by omega)).up ev25 (by omega) (by omega))
          have hfw2 : fr hp25 hp42 52 53 := ((fr.rf.up ev41 (by omega) (by omega)).up ev42 (by omega) (by omega))
          have hHo4 := (hHo3.keep hfw1 (by omega)).keep hfw2 (by omega)
          have hq8 : ∀ k, 0 ≤ k → k < 80 → br k = hsq r 8 k := fun k k0 k1 => by
            rw [(hab k k0 k1).1]
            show _ = blk (r 8) (fun k => r 8 (80 + k)) 0 80 k
            rw [blk_in (by omega) (by omega), Int.sub_zero]
          have hq9 : ∀ k, 0 ≤ k → k < 80 → ms k = hsq r 9 k := fun k k0 k1 => by
            rw [(hab k k0 k1).2]
            show _ = blk (r 9) (fun k => r 9 (80 + k)) 0 80 k
            rw [blk_in (by omega) (by omega), Int.sub_zero]
          have hq4 : ∀ g, 0 ≤ g → g < r 3 1 → fi g = hsq r 4 g ∧ us g = hsq r 5 g ∧ we g = hsq r 6 g ∧ wo g = hsq r 7 g := fun g g0 g1 => by
            have g4 := hDD.1.2
            have e4 : hsq r 4 g = r 4 (4 + g) := by show blk (r 4) (fun g => r 4 (4 + g)) 0 4 g = _; rw [blk_in (by omega) (by omega), Int.sub_zero]
            have e5 : hsq r 5 g = r 5 (4 + g) := by show blk (r 5) (fun g => r 5 (4 + g)) 0 4 g = _; rw [blk_in (by omega) (by omega), Int.sub_zero]
            have e6 : hsq r 6 g = r 6 (4 + g) := by show blk (r 6) (fun g => r 6 (4 + g)) 0 4 g = _; rw [blk_in (by omega) (by omega), Int.sub_zero]
            have e7 : hsq r 7 g = r 7 (4 + g) := by show blk (r 7) (fun g => r 7 (4 + g)) 0 4 g = _; rw [blk_in (by omega) (by omega), Int.sub_zero]
            rw [e4, e5, e6, e7]
            exact hag g g0 g1
          refine pt_ext (hHo4.2.2.2.2.2.1) (g := hsq r 8) (fun i i0 i1 => hq8 i i0 (by omega)) ?_
          refine pt_gen ?_
          intro hpv evv
          have hms4 : hpv (dr + 6) = ia 80 ms := pg_n evv (by omega) hHo4.2.2.2.2.2.2.1
          refine pt_ext hms4 (g := hsq r 9) (fun i i0 i1 => hq9 i i0 (by omega)) ?_
          refine pt_gen ?_
          intro hpu evu
          have hfx : fr hp42 hpu dr (dr + 8) := (fr.rf.up evv (by omega) (by omega)).up evu (by omega) (by omega)
          refine pt_iload eD_house_92 rfl ?_
          refine pt_iret eD_house_93 (Nat.le_refl _) (Nat.le_refl _) ?_
          have hneg : ¬ (hrd q v).1 < 0 := by omega
          rw [show fHouse q v = (hsq (hrd q v).2, hsv v, (hrd q v).1) by unfold fHouse; rw [if_neg hneg], ← hr9]
          have h17 : hsq r 17 = beg fi (r 3 1) := (beg_c (fi2 := fun g => r 4 (4 + g)) (fun g g0 g1 => (hag g g0 g1).1)).symm
          have h21 : hsq r 21 = uI (uI (q 21) 0 0) 1 0 := by show uI (uI (r 21) 0 0) 1 0 = _; rw [hLr.1 21 (by omega)]
          have h24 : hsq r 24 = q 24 := hLr.1 24 (by omega)
          have h25 : hsq r 25 = q 25 := hLr.1 25 (by omega)
          have h27 : hsq r 27 = q 27 := hLr.1 27 (by omega)
          have h28 : hsq r 28 = q 28 := hLr.1 28 (by omega)
          have hD := hfx.at (by omega) hD
          have hT := hfx.at (by omega) hT
          have hKp := hfx.at (by omega) hKp
          refine ⟨rfl, rfl, ⟨dr, to, by omega, ⟨hD, ⟨imf, (hfx.at (by omega) (hfw2.at (by omega) (hfw1.at (by omega) (hfl.at (by omega) (hfs.at (by omega) hIm))))), him0, him1⟩, ?_, ?_, ?_, ?_, ?_⟩, ⟨tx, nu2, _, _, _, _, _, hT, (hfx.at (by omega) (hfw2.at (by omega) (hfw1.at (by omega) (hfl.at (by omega) (hfs.at (by omega) hTb))))), (hfx.at (by omega) (hfw2.at (by omega) (hfw1.at (by omega) (hfl.at (by omega) (hfs.at (by omega) hTn))))), fun i i0 i1 => absurd (show i < 0 from i1) (by omega)⟩, ⟨fi, us, we, wo, st2, ⟨pg_n evu (by omega) (pg_n evv (by omega) hHo4.1), pg_n evu (by omega) (pg_n evv (by omega) hHo4.2.1), pg_n evu (by omega) (pg_n evv (by omega) hHo4.2.2.1), pg_n evu (by omega) (pg_n evv (by omega) hHo4.2.2.2.1), pg_n evu (by omega) (pg_n evv (by omega) hHo4.2.2.2.2.1), pg_n evu (by omega) (pg_s evv), pg_s evu, pg_n evu (by omega) (pg_n evv (by omega) hHo4.2.2.2.2.2.2.2)⟩, hq4, fun d g hd g0 g1 => (hsq2 d g hd g0 g1).trans (sto_c (hq4 g g0 g1).1 (hq4 g g0 g1).2.1 g0 (by have := hDD.1.2; have g2 : g < r 3 1 := g1; omega) hq8 hq9 d hd)⟩, (((((hHold.keep hfs (by omega)).keep hfl (by omega)).keep hfw1 (by omega)).keep hfw2 (by omega)).keep hfx (by omega)), ⟨Q, ?_, fun i x i0 i1 => absurd (show i < 0 from i1) (by omega)⟩, ⟨p0, k0, Q0, (((((hA0.fr hfs (by omega)).fr hfl (by omega)).fr hfw1 (by omega)).fr hfw2 (by omega)).fr hfx (by omega)), fun hz => absurd (show (0 : Int) = 1 from hz) (by decide)⟩, ⟨p1, k1, Q1, (((((hA1.fr hfs (by omega)).fr hfl (by omega)).fr hfw1 (by omega)).fr hfw2 (by omega)).fr hfx (by omega)), fun hz => absurd (show (0 : Int) = 1 from hz) (by decide)⟩, (((((hGo.keep hfs (by omega)).keep hfl (by omega)).keep hfw1 (by omega)).keep hfw2 (by omega)).keep hfx (by omega)).v rfl, (((((hPl.keep hfs (by omega)).keep hfl (by omega)).keep hfw1 (by omega)).keep hfw2 (by omega)).keep hfx (by omega))⟩, fun k hk => (hfx k (by omega)).trans ((hfw2 k (by omega)).trans ((hfw1 k (by omega)).trans ((hfl k (by omega)).trans ((hfs k (by omega)).trans ((hFp k (by omega)).trans (hfr1 k hk))))))⟩
          · show hpu 52 = za 2 (hsq r 21); rw [h21]; exact hKp
          · show hpu 53 = ia 4 (hsq r 24); rw [h24]; exact (hfx.at (by omega) (hfw2.at (by omega) (hfw1.at (by omega) (hfl.at (by omega) (hfs.at (by omega) hSg)))))
          · show hpu 54 = ia 4 (hsq r 25); rw [h25]; exact (hfx.at (by omega) (hfw2.at (by omega) (hfw1.at (by omega) (hfl.at (by omega) (hfs.at (by omega) hSt)))))
          · show hpu 55 = ia 4 (hsq r 27); rw [h27]; exact (hfx.at (by omega) (hfw2.at (by omega) (hfw1.at (by omega) (hfl.at (by omega) (hfs.at (by omega) hGd)))))
          · show hpu 56 = ia 4 (hsq r 28); rw [h28]; exact (hfx.at (by omega) (hfw2.at (by omega) (hfw1.at (by omega) (hfl.at (by omega) (hfs.at (by omega) hGt)))))
          · show LiA hpu 5 (hsq r 17) (hsq r 18 0) Q; rw [h17]; exact (((hLi2.fr hfw1 (by omega)).fr hfw2 (by omega)).fr hfx (by omega))
        · exfalso; omega
  · refine pt_iload eD_house_16 rfl ?_
    refine pt_iret eD_house_17 (Nat.le_refl _) (Nat.le_refl _) ?_
    rw [show fHouse q v = (q, v, (hrd q v).1) by unfold fHouse; rw [if_pos (by omega)]]
    exact ⟨rfl, rfl, ⟨to, dr, hto, hDo, ⟨tx, nu2, _, _, _, _, _, hT, hTb, hTn, htx⟩, hHs, hHd2, hLf, hI0, hI1, hGo, hPl⟩, hfr1⟩
