/-! what is done: days, takings, purchases, held doors -/
def fKnow (q : Nat → Int → Int) : Nat → Int → Int := va_up (va_up q 19 (kbf (q 19) (q 17) (q 18 0))) 18 (uI (q 18) 0 (knf (q 18 0)))
def fGoes (q : Nat → Int → Int) (v : Nat → Int) : Sg := if q 17 0 = 20 then (q, v, -2) else (va_up (fKnow q) 17 (passf (q 5) (q 8) (q 9) (q 17) (q 3 0)), v, hnf (q 5) (q 8) (q 9) (q 17) (q 3 0).toNat)
def fTakes (q : Nat → Int → Int) (v : Nat → Int) (g n : Int) : Sg := if ¬ ((0 ≤ g ∧ g ≤ q 3 0 - 1) ∧ (1 ≤ n ∧ n ≤ 30)) then (q, v, -1) else if opf (q 2 0) (q 2 1) (q 17) = -9 ∨ canf (q 2 0) (q 2 1) (q 9) (q 17) g < n then (q, v, -2) else (va_up (fKnow q) 17 (tkf (q 2 0) (q 2 1) (q 17) g n), v, min (q 17 (2 + g) + n) 999)
def fBuys (q : Nat → Int → Int) (v : Nat → Int) (g n : Int) : Sg := if ¬ ((0 ≤ g ∧ g ≤ q 3 0 - 1) ∧ (1 ≤ n ∧ n ≤ 9)) then (q, v, -1) else if q 17 (2 + g) = 999 then (q, v, -2) else (va_up (fKnow q) 17 (uI (q 17) (2 + g) (min (q 17 (2 + g) + n) 999)), v, min (q 17 (2 + g) + n) 999)
def fHolds (q : Nat → Int → Int) (v : Nat → Int) (w : Int) : Sg := if ¬ (0 ≤ w ∧ w ≤ 1) then (q, v, -1) else if q 17 1 = w then (q, v, -2) else (va_up (fKnow q) 17 (uI (q 17) 1 w), v, opf (q 2 0) (q 2 1) (uI (q 17) 1 w))
theorem rr_cong {us us' br ms σ : Int → Int} {g : Int} (h : us g = us' g) : rr us br ms σ g = rr us' br ms σ g := by unfold rr; rw [h]
theorem hnf_cong {us us' br ms σ : Int → Int} : ∀ (n : Nat), (∀ g : Int, 0 ≤ g → g < n → us g = us' g) → hnf us br ms σ n = hnf us' br ms σ n
  | 0, _ => rfl
  | n + 1, h => by
    rw [hnf, hnf, hnf_cong n (fun g h0 h1 => h g h0 (by omega)), rr_cong (h n (by omega) (by omega))]
theorem passf_cong {us us' br ms σ : Int → Int} {gd : Int} (h : ∀ g : Int, 0 ≤ g → g < gd → us g = us' g) : passf us br ms σ gd = passf us' br ms σ gd := by
  unfold passf
  congr 1
  funext i
  unfold psf
  by_cases h1 : 2 ≤ i ∧ i < 2 + gd
  · rw [if_pos h1, if_pos h1, rr_cong (h (i - 2) (by omega) (by omega))]
  · rw [if_neg h1, if_neg h1]
    by_cases h2 : 6 ≤ i ∧ i < 6 + gd
    · rw [if_pos h2, if_pos h2, rr_cong (h (i - 6) (by omega) (by omega))]
    · rw [if_neg h2, if_neg h2]
theorem kbf_hi {bf σ : Int → Int} {k y : Int} (hk : k ≤ 10) (hy : 900 ≤ y) : kbf bf σ k y = bf y := by
  unfold kbf
  split
  · rw [blk_out (by omega), blk_out (by omega)]
  · rw [blk_out (by omega)]
theorem kbf_q {bf σ : Int → Int} {k i x : Int} {Q : Int → Int → Int} (hk0 : 0 ≤ k) (hk : k ≤ 10) (hQ : ∀ i x, 0 ≤ i → i < k → 0 ≤ x → x < 90 → Q i x = bf (90 * i + x)) (h0 : 0 ≤ i) (h1 : i < knf k) (hx0 : 0 ≤ x) (hx1 : x < 90) : rmQ Q σ k i x = kbf bf σ k (90 * i + x) := by
  unfold rmQ kbf
  unfold knf at h1
  by_cases h10 : k = 10
  · rw [if_pos h10] at h1
    rw [if_pos h10, if_pos h10]
    by_cases h9 : i = 9
    · subst h9
      rw [if_pos rfl, blk_in (by omega) (by omega)]
      congr 1
      omega
    · rw [if_neg h9, blk_out (by omega), blk_in (by omega) (by omega), hQ (i + 1) x (by omega) (by omega) hx0 hx1]
      congr 1
      omega
  · rw [if_neg h10] at h1
    rw [if_neg h10, if_neg h10]
    by_cases hi : i = k
    · subst hi
      rw [uI_s, blk_in (by omega) (by omega)]
      congr 1
      omega
    · rw [uI_n _ _ hi, blk_out (by omega), hQ i x h0 (by omega) hx0 hx1]
theorem ImA.upd {hp : pd_P} {q q2 : Nat → Int → Int} {a : Nat} {j : Int} (h : ImA hp q a j) (hj : 0 ≤ j) (h21 : q2 21 j = q 21 j) (h18 : q2 18 (1 + j) = q 18 (1 + j)) (h20 : ∀ x, q2 20 x = q 20 x) (h19 : ∀ y, 900 ≤ y → q2 19 y = q 19 y) : ImA hp q2 a j := by
  obtain ⟨ρ, k, Q, h1, h2⟩ := h
  refine ⟨ρ, k, Q, h1, fun hk => ?_⟩
  rw [h21] at hk
  obtain ⟨h3, h4, h5⟩ := h2 hk
  refine ⟨by rw [h18]; exact h3, fun x hx0 hx1 => by rw [h20]; exact h4 x hx0 hx1, fun i x hi0 hi1 hx0 hx1 => ?_⟩
  rw [h19 _ (by omega)]
  exact h5 i x hi0 hi1 hx0 hx1
/-- behind a remembering: the class's Life and images, over the reference's new rows; σ1 the new State -/
theorem kn_Im {hp : pd_P} {q : Nat → Int → Int} {a : Nat} {j : Int} (h : ImA hp q a j) (hj : 0 ≤ j) (hk : q 18 0 ≤ 10) (f : Int → Int) : ImA hp (va_up (fKnow q) 17 f) a j := by
  refine h.upd hj rfl ?_ (fun _ => rfl) (fun y hy => ?_)
  · show uI (q 18) 0 (knf (q 18 0)) (1 + j) = _
    rw [uI_n _ _ (by omega)]
  · show kbf (q 19) (q 17) (q 18 0) y = _
    exact kbf_hi hk hy
theorem kn_Lf {hp : pd_P} {q : Nat → Int → Int} {Q : Int → Int → Int} {f : Int → Int} (hQ : ∀ i x, 0 ≤ i → i < q 18 0 → 0 ≤ x → x < 90 → Q i x = q 19 (90 * i + x)) (hk0 : 0 ≤ q 18 0) (hk : q 18 0 ≤ 10) (h : LiA hp 5 f (knf (q 18 0)) (rmQ Q (q 17) (q 18 0))) : LfA hp (va_up (fKnow q) 17 f) := by
  refine ⟨rmQ Q (q 17) (q 18 0), ?_, fun i x hi0 hi1 hx0 hx1 => ?_⟩
  · show LiA hp 5 f (uI (q 18) 0 (knf (q 18 0)) 0) _
    rw [uI_s]
    exact h
  · have hi2 : i < uI (q 18) 0 (knf (q 18 0)) 0 := hi1
    rw [uI_s] at hi2
    exact kbf_q hk0 hk hQ hi0 hi2 hx0 hx1
theorem xR_goes (G : pd_G) (sz : Nat) (hp : pd_P) {q : Nat → Int → Int} {v : Nat → Int} (hM : MW hp q v) (hI : IN q v) : pd_c G mR_goes 2 [vr 178] sz hp (mPost hp sz (fGoes q v)) := by
  refine pd_con kR_goes [some (vr 178)] rfl rfl (Nat.le_of_ble_eq_true rfl) ?_
  obtain ⟨⟨ig0, ig4⟩, ⟨id0, id1, id2, id3⟩, iB, iM, iU, iF, iS, iP, iI, ⟨is0, is4, isx⟩, ⟨im0, im4, imx⟩, it0, it1⟩ := hI
  have hR := hM.1
  have h_now := hM.w_now
  have h_known := hM.w_known
  have h_before := hM.w_before
  have i20 := iS.2.1
  refine pt_aload eR_goes_0 rfl ?_
  refine pt_get eR_goes_1 hR rfl ?_
  refine pt_ic eR_goes_4 ?_
  refine pt_iald eR_goes_5 h_now (by omega) (by omega) (by decide) ?_
  refine pt_ic eR_goes_6 ?_
  refine pt_cne eR_goes_8 ⟨by have := iS.1; omega, by omega⟩ ⟨by decide, by decide⟩ (fun c8 => ?_) (fun c8 => ?_)
  · refine pt_aload eR_goes_14 rfl ?_
    refine pt_kv0 eR_goes_15 (cR_know G sz _ hR h_known h_before h_now iP.1 iP.2.1) hR rfl (Nat.le_of_ble_eq_true rfl) (by decide) (Nat.le_refl _) (Nat.le_refl _) ?_
    rintro v2 sz2 hpx ⟨rfl, hz9, hx9⟩
    obtain rfl := hz9.symm
    have hM1 : MW hpx (fKnow q) v := by rw [hx9]; exact (hM.s_before _).s_known _
    have hfk : fr hp hpx 178 200 := by rw [hx9]; exact (fr.rf.up rfl (by decide) (by decide)).up rfl (by decide) (by decide)
    have hR := hM1.1
    have h_now : hpx 188 = ia 90 (q 17) := hM1.w_now
    have h_goods : hpx 181 = ia 2 (q 3) := hM1.w_goods
    have h_brought : hpx 186 = ia 160 (q 8) := hM1.w_brought
    have h_missed : hpx 187 = ia 160 (q 9) := hM1.w_missed
    have h_use : hpx 183 = ia 8 (q 5) := hM1.w_use
    have h_door : hpx 180 = ia 4 (q 2) := hM1.w_door
    refine pt_aload eR_goes_18 rfl ?_
    refine pt_aload eR_goes_19 rfl ?_
    refine pt_get eR_goes_20 hR rfl ?_
    refine pt_kv1 eR_goes_23 (cR_passOn G sz _ (Or.inl rfl) hR h_goods h_brought h_missed h_use ig0 ig4 iB iM iU iS.2.2.2.1 iS.1 (by have := iS.2.1; omega) h_now) hR rfl (Nat.le_of_ble_eq_true rfl) (by decide) (Nat.le_refl _) (Nat.le_refl _) ?_
    rintro v2 sz2 hpy ⟨rfl, hz9, hy9⟩
    obtain rfl := hz9.symm
    refine pt_iret eR_goes_26 (Nat.le_refl _) (Nat.le_refl _) ?_
    rw [show fGoes q v = _ by unfold fGoes; rw [if_neg c8]]
    refine ⟨rfl, rfl, by rw [hy9]; exact hM1.s_now _, hfk.tr (fr.up (fr.rf (lo := 178) (hi := 200)) hy9 (by decide) (by decide)) (by decide) (by decide)⟩
  · refine pt_ic eR_goes_11 ?_
    refine pt_iret eR_goes_13 (Nat.le_refl _) (Nat.le_refl _) ?_
    rw [show fGoes q v = (q, v, -2) by unfold fGoes; rw [if_pos c8]]
    exact ⟨rfl, rfl, hM, fr.rf⟩
theorem xD_goes (G : pd_G) (sz : Nat) (hp : pd_P) {to dr : Nat} {q : Nat → Int → Int} {v : Nat → Int} (hC : CW hp to dr q v) (hI : IN q v) : pd_c G mD_goes 3 [vr 1] sz hp (cPost hp sz (fGoes q v)) := by
  refine pd_con kD_goes [some (vr 1)] rfl rfl (Nat.le_of_ble_eq_true rfl) ?_
  obtain ⟨⟨ig0, ig4⟩, ⟨id0, id1, id2, id3⟩, iB, iM, iU, iF, iS, iP, iI, ⟨is0, is4, isx⟩, ⟨im0, im4, imx⟩, it0, it1⟩ := hI
  have hC0 := hC
  obtain ⟨hto, hDo, hTx, hHs, hHd, hLf, hI0, hI1, hGo, hPl⟩ := hC
  have hDo2 := hDo
  obtain ⟨hD, ⟨imf, hIm, him0, him1⟩, hKp, hSg, hSt, hGd, hGt⟩ := hDo2
  have hHs2 := hHs
  obtain ⟨fi, us, we, wo, stt, hHo, hag, hstt⟩ := hHs2
  have hHo2 := hHo
  obtain ⟨hH, hH1, hH2, hH3, hH4, hH5, hH6, hH7⟩ := hHo2
  have hLf2 := hLf
  obtain ⟨Q, hLi, hQ⟩ := hLf2
  have hL := hLi.1
  obtain ⟨hN, hNt, hNl, hNk⟩ := hLi.2.1
  have hUc : okU (q 3 0) us := fun k h0 h1 => by rw [(hag k h0 h1).2.1]; exact iU k h0 h1
  have i0 := iS.1
  have i20 := iS.2.1
  refine pt_aload eD_goes_0 rfl ?_
  refine pt_get eD_goes_1 hD rfl ?_
  refine pt_get eD_goes_4 hL rfl ?_
  refine pt_get eD_goes_7 hN rfl ?_
  refine pt_ic eD_goes_10 ?_
  refine pt_clt eD_goes_12 ⟨by omega, by omega⟩ ⟨by omega, by omega⟩ (fun c12 => ?_) (fun c12 => ?_)
  · refine pt_aload eD_goes_18 rfl ?_
    refine pt_get eD_goes_19 hD rfl ?_
    refine pt_kv0 eD_goes_22 (cL_rem G sz _ hLi iP.1 iP.2.1 iS.2.2.1) hL rfl (Nat.le_of_ble_eq_true rfl) (by decide) (Nat.le_refl _) (Nat.le_refl _) ?_
    rintro v2 sz2 hpx ⟨rfl, hz9, hA2, hf2⟩
    obtain rfl := hz9.symm
    have hD := hf2.at (by decide) hD
    have hL := hA2.1
    obtain ⟨hN, hNt, hNl, hNk⟩ := hA2.2.1
    obtain ⟨hH, hH1, hH2, hH3, hH4, hH5, hH6, hH7⟩ := hHo.keep hf2 (by omega)
    refine pt_aload eD_goes_25 rfl ?_
    refine pt_get eD_goes_26 hD rfl ?_
    refine pt_get eD_goes_29 hL rfl ?_
    refine pt_aload eD_goes_32 rfl ?_
    refine pt_get eD_goes_33 hD rfl ?_
    refine pt_kv1 eD_goes_36 (cS_pass G sz _ (by omega) hA2.2.1 hH hH5 hH6 hH2 ig0 ig4 iB iM hUc iS.2.2.2.1 iS.1 (by omega)) hN rfl (Nat.le_of_ble_eq_true rfl) (by decide) (Nat.le_refl _) (Nat.le_refl _) ?_
    rintro v2 sz2 hpy ⟨rfl, hz9, hs3, hf3⟩
    obtain rfl := hz9.symm
    refine pt_iret eD_goes_39 (Nat.le_refl _) (Nat.le_refl _) ?_
    rw [show fGoes q v = _ by unfold fGoes; rw [if_neg (show ¬ q 17 0 = 20 by omega)]]
    have hc1 : hnf us (q 8) (q 9) (q 17) (q 3 0).toNat = hnf (q 5) (q 8) (q 9) (q 17) (q 3 0).toNat := hnf_cong _ (fun g h0 h1 => (hag g h0 (by omega)).2.1)
    have hc2 : passf us (q 8) (q 9) (q 17) (q 3 0) = passf (q 5) (q 8) (q 9) (q 17) (q 3 0) := passf_cong (fun g h0 h1 => (hag g h0 h1).2.1)
    rw [hc2] at hs3
    rw [hc1]
    have hfr : fr hp hpy 5 51 := hf2.tr hf3 (by decide) (by decide)
    refine ⟨rfl, rfl, ⟨to, dr, hto, hDo.keep hfr (by omega), hTx.keep hfr (by omega), hHs.keep hfr (by omega), hHd.keep hfr (by omega), kn_Lf hQ iP.1 iP.2.1 (hA2.now hf3 hs3), kn_Im (hI0.keep hfr (by omega)) (by decide) iP.2.1 _, kn_Im (hI1.keep hfr (by omega)) (by decide) iP.2.1 _, hGo.keep hfr (by omega), hPl.keep hfr (by omega)⟩, fun k hk => hfr k (by omega)⟩
  · refine pt_ic eD_goes_15 ?_
    refine pt_iret eD_goes_17 (Nat.le_refl _) (Nat.le_refl _) ?_
    rw [show fGoes q v = (q, v, -2) by unfold fGoes; rw [if_pos (by omega)]]
    exact ⟨rfl, rfl, ⟨to, dr, hC0⟩, fr.rf⟩
