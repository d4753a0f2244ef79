theorem pt_gen {G : pd_G} {M : pd_M} {d mc ms : Nat} {X : Option (Nat × (Nat → Int))} {R : pd_R} {pc : Nat} {lv : List (Option pv)} {st : List pv} {sz ce sl : Nat} {hp0 : pd_P} (k : ∀ hp : pd_P, hp = hp0 → pd_T G M d mc ms X R pc lv st sz ce sl hp) : pd_T G M d mc ms X R pc lv st sz ce sl hp0 := k hp0 rfl
theorem pg_s {hp1 hp : pd_P} {a : Nat} {e : pd_E} (h : hp1 = va_up hp a e) : hp1 a = e := by rw [h]; exact va_up_self _ _ _
theorem pg_n {hp1 hp : pd_P} {a b : Nat} {e e1 : pd_E} (h : hp1 = va_up hp a e) (hne : a ≠ b) (hb : hp b = e1) : hp1 b = e1 := by rw [h, va_up_ne _ _ (Ne.symm hne)]; exact hb
abbrev pd_c (G : pd_G) (M : pd_M) (d : Nat) (av : List pv) (sz : Nat) (hp : pd_P) (R : pd_R) : Prop := pd_C G M d 0 0 av sz hp R
abbrev pd_t (G : pd_G) (M : pd_M) (d : Nat) (R : pd_R) (pc : Nat) (lv : List (Option pv)) (st : List pv) (sz : Nat) (hp : pd_P) : Prop := pd_T G M d 0 0 none R pc lv st sz 0 0 hp
def pwi (n lo hi : Int) : Int := if lo ≤ n ∧ n ≤ hi then 1 else 0
theorem pwi_01 (n lo hi : Int) : pwi n lo hi = 0 ∨ pwi n lo hi = 1 := by unfold pwi; split <;> simp
/-- cells: a House, a State, the reference -/
abbrev HO (h : Nat) (gd ev bk : Int) : pd_E := ob 4 [vr (h + 1), vr (h + 2), vr (h + 3), vr (h + 4), vr (h + 5), vr (h + 6), vr (h + 7), vi gd, vi ev, vi bk]
abbrev SO (a : Nat) (dy he : Int) : pd_E := ob 8 [vr (a + 1), vr (a + 2), vr (a + 3), vi dy, vi he]
abbrev RO (v : Nat → Int) : pd_E := ob 12 [vr 179, vi (v 1), vr 180, vr 181, vr 182, vr 183, vr 184, vr 185, vr 186, vr 187, vi (v 10), vi (v 11), vi (v 12), vi (v 13), vi (v 14), vi (v 15), vi (v 16), vr 188, vr 189, vr 190, vr 191, vr 192, vr 193, vr 194, vr 195, vr 196, vi (v 26), vr 197, vr 198, vi (v 29), vr 199, vl (v 31)]
/-- on which day the door gives; -9 -/
def lawf (d ev bk : Int) : Int := if d < 20 ∧ d % ev = 0 ∧ bk ≤ d then d - bk else -9
def opf (ev bk : Int) (σ : Int → Int) : Int := if σ 1 = 1 then -9 else lawf (σ 0) ev bk
/-- what is left of a good, before it is cut at 0: brought, missed, used -/
def rsf (t b m u : Int) : Int := max 0 (min (t + b) 999 - m) - u
def opnf (ev bk : Int) (ms σ : Int → Int) (d g : Int) : Int := if σ 1 = 1 then 0 else if lawf d ev bk = -9 then 0 else ms (4 * lawf d ev bk + g) - σ (10 + 4 * lawf d ev bk + g)
def canf (ev bk : Int) (ms σ : Int → Int) (g : Int) : Int := opnf ev bk ms σ (σ 0) g
theorem canf_eq (ev bk : Int) (ms σ : Int → Int) (g : Int) : canf ev bk ms σ g = if opf ev bk σ = -9 then 0 else ms (4 * opf ev bk σ + g) - σ (10 + 4 * opf ev bk σ + g) := by
  unfold canf opnf opf
  split
  · rw [if_pos rfl]
  · rfl
section PDINC
variable {G : pd_G} {M : pd_M} {d mc ms : Nat} {X : Option (Nat × (Nat → Int))} {R : pd_R} {pc n t : Nat} {lv : List (Option pv)} {st : List pv} {sz ce sl : Nat} {hp : pd_P}
theorem pt_inc0 {r : List (Option pv)} {z c0 : Int} (h : pd_ii M pc 0 c0 n) (ho : pd_o1 (some (vi z) :: r) 0 = true) (k : pd_T G M d mc ms X R n (some (vi (z + c0)) :: r) st sz ce sl hp) : pd_T G M d mc ms X R pc (some (vi z) :: r) st sz ce sl hp := pt_iinc h ho rfl k
theorem pt_inc1 {a0 : Option pv} {r : List (Option pv)} {z c0 : Int} (h : pd_ii M pc 1 c0 n) (ho : pd_o1 (a0 :: some (vi z) :: r) 1 = true) (k : pd_T G M d mc ms X R n (a0 :: some (vi (z + c0)) :: r) st sz ce sl hp) : pd_T G M d mc ms X R pc (a0 :: some (vi z) :: r) st sz ce sl hp := pt_iinc h ho rfl k
theorem pt_inc2 {a0 a1 : Option pv} {r : List (Option pv)} {z c0 : Int} (h : pd_ii M pc 2 c0 n) (ho : pd_o1 (a0 :: a1 :: some (vi z) :: r) 2 = true) (k : pd_T G M d mc ms X R n (a0 :: a1 :: some (vi (z + c0)) :: r) st sz ce sl hp) : pd_T G M d mc ms X R pc (a0 :: a1 :: some (vi z) :: r) st sz ce sl hp := pt_iinc h ho rfl k
theorem pt_inc3 {a0 a1 a2 : Option pv} {r : List (Option pv)} {z c0 : Int} (h : pd_ii M pc 3 c0 n) (ho : pd_o1 (a0 :: a1 :: a2 :: some (vi z) :: r) 3 = true) (k : pd_T G M d mc ms X R n (a0 :: a1 :: a2 :: some (vi (z + c0)) :: r) st sz ce sl hp) : pd_T G M d mc ms X R pc (a0 :: a1 :: a2 :: some (vi z) :: r) st sz ce sl hp := pt_iinc h ho rfl k
theorem pt_inc4 {a0 a1 a2 a3 : Option pv} {r : List (Option pv)} {z c0 : Int} (h : pd_ii M pc 4 c0 n) (ho : pd_o1 (a0 :: a1 :: a2 :: a3 :: some (vi z) :: r) 4 = true) (k : pd_T G M d mc ms X R n (a0 :: a1 :: a2 :: a3 :: some (vi (z + c0)) :: r) st sz ce sl hp) : pd_T G M d mc ms X R pc (a0 :: a1 :: a2 :: a3 :: some (vi z) :: r) st sz ce sl hp := pt_iinc h ho rfl k
theorem pt_inc5 {a0 a1 a2 a3 a4 : Option pv} {r : List (Option pv)} {z c0 : Int} (h : pd_ii M pc 5 c0 n) (ho : pd_o1 (a0 :: a1 :: a2 :: a3 :: a4 :: some (vi z) :: r) 5 = true) (k : pd_T G M d mc ms X R n (a0 :: a1 :: a2 :: a3 :: a4 :: some (vi (z + c0)) :: r) st sz ce sl hp) : pd_T G M d mc ms X R pc (a0 :: a1 :: a2 :: a3 :: a4 :: some (vi z) :: r) st sz ce sl hp := pt_iinc h ho rfl k
theorem pt_inc6 {a0 a1 a2 a3 a4 a5 : Option pv} {r : List (Option pv)} {z c0 : Int} (h : pd_ii M pc 6 c0 n) (ho : pd_o1 (a0 :: a1 :: a2 :: a3 :: a4 :: a5 :: some (vi z) :: r) 6 = true) (k : pd_T G M d mc ms X R n (a0 :: a1 :: a2 :: a3 :: a4 :: a5 :: some (vi (z + c0)) :: r) st sz ce sl hp) : pd_T G M d mc ms X R pc (a0 :: a1 :: a2 :: a3 :: a4 :: a5 :: some (vi z) :: r) st sz ce sl hp := pt_iinc h ho rfl k
theorem pt_inc7 {a0 a1 a2 a3 a4 a5 a6 : Option pv} {r : List (Option pv)} {z c0 : Int} (h : pd_ii M pc 7 c0 n) (ho : pd_o1 (a0 :: a1 :: a2 :: a3 :: a4 :: a5 :: a6 :: some (vi z) :: r) 7 = true) (k : pd_T G M d mc ms X R n (a0 :: a1 :: a2 :: a3 :: a4 :: a5 :: a6 :: some (vi (z + c0)) :: r) st sz ce sl hp) : pd_T G M d mc ms X R pc (a0 :: a1 :: a2 :: a3 :: a4 :: a5 :: a6 :: some (vi z) :: r) st sz ce sl hp := pt_iinc h ho rfl k
theorem pt_inc8 {a0 a1 a2 a3 a4 a5 a6 a7 : Option pv} {r : List (Option pv)} {z c0 : Int} (h : pd_ii M pc 8 c0 n) (ho : pd_o1 (a0 :: a1 :: a2 :: a3 :: a4 :: a5 :: a6 :: a7 :: some (vi z) :: r) 8 = true) (k : pd_T G M d mc ms X R n (a0 :: a1 :: a2 :: a3 :: a4 :: a5 :: a6 :: a7 :: some (vi (z + c0)) :: r) st sz ce sl hp) : pd_T G M d mc ms X R pc (a0 :: a1 :: a2 :: a3 :: a4 :: a5 :: a6 :: a7 :: some (vi z) :: r) st sz ce sl hp := pt_iinc h ho rfl k
theorem pt_inc9 {a0 a1 a2 a3 a4 a5 a6 a7 a8 : Option pv} {r : List (Option pv)} {z c0 : Int} (h : pd_ii M pc 9 c0 n) (ho : pd_o1 (a0 :: a1 :: a2 :: a3 :: a4 :: a5 :: a6 :: a7 :: a8 :: some (vi z) :: r) 9 = true) (k : pd_T G M d mc ms X R n (a0 :: a1 :: a2 :: a3 :: a4 :: a5 :: a6 :: a7 :: a8 :: some (vi (z + c0)) :: r) st sz ce sl hp) : pd_T G M d mc ms X R pc (a0 :: a1 :: a2 :: a3 :: a4 :: a5 :: a6 :: a7 :: a8 :: some (vi z) :: r) st sz ce sl hp := pt_iinc h ho rfl k
theorem pt_inc10 {a0 a1 a2 a3 a4 a5 a6 a7 a8 a9 : Option pv} {r : List (Option pv)} {z c0 : Int} (h : pd_ii M pc 10 c0 n) (ho : pd_o1 (a0 :: a1 :: a2 :: a3 :: a4 :: a5 :: a6 :: a7 :: a8 :: a9 :: some (vi z) :: r) 10 = true) (k : pd_T G M d mc ms X R n (a0 :: a1 :: a2 :: a3 :: a4 :: a5 :: a6 :: a7 :: a8 :: a9 :: some (vi (z + c0)) :: r) st sz ce sl hp) : pd_T G M d mc ms X R pc (a0 :: a1 :: a2 :: a3 :: a4 :: a5 :: a6 :: a7 :: a8 :: a9 :: some (vi z) :: r) st sz ce sl hp := pt_iinc h ho rfl k
theorem pt_inc11 {a0 a1 a2 a3 a4 a5 a6 a7 a8 a9 a10 : Option pv} {r : List (Option pv)} {z c0 : Int} (h : pd_ii M pc 11 c0 n) (ho : pd_o1 (a0 :: a1 :: a2 :: a3 :: a4 :: a5 :: a6 :: a7 :: a8 :: a9 :: a10 :: some (vi z) :: r) 11 = true) (k : pd_T G M d mc ms X R n (a0 :: a1 :: a2 :: a3 :: a4 :: a5 :: a6 :: a7 :: a8 :: a9 :: a10 :: some (vi (z + c0)) :: r) st sz ce sl hp) : pd_T G M d mc ms X R pc (a0 :: a1 :: a2 :: a3 :: a4 :: a5 :: a6 :: a7 :: a8 :: a9 :: a10 :: some (vi z) :: r) st sz ce sl hp := pt_iinc h ho rfl k
theorem pt_inc12 {a0 a1 a2 a3 a4 a5 a6 a7 a8 a9 a10 a11 : Option pv} {r : List (Option pv)} {z c0 : Int} (h : pd_ii M pc 12 c0 n) (ho : pd_o1 (a0 :: a1 :: a2 :: a3 :: a4 :: a5 :: a6 :: a7 :: a8 :: a9 :: a10 :: a11 :: some (vi z) :: r) 12 = true) (k : pd_T G M d mc ms X R n (a0 :: a1 :: a2 :: a3 :: a4 :: a5 :: a6 :: a7 :: a8 :: a9 :: a10 :: a11 :: some (vi (z + c0)) :: r) st sz ce sl hp) : pd_T G M d mc ms X R pc (a0 :: a1 :: a2 :: a3 :: a4 :: a5 :: a6 :: a7 :: a8 :: a9 :: a10 :: a11 :: some (vi z) :: r) st sz ce sl hp := pt_iinc h ho rfl k
theorem pt_inc13 {a0 a1 a2 a3 a4 a5 a6 a7 a8 a9 a10 a11 a12 : Option pv} {r : List (Option pv)} {z c0 : Int} (h : pd_ii M pc 13 c0 n) (ho : pd_o1 (a0 :: a1 :: a2 :: a3 :: a4 :: a5 :: a6 :: a7 :: a8 :: a9 :: a10 :: a11 :: a12 :: some (vi z) :: r) 13 = true) (k : pd_T G M d mc ms X R n (a0 :: a1 :: a2 :: a3 :: a4 :: a5 :: a6 :: a7 :: a8 :: a9 :: a10 :: a11 :: a12 :: some (vi (z + c0)) :: r) st sz ce sl hp) : pd_T G M d mc ms X R pc (a0 :: a1 :: a2 :: a3 :: a4 :: a5 :: a6 :: a7 :: a8 :: a9 :: a10 :: a11 :: a12 :: some (vi z) :: r) st sz ce sl hp := pt_iinc h ho rfl k
end PDINC
theorem cD_within (G : pd_G) (sz : Nat) (hp : pd_P) {n lo hi : Int} (h1 : jR n) (h2 : jR lo) (h3 : jR hi) : pd_c G mD_within 0 [vi n, vi lo, vi hi] sz hp (pd_pure (vi (pwi n lo hi)) sz hp) := by
  refine pd_con kD_within [some (vi n), some (vi lo), some (vi hi)] rfl rfl (Nat.le_of_ble_eq_true rfl) ?_
  unfold jR at *
  refine pt_iload eD_within_0 rfl ?_
  refine pt_iload eD_within_1 rfl ?_
  refine pt_clt eD_within_2 ⟨by omega, by omega⟩ ⟨by omega, by omega⟩ (fun c2 => ?_) (fun c2 => ?_)
  · refine pt_ic eD_within_14 ?_
    refine pt_iret (eD_within_15 (by omega)) (Nat.le_refl _) (Nat.le_refl _) ?_
    exact ⟨by unfold pwi; congr 2; first | (exfalso; omega) | (rw [if_pos (by omega)]; done) | (rw [if_neg (by omega)]; done), rfl, rfl⟩
  · refine pt_iload eD_within_5 rfl ?_
    refine pt_iload eD_within_6 rfl ?_
    refine pt_cgt eD_within_7 ⟨by omega, by omega⟩ ⟨by omega, by omega⟩ (fun c7 => ?_) (fun c7 => ?_)
    · refine pt_ic eD_within_14 ?_
      refine pt_iret (eD_within_15 (by omega)) (Nat.le_refl _) (Nat.le_refl _) ?_
      exact ⟨by unfold pwi; congr 2; first | (exfalso; omega) | (rw [if_pos (by omega)]; done) | (rw [if_neg (by omega)]; done), rfl, rfl⟩
    · refine pt_ic eD_within_10 ?_
      refine pt_goto eD_within_11 ?_
      refine pt_iret (eD_within_15 (by omega)) (Nat.le_refl _) (Nat.le_refl _) ?_
      exact ⟨by unfold pwi; congr 2; first | (exfalso; omega) | (rw [if_pos (by omega)]; done) | (rw [if_neg (by omega)]; done), rfl, rfl⟩
theorem cR_in (G : pd_G) (sz : Nat) (hp : pd_P) {n lo hi : Int} (h1 : jR n) (h2 : jR lo) (h3 : jR hi) : pd_c G mR_in 0 [vi n, vi lo, vi hi] sz hp (pd_pure (vi (pwi n lo hi)) sz hp) := by
  refine pd_con kR_in [some (vi n), some (vi lo), some (vi hi)] rfl rfl (Nat.le_of_ble_eq_true rfl) ?_
  unfold jR at *
  refine pt_iload eR_in_0 rfl ?_
  refine pt_iload eR_in_1 rfl ?_
  refine pt_clt eR_in_2 ⟨by omega, by omega⟩ ⟨by omega, by omega⟩ (fun c2 => ?_) (fun c2 => ?_)
  · refine pt_ic eR_in_14 ?_
    refine pt_iret (eR_in_15 (by omega)) (Nat.le_refl _) (Nat.le_refl _) ?_
    exact ⟨by unfold pwi; congr 2; first | (exfalso; omega) | (rw [if_pos (by omega)]; done) | (rw [if_neg (by omega)]; done), rfl, rfl⟩
  · refine pt_iload eR_in_5 rfl ?_
    refine pt_iload eR_in_6 rfl ?_
    refine pt_cgt eR_in_7 ⟨by omega, by omega⟩ ⟨by omega, by omega⟩ (fun c7 => ?_) (fun c7 => ?_)
    · refine pt_ic eR_in_14 ?_
      refine pt_iret (eR_in_15 (by omega)) (Nat.le_refl _) (Nat.le_refl _) ?_
      exact ⟨by unfold pwi; congr 2; first | (exfalso; omega) | (rw [if_pos (by omega)]; done) | (rw [if_neg (by omega)]; done), rfl, rfl⟩
    · refine pt_ic eR_in_10 ?_
      refine pt_goto eR_in_11 ?_
      refine pt_iret (eR_in_15 (by omega)) (Nat.le_refl _) (Nat.le_refl _) ?_
      exact ⟨by unfold pwi; congr 2; first | (exfalso; omega) | (rw [if_pos (by omega)]; done) | (rw [if_neg (by omega)]; done), rfl, rfl⟩
theorem cH_has (G : pd_G) (sz : Nat) (hp : pd_P) {h : Nat} {gd ev bk g : Int} (hH : hp h = HO h gd ev bk) (h1 : jR g) (h2 : 0 ≤ gd) (h3 : gd ≤ 4) : pd_c G mH_has 1 [vr h, vi g] sz hp (pd_pure (vi (pwi g 0 (gd - 1))) sz hp) := by
  refine pd_con kH_has [some (vr h), some (vi g)] rfl rfl (Nat.le_of_ble_eq_true rfl) ?_
  refine pt_iload eH_has_0 rfl ?_
  refine pt_ic eH_has_1 ?_
  refine pt_aload eH_has_2 rfl ?_
  refine pt_get eH_has_3 hH rfl ?_
  refine pt_ic eH_has_6 ?_
  refine pt_isub eH_has_7 ?_
  refine pt_ks3r eH_has_8 (cD_within G sz _ (by unfold jR at *; omega) (by unfold jR at *; omega) (by unfold jR at *; omega)) (Nat.le_of_ble_eq_true rfl) (by decide) (Nat.le_refl _) (Nat.le_refl _) ?_
  refine pt_iret (eH_has_11 (pwi_01 _ _ _)) (Nat.le_refl _) (Nat.le_refl _) ?_
  exact ⟨rfl, rfl, rfl⟩
theorem cR_isGood (G : pd_G) (sz : Nat) (hp : pd_P) {v : Nat → Int} {gf : Int → Int} {g : Int} (hR : hp 178 = RO v) (hg : hp 181 = ia 2 gf) (h1 : jR g) (h2 : 0 ≤ gf 0) (h3 : gf 0 ≤ 4) : pd_c G mR_isGood 1 [vr 178, vi g] sz hp (pd_pure (vi (pwi g 0 (gf 0 - 1))) sz hp) := by
  refine pd_con kR_isGood [some (vr 178), some (vi g)] rfl rfl (Nat.le_of_ble_eq_true rfl) ?_
  have hR := hR
  refine pt_iload eR_isGood_0 rfl ?_
  refine pt_ic eR_isGood_1 ?_
  refine pt_aload eR_isGood_2 rfl ?_
  refine pt_get eR_isGood_3 hR rfl ?_
  refine pt_ic eR_isGood_6 ?_
  refine pt_iald eR_isGood_7 hg (by omega) (by omega) (by decide) ?_
  refine pt_ic eR_isGood_8 ?_
  refine pt_isub eR_isGood_9 ?_
  refine pt_ks3r eR_isGood_10 (cR_in G sz _ (by unfold jR at *; omega) (by unfold jR at *; omega) (by unfold jR at *; omega)) (Nat.le_of_ble_eq_true rfl) (by decide) (Nat.le_refl _) (Nat.le_refl _) ?_
  refine pt_iret (eR_isGood_13 (pwi_01 _ _ _)) (Nat.le_refl _) (Nat.le_refl _) ?_
  exact ⟨rfl, rfl, rfl⟩
theorem cR_isDay (G : pd_G) (sz : Nat) (hp : pd_P) {d : Int} (h1 : jR d) : pd_c G mR_isDay 1 [vi d] sz hp (pd_pure (vi (pwi d 0 19)) sz hp) := by
  refine pd_con kR_isDay [some (vi d)] rfl rfl (Nat.le_of_ble_eq_true rfl) ?_
  refine pt_iload eR_isDay_0 rfl ?_
  refine pt_ic eR_isDay_1 ?_
  refine pt_ic eR_isDay_2 ?_
  refine pt_ks3r eR_isDay_4 (cR_in G sz _ (by unfold jR at *; omega) (by unfold jR at *; omega) (by unfold jR at *; omega)) (Nat.le_of_ble_eq_true rfl) (by decide) (Nat.le_refl _) (Nat.le_refl _) ?_
  refine pt_iret (eR_isDay_7 (pwi_01 _ _ _)) (Nat.le_refl _) (Nat.le_refl _) ?_
  exact ⟨rfl, rfl, rfl⟩
theorem pwi_1 {n lo hi : Int} (h : ¬ pwi n lo hi = 0) : lo ≤ n ∧ n ≤ hi := by
  unfold pwi at h
  split at h
  · assumption
  · exact absurd rfl h
theorem pwi_0 {n lo hi : Int} (h : pwi n lo hi = 0) : ¬ (lo ≤ n ∧ n ≤ hi) := by
  unfold pwi at h
  split at h
  · cases h
  · assumption
theorem pwi_j (n lo hi : Int) : jR (pwi n lo hi) := by
  rcases pwi_01 n lo hi with h | h <;> rw [h] <;> exact ⟨by decide, by decide⟩
theorem cD_leadsBy (G : pd_G) (sz : Nat) (hp : pd_P) {ev bk d : Int} (h1 : 1 ≤ ev) (h2 : ev ≤ 9) (h3 : 1 ≤ bk) (h4 : bk ≤ 9) (h5 : 0 ≤ d) (h6 : d ≤ 20) : pd_c G mD_leadsBy 1 [vi ev, vi bk, vi d] sz hp (pd_pure (vi (lawf d ev bk)) sz hp) := by
  refine pd_con kD_leadsBy [some (vi ev), some (vi bk), some (vi d)] rfl rfl (Nat.le_of_ble_eq_true rfl) ?_
  have hm := Int.emod_nonneg d (by omega : ev ≠ 0)
  have hm2 := Int.emod_lt_of_pos d (by omega : 0 < ev)
  refine pt_iload eD_leadsBy_0 rfl ?_
  refine pt_ic eD_leadsBy_1 ?_
  refine pt_clt eD_leadsBy_2 ⟨by omega, by omega⟩ ⟨by omega, by omega⟩ (fun c2 => ?_) (fun c2 => ?_)
  · try have c12 := pwi_0 c12
    try have c12 := pwi_1 c12
    refine pt_ic eD_leadsBy_21 ?_
    refine pt_iret eD_leadsBy_23 (Nat.le_refl _) (Nat.le_refl _) ?_
    exact ⟨by unfold lawf; congr 2; first | (exfalso; omega) | (rw [if_pos (by omega)]; done) | (rw [if_neg (by omega)]; done), rfl, rfl⟩
  · refine pt_iload eD_leadsBy_5 rfl ?_
    refine pt_iload eD_leadsBy_6 rfl ?_
    refine pt_ic eD_leadsBy_7 ?_
    refine pt_ks3r eD_leadsBy_9 (cD_within G sz _ (by unfold jR at *; omega) (by unfold jR at *; omega) (by unfold jR at *; omega)) (Nat.le_of_ble_eq_true rfl) (by decide) (Nat.le_refl _) (Nat.le_refl _) ?_
    refine pt_zeq eD_leadsBy_12 (pwi_j _ _ _) (fun c12 => ?_) (fun c12 => ?_)
    · try have c12 := pwi_0 c12
      try have c12 := pwi_1 c12
      refine pt_ic eD_leadsBy_21 ?_
      refine pt_iret eD_leadsBy_23 (Nat.le_refl _) (Nat.le_refl _) ?_
      exact ⟨by unfold lawf; congr 2; first | (exfalso; omega) | (rw [if_pos (by omega)]; done) | (rw [if_neg (by omega)]; done), rfl, rfl⟩
    · have c12 := pwi_1 c12
      refine pt_iload eD_leadsBy_15 rfl ?_
      refine pt_iload eD_leadsBy_16 rfl ?_
      refine pt_irem eD_leadsBy_17 (by omega) (by omega) (by omega) (by omega) ?_
      refine pt_zeq eD_leadsBy_18 ⟨by omega, by omega⟩ (fun c18 => ?_) (fun c18 => ?_)
      · refine pt_iload eD_leadsBy_24 rfl ?_
        refine pt_iload eD_leadsBy_25 rfl ?_
        refine pt_isub eD_leadsBy_26 ?_
        refine pt_iret eD_leadsBy_27 (Nat.le_refl _) (Nat.le_refl _) ?_
        exact ⟨by unfold lawf; congr 2; first | (exfalso; omega) | (rw [if_pos (by omega)]; done) | (rw [if_neg (by omega)]; done), rfl, rfl⟩
      · try have c12 := pwi_0 c12
        try have c12 := pwi_1 c12
        refine pt_ic eD_leadsBy_21 ?_
        refine pt_iret eD_leadsBy_23 (Nat.le_refl _) (Nat.le_refl _) ?_
        exact ⟨by unfold lawf; congr 2; first | (exfalso; omega) | (rw [if_pos (by omega)]; done) | (rw [if_neg (by omega)]; done), rfl, rfl⟩
theorem cR_lawOn (G : pd_G) (sz : Nat) (hp : pd_P) {ev bk d : Int} (h1 : 1 ≤ ev) (h2 : ev ≤ 9) (h3 : 1 ≤ bk) (h4 : bk ≤ 9) (h5 : 0 ≤ d) (h6 : d ≤ 20) : pd_c G mR_lawOn 0 [vi d, vi ev, vi bk] sz hp (pd_pure (vi (lawf d ev bk)) sz hp) := by
  refine pd_con kR_lawOn [some (vi d), some (vi ev), some (vi bk)] rfl rfl (Nat.le_of_ble_eq_true rfl) ?_
  have hm := Int.emod_nonneg d (by omega : ev ≠ 0)
  have hm2 := Int.emod_lt_of_pos d (by omega : 0 < ev)
  refine pt_iload eR_lawOn_0 rfl ?_
  refine pt_ic eR_lawOn_1 ?_
  refine pt_cge eR_lawOn_3 ⟨by omega, by omega⟩ ⟨by omega, by omega⟩ (fun c3 => ?_) (fun c3 => ?_)
  · refine pt_ic eR_lawOn_23 ?_
    refine pt_iret eR_lawOn_25 (Nat.le_refl _) (Nat.le_refl _) ?_
    exact ⟨by unfold lawf; congr 2; first | (exfalso; omega) | (rw [if_pos (by omega)]; done) | (rw [if_neg (by omega)]; done), rfl, rfl⟩
  · refine pt_iload eR_lawOn_6 rfl ?_
    refine pt_iload eR_lawOn_7 rfl ?_
    refine pt_irem eR_lawOn_8 (by omega) (by omega) (by omega) (by omega) ?_
    refine pt_zne eR_lawOn_9 ⟨by omega, by omega⟩ (fun c9 => ?_) (fun c9 => ?_)
    · refine pt_ic eR_lawOn_23 ?_
      refine pt_iret eR_lawOn_25 (Nat.le_refl _) (Nat.le_refl _) ?_
      exact ⟨by unfold lawf; congr 2; first | (exfalso; omega) | (rw [if_pos (by omega)]; done) | (rw [if_neg (by omega)]; done), rfl, rfl⟩
    · refine pt_iload eR_lawOn_12 rfl ?_
      refine pt_iload eR_lawOn_13 rfl ?_
      refine pt_clt eR_lawOn_14 ⟨by omega, by omega⟩ ⟨by omega, by omega⟩ (fun c14 => ?_) (fun c14 => ?_)
      · refine pt_ic eR_lawOn_23 ?_
        refine pt_iret eR_lawOn_25 (Nat.le_refl _) (Nat.le_refl _) ?_
        exact ⟨by unfold lawf; congr 2; first | (exfalso; omega) | (rw [if_pos (by omega)]; done) | (rw [if_neg (by omega)]; done), rfl, rfl⟩
      · refine pt_iload eR_lawOn_17 rfl ?_
        refine pt_iload eR_lawOn_18 rfl ?_
        refine pt_isub eR_lawOn_19 ?_
        refine pt_goto eR_lawOn_20 ?_
        refine pt_iret eR_lawOn_25 (Nat.le_refl _) (Nat.le_refl _) ?_
        exact ⟨by unfold lawf; congr 2; first | (exfalso; omega) | (rw [if_pos (by omega)]; done) | (rw [if_neg (by omega)]; done), rfl, rfl⟩
theorem cH_leads (G : pd_G) (sz : Nat) (hp : pd_P) {h : Nat} {gd ev bk d : Int} (hH : hp h = HO h gd ev bk) (h1 : 1 ≤ ev) (h2 : ev ≤ 9) (h3 : 1 ≤ bk) (h4 : bk ≤ 9) (h5 : 0 ≤ d) (h6 : d ≤ 20) : pd_c G mH_leads 2 [vr h, vi d] sz hp (pd_pure (vi (lawf d ev bk)) sz hp) := by
  refine pd_con kH_leads [some (vr h), some (vi d)] rfl rfl (Nat.le_of_ble_eq_true rfl) ?_
  refine pt_aload eH_leads_0 rfl ?_
  refine pt_get eH_leads_1 hH rfl ?_
  refine pt_aload eH_leads_4 rfl ?_
  refine pt_get eH_leads_5 hH rfl ?_
  refine pt_iload eH_leads_8 rfl ?_
  refine pt_ks3r eH_leads_9 (cD_leadsBy G sz _ h1 h2 h3 h4 h5 h6) (Nat.le_of_ble_eq_true rfl) (by decide) (Nat.le_refl _) (Nat.le_refl _) ?_
  refine pt_iret eH_leads_12 (Nat.le_refl _) (Nat.le_refl _) ?_
  exact ⟨rfl, rfl, rfl⟩
theorem cR_givesOn (G : pd_G) (sz : Nat) (hp : pd_P) {v : Nat → Int} {df : Int → Int} {d : Int} (hR : hp 178 = RO v) (hd : hp 180 = ia 4 df) (h1 : 1 ≤ df 0) (h2 : df 0 ≤ 9) (h3 : 1 ≤ df 1) (h4 : df 1 ≤ 9) (h5 : 0 ≤ d) (h6 : d ≤ 20) : pd_c G mR_givesOn 1 [vr 178, vi d] sz hp (pd_pure (vi (lawf d (df 0) (df 1))) sz hp) := by
  refine pd_con kR_givesOn [some (vr 178), some (vi d)] rfl rfl (Nat.le_of_ble_eq_true rfl) ?_
  refine pt_iload eR_givesOn_0 rfl ?_
  refine pt_aload eR_givesOn_1 rfl ?_
  refine pt_get eR_givesOn_2 hR rfl ?_
  refine pt_ic eR_givesOn_5 ?_
  refine pt_iald eR_givesOn_6 hd (by omega) (by omega) (by decide) ?_
  refine pt_aload eR_givesOn_7 rfl ?_
  refine pt_get eR_givesOn_8 hR rfl ?_
  refine pt_ic eR_givesOn_11 ?_
  refine pt_iald eR_givesOn_12 hd (by omega) (by omega) (by decide) ?_
  refine pt_ks3r eR_givesOn_13 (cR_lawOn G sz _ h1 h2 h3 h4 h5 h6) (Nat.le_of_ble_eq_true rfl) (by decide) (Nat.le_refl _) (Nat.le_refl _) ?_
  refine pt_iret eR_givesOn_16 (Nat.le_refl _) (Nat.le_refl _) ?_
  exact ⟨rfl, rfl, rfl⟩
theorem cR_opens (G : pd_G) (sz : Nat) (hp : pd_P) {v : Nat → Int} {df σ : Int → Int} {A : Nat} (hR : hp 178 = RO v) (hd : hp 180 = ia 4 df) (hA : hp A = ia 90 σ) (h1 : 1 ≤ df 0) (h2 : df 0 ≤ 9) (h3 : 1 ≤ df 1) (h4 : df 1 ≤ 9) (h5 : 0 ≤ σ 0) (h6 : σ 0 ≤ 20) (h7 : σ 1 = 0 ∨ σ 1 = 1) : pd_c G mR_opens 2 [vr 178, vr A] sz hp (pd_pure (vi (opf (df 0) (df 1) σ)) sz hp) := by
  refine pd_con kR_opens [some (vr 178), some (vr A)] rfl rfl (Nat.le_of_ble_eq_true rfl) ?_
  refine pt_aload eR_opens_0 rfl ?_
  refine pt_ic eR_opens_1 ?_
  refine pt_iald eR_opens_2 hA (by omega) (by omega) (by decide) ?_
  refine pt_ic eR_opens_3 ?_
  refine pt_cne eR_opens_4 ⟨by omega, by omega⟩ ⟨by omega, by omega⟩ (fun c4 => ?_) (fun c4 => ?_)
  · refine pt_aload eR_opens_12 rfl ?_
    refine pt_aload eR_opens_13 rfl ?_
    refine pt_ic eR_opens_14 ?_
    refine pt_iald eR_opens_15 hA (by omega) (by omega) (by decide) ?_
    refine pt_kv1r eR_opens_16 (cR_givesOn G sz _ hR hd h1 h2 h3 h4 h5 h6) hR rfl (Nat.le_of_ble_eq_true rfl) (by decide) (Nat.le_refl _) (Nat.le_refl _) ?_
    refine pt_iret eR_opens_19 (Nat.le_refl _) (Nat.le_refl _) ?_
    exact ⟨by unfold opf; congr 2; first | (exfalso; omega) | (rw [if_pos (by omega)]; done) | (rw [if_neg (by omega)]; done), rfl, rfl⟩
  · refine pt_ic eR_opens_7 ?_
    refine pt_goto eR_opens_9 ?_
    refine pt_iret eR_opens_19 (Nat.le_refl _) (Nat.le_refl _) ?_
    exact ⟨by unfold opf; congr 2; first | (exfalso; omega) | (rw [if_pos (by omega)]; done) | (rw [if_neg (by omega)]; done), rfl, rfl⟩
theorem cR_atMost (G : pd_G) (sz : Nat) (hp : pd_P) {n : Int} (h1 : jR n) : pd_c G mR_atMost 0 [vi n] sz hp (pd_pure (vi (min n 999)) sz hp) := by
  refine pd_con kR_atMost [some (vi n)] rfl rfl (Nat.le_of_ble_eq_true rfl) ?_
  unfold jR at *
  refine pt_iload eR_atMost_0 rfl ?_
  refine pt_ic eR_atMost_1 ?_
  refine pt_cle eR_atMost_4 ⟨by omega, by omega⟩ ⟨by omega, by omega⟩ (fun c4 => ?_) (fun c4 => ?_)
  · refine pt_iload eR_atMost_13 rfl ?_
    refine pt_iret eR_atMost_14 (Nat.le_refl _) (Nat.le_refl _) ?_
    exact ⟨by congr 2; omega, rfl, rfl⟩
  · refine pt_ic eR_atMost_7 ?_
    refine pt_goto eR_atMost_10 ?_
    refine pt_iret eR_atMost_14 (Nat.le_refl _) (Nat.le_refl _) ?_
    exact ⟨by congr 2; omega, rfl, rfl⟩
theorem lawf_r {ev bk d : Int} (h1 : 1 ≤ bk) (h5 : 0 ≤ d) : lawf d ev bk = -9 ∨ (0 ≤ lawf d ev bk ∧ lawf d ev bk < 20 ∧ lawf d ev bk < d) := by
  unfold lawf
  split <;> omega
theorem opf_r {ev bk : Int} {σ : Int → Int} (h1 : 1 ≤ bk) (h5 : 0 ≤ σ 0) : opf ev bk σ = -9 ∨ (0 ≤ opf ev bk σ ∧ opf ev bk σ < 20 ∧ opf ev bk σ < σ 0) := by
  unfold opf
  split
  · left; rfl
  · exact lawf_r h1 h5
theorem cR_canTake (G : pd_G) (sz : Nat) (hp : pd_P) {v : Nat → Int} {df ms σ : Int → Int} {A : Nat} {g : Int} (hR : hp 178 = RO v) (hd : hp 180 = ia 4 df) (hm : hp 187 = ia 160 ms) (hA : hp A = ia 90 σ) (h1 : 1 ≤ df 0) (h2 : df 0 ≤ 9) (h3 : 1 ≤ df 1) (h4 : df 1 ≤ 9) (h5 : 0 ≤ σ 0) (h6 : σ 0 ≤ 20) (h7 : σ 1 = 0 ∨ σ 1 = 1) (h8 : 0 ≤ g) (h9 : g < 4) : pd_c G mR_canTake 3 [vr 178, vr A, vi g] sz hp (pd_pure (vi (canf (df 0) (df 1) ms σ g)) sz hp) := by
  refine pd_con kR_canTake [some (vr 178), some (vr A), some (vi g), none] rfl rfl (Nat.le_of_ble_eq_true rfl) ?_
  have ho := opf_r (ev := df 0) (bk := df 1) (σ := σ) h3 h5
  refine pt_aload eR_canTake_0 rfl ?_
  refine pt_aload eR_canTake_1 rfl ?_
  refine pt_kv1r eR_canTake_2 (cR_opens G sz _ hR hd hA h1 h2 h3 h4 h5 h6 h7) hR rfl (Nat.le_of_ble_eq_true rfl) (by decide) (Nat.le_refl _) (Nat.le_refl _) ?_
  refine pt_istore3 eR_canTake_5 rfl ?_
  refine pt_iload eR_canTake_6 rfl ?_
  refine pt_ic eR_canTake_7 ?_
  refine pt_cne eR_canTake_9 ⟨by omega, by omega⟩ ⟨by omega, by omega⟩ (fun c9 => ?_) (fun c9 => ?_)
  · refine pt_aload eR_canTake_16 rfl ?_
    refine pt_get eR_canTake_17 hR rfl ?_
    refine pt_ic eR_canTake_20 ?_
    refine pt_iload eR_canTake_21 rfl ?_
    refine pt_imul eR_canTake_22 ?_
    refine pt_iload eR_canTake_23 rfl ?_
    refine pt_iadd eR_canTake_24 ?_
    refine pt_iald eR_canTake_25 hm (by omega) (by omega) (by decide) ?_
    refine pt_aload eR_canTake_26 rfl ?_
    refine pt_ic eR_canTake_27 ?_
    refine pt_ic eR_canTake_29 ?_
    refine pt_iload eR_canTake_30 rfl ?_
    refine pt_imul eR_canTake_31 ?_
    refine pt_iadd eR_canTake_32 ?_
    refine pt_iload eR_canTake_33 rfl ?_
    refine pt_iadd eR_canTake_34 ?_
    refine pt_iald eR_canTake_35 hA (by omega) (by omega) (by decide) ?_
    refine pt_isub eR_canTake_36 ?_
    refine pt_iret eR_canTake_37 (Nat.le_refl _) (Nat.le_refl _) ?_
    exact ⟨by rw [canf_eq]; congr 2; first | (exfalso; omega) | (rw [if_pos (by omega)]; done) | (rw [if_neg (by omega)]; done), rfl, rfl⟩
  · refine pt_ic eR_canTake_12 ?_
    refine pt_goto eR_canTake_13 ?_
    refine pt_iret eR_canTake_37 (Nat.le_refl _) (Nat.le_refl _) ?_
    exact ⟨by rw [canf_eq]; congr 2; first | (exfalso; omega) | (rw [if_pos (by omega)]; done) | (rw [if_neg (by omega)]; done), rfl, rfl⟩
theorem cS_leads (G : pd_G) (sz : Nat) (hp : pd_P) {a h : Nat} {gd ev bk : Int} {σ : Int → Int} (hS : hp a = SO a (σ 0) (σ 1)) (hH : hp h = HO h gd ev bk) (h1 : 1 ≤ ev) (h2 : ev ≤ 9) (h3 : 1 ≤ bk) (h4 : bk ≤ 9) (h5 : 0 ≤ σ 0) (h6 : σ 0 ≤ 20) (h7 : σ 1 = 0 ∨ σ 1 = 1) : pd_c G mS_leads 3 [vr a, vr h] sz hp (pd_pure (vi (opf ev bk σ)) sz hp) := by
  refine pd_con kS_leads [some (vr a), some (vr h)] rfl rfl (Nat.le_of_ble_eq_true rfl) ?_
  refine pt_aload eS_leads_0 rfl ?_
  refine pt_get eS_leads_1 hS rfl ?_
  refine pt_zeq eS_leads_4 ⟨by omega, by omega⟩ (fun c4 => ?_) (fun c4 => ?_)
  · refine pt_aload eS_leads_12 rfl ?_
    refine pt_aload eS_leads_13 rfl ?_
    refine pt_get eS_leads_14 hS rfl ?_
    refine pt_kv1r eS_leads_17 (cH_leads G sz _ hH h1 h2 h3 h4 h5 h6) hH rfl (Nat.le_of_ble_eq_true rfl) (by decide) (Nat.le_refl _) (Nat.le_refl _) ?_
    refine pt_iret eS_leads_20 (Nat.le_refl _) (Nat.le_refl _) ?_
    exact ⟨by unfold opf; congr 2; first | (exfalso; omega) | (rw [if_pos (by omega)]; done) | (rw [if_neg (by omega)]; done), rfl, rfl⟩
  · refine pt_ic eS_leads_7 ?_
    refine pt_goto eS_leads_9 ?_
    refine pt_iret eS_leads_20 (Nat.le_refl _) (Nat.le_refl _) ?_
    exact ⟨by unfold opf; congr 2; first | (exfalso; omega) | (rw [if_pos (by omega)]; done) | (rw [if_neg (by omega)]; done), rfl, rfl⟩
theorem cS_openOn (G : pd_G) (sz : Nat) (hp : pd_P) {a h : Nat} {gd ev bk d g : Int} {σ ms : Int → Int} (hS : hp a = SO a (σ 0) (σ 1)) (hSk : hp (a + 3) = ia 80 (fun k => σ (10 + k))) (hH : hp h = HO h gd ev bk) (hH6 : hp (h + 6) = ia 80 ms) (h1 : 1 ≤ ev) (h2 : ev ≤ 9) (h3 : 1 ≤ bk) (h4 : bk ≤ 9) (h5 : 0 ≤ d) (h6 : d ≤ 20) (h7 : σ 1 = 0 ∨ σ 1 = 1) (h8 : 0 ≤ g) (h9 : g < 4) : pd_c G mS_openOn 3 [vr a, vr h, vi d, vi g] sz hp (pd_pure (vi (opnf ev bk ms σ d g)) sz hp) := by
  refine pd_con kS_openOn [some (vr a), some (vr h), some (vi d), some (vi g), none] rfl rfl (Nat.le_of_ble_eq_true rfl) ?_
  have ho := lawf_r (ev := ev) (bk := bk) (d := d) h3 h5
  refine pt_aload eS_openOn_0 rfl ?_
  refine pt_get eS_openOn_1 hS rfl ?_
  refine pt_zeq eS_openOn_4 ⟨by omega, by omega⟩ (fun c4 => ?_) (fun c4 => ?_)
  · refine pt_aload eS_openOn_12 rfl ?_
    refine pt_iload eS_openOn_13 rfl ?_
    refine pt_kv1r eS_openOn_14 (cH_leads G sz _ hH h1 h2 h3 h4 h5 h6) hH rfl (Nat.le_of_ble_eq_true rfl) (by decide) (Nat.le_refl _) (Nat.le_refl _) ?_
    refine pt_istore4 eS_openOn_17 rfl ?_
    refine pt_iload eS_openOn_19 rfl ?_
    refine pt_ic eS_openOn_21 ?_
    refine pt_cne eS_openOn_23 ⟨by omega, by omega⟩ ⟨by omega, by omega⟩ (fun c23 => ?_) (fun c23 => ?_)
    · refine pt_aload eS_openOn_30 rfl ?_
      refine pt_get eS_openOn_31 hH rfl ?_
      refine pt_iload eS_openOn_34 rfl ?_
      refine pt_ic eS_openOn_36 ?_
      refine pt_imul eS_openOn_37 ?_
      refine pt_iload eS_openOn_38 rfl ?_
      refine pt_iadd eS_openOn_39 ?_
      refine pt_iald eS_openOn_40 hH6 (by omega) (by omega) (by decide) ?_
      refine pt_aload eS_openOn_41 rfl ?_
      refine pt_get eS_openOn_42 hS rfl ?_
      refine pt_iload eS_openOn_45 rfl ?_
      refine pt_ic eS_openOn_47 ?_
      refine pt_imul eS_openOn_48 ?_
      refine pt_iload eS_openOn_49 rfl ?_
      refine pt_iadd eS_openOn_50 ?_
      refine pt_iald eS_openOn_51 hSk (by omega) (by omega) (by decide) ?_
      refine pt_isub eS_openOn_52 ?_
      refine pt_iret eS_openOn_53 (Nat.le_refl _) (Nat.le_refl _) ?_
      exact ⟨by unfold opnf; congr 2; first | (exfalso; omega) | (rw [if_pos (by omega)]; done) | (rw [if_neg (by omega), if_pos (by omega)]; done) | (rw [if_neg (by omega), if_neg (by omega), Int.mul_comm (lawf d ev bk) 4, ← Int.add_assoc]; done), rfl, rfl⟩
    · refine pt_ic eS_openOn_26 ?_
      refine pt_goto eS_openOn_27 ?_
      refine pt_iret eS_openOn_53 (Nat.le_refl _) (Nat.le_refl _) ?_
      exact ⟨by unfold opnf; congr 2; first | (exfalso; omega) | (rw [if_pos (by omega)]; done) | (rw [if_neg (by omega), if_pos (by omega)]; done) | (rw [if_neg (by omega), if_neg (by omega), Int.mul_comm (lawf d ev bk) 4, ← Int.add_assoc]; done), rfl, rfl⟩
  · refine pt_ic eS_openOn_7 ?_
    refine pt_goto eS_openOn_9 ?_
    refine pt_istore4 eS_openOn_17 rfl ?_
    refine pt_iload eS_openOn_19 rfl ?_
    refine pt_ic eS_openOn_21 ?_
    refine pt_cne eS_openOn_23 ⟨by omega, by omega⟩ ⟨by omega, by omega⟩ (fun c23 => ?_) (fun c23 => ?_)
    · refine pt_aload eS_openOn_30 rfl ?_
      refine pt_get eS_openOn_31 hH rfl ?_
      refine pt_iload eS_openOn_34 rfl ?_
      refine pt_ic eS_openOn_36 ?_
      refine pt_imul eS_openOn_37 ?_
      refine pt_iload eS_openOn_38 rfl ?_
      refine pt_iadd eS_openOn_39 ?_
      refine pt_iald eS_openOn_40 hH6 (by omega) (by omega) (by decide) ?_
      refine pt_aload eS_openOn_41 rfl ?_
      refine pt_get eS_openOn_42 hS rfl ?_
      refine pt_iload eS_openOn_45 rfl ?_
      refine pt_ic eS_openOn_47 ?_
      refine pt_imul eS_openOn_48 ?_
      refine pt_iload eS_openOn_49 rfl ?_
      refine pt_iadd eS_openOn_50 ?_
      refine pt_iald eS_openOn_51 hSk (by omega) (by omega) (by decide) ?_
      refine pt_isub eS_openOn_52 ?_
      refine pt_iret eS_openOn_53 (Nat.le_refl _) (Nat.le_refl _) ?_
      exact ⟨by unfold opnf; congr 2; first | (exfalso; omega) | (rw [if_pos (by omega)]; done) | (rw [if_neg (by omega), if_pos (by omega)]; done) | (rw [if_neg (by omega), if_neg (by omega), Int.mul_comm (lawf d ev bk) 4, ← Int.add_assoc]; done), rfl, rfl⟩
    · refine pt_ic eS_openOn_26 ?_
      refine pt_goto eS_openOn_27 ?_
      refine pt_iret eS_openOn_53 (Nat.le_refl _) (Nat.le_refl _) ?_
      exact ⟨by unfold opnf; congr 2; first | (exfalso; omega) | (rw [if_pos (by omega)]; done) | (rw [if_neg (by omega), if_pos (by omega)]; done) | (rw [if_neg (by omega), if_neg (by omega), Int.mul_comm (lawf d ev bk) 4, ← Int.add_assoc]; done), rfl, rfl⟩
theorem cS_open (G : pd_G) (sz : Nat) (hp : pd_P) {a h : Nat} {gd ev bk g : Int} {σ ms : Int → Int} (hS : hp a = SO a (σ 0) (σ 1)) (hSk : hp (a + 3) = ia 80 (fun k => σ (10 + k))) (hH : hp h = HO h gd ev bk) (hH6 : hp (h + 6) = ia 80 ms) (h1 : 1 ≤ ev) (h2 : ev ≤ 9) (h3 : 1 ≤ bk) (h4 : bk ≤ 9) (h5 : 0 ≤ σ 0) (h6 : σ 0 ≤ 20) (h7 : σ 1 = 0 ∨ σ 1 = 1) (h8 : 0 ≤ g) (h9 : g < 4) : pd_c G mS_open 4 [vr a, vr h, vi g] sz hp (pd_pure (vi (canf ev bk ms σ g)) sz hp) := by
  refine pd_con kS_open [some (vr a), some (vr h), some (vi g)] rfl rfl (Nat.le_of_ble_eq_true rfl) ?_
  refine pt_aload eS_open_0 rfl ?_
  refine pt_aload eS_open_1 rfl ?_
  refine pt_aload eS_open_2 rfl ?_
  refine pt_get eS_open_3 hS rfl ?_
  refine pt_iload eS_open_6 rfl ?_
  refine pt_kv3r eS_open_7 (cS_openOn G sz _ hS hSk hH hH6 h1 h2 h3 h4 h5 h6 h7 h8 h9) hS rfl (Nat.le_of_ble_eq_true rfl) (by decide) (Nat.le_refl _) (Nat.le_refl _) ?_
  refine pt_iret eS_open_10 (Nat.le_refl _) (Nat.le_refl _) ?_
  exact ⟨rfl, rfl, rfl⟩
theorem cH_rest (G : pd_G) (sz : Nat) (hp : pd_P) {h : Nat} {gd ev bk t d g : Int} {br ms us : Int → Int} (hH : hp h = HO h gd ev bk) (hH5 : hp (h + 5) = ia 80 br) (hH6 : hp (h + 6) = ia 80 ms) (hH2 : hp (h + 2) = ia 4 us) (h1 : 0 ≤ t) (h2 : t ≤ 999) (h3 : 0 ≤ d) (h4 : d < 20) (h5 : 0 ≤ g) (h6 : g < 4) (h7 : 0 ≤ br (4 * d + g) ∧ br (4 * d + g) ≤ 30) (h8 : 0 ≤ ms (4 * d + g) ∧ ms (4 * d + g) ≤ 30) (h9 : 0 ≤ us g ∧ us g ≤ 9) : pd_c G mH_rest 1 [vr h, vi t, vi d, vi g] sz hp (pd_pure (vi (if rsf t (br (4 * d + g)) (ms (4 * d + g)) (us g) < 0 then -1 else rsf t (br (4 * d + g)) (ms (4 * d + g)) (us g))) sz hp) := by
  refine pd_con kH_rest [some (vr h), some (vi t), some (vi d), some (vi g), none] rfl rfl (Nat.le_of_ble_eq_true rfl) ?_
  have e0 : d * 4 + g = 4 * d + g := by omega
  rw [← e0] at h7 h8 ⊢
  refine pt_ic eH_rest_0 ?_
  refine pt_iload eH_rest_3 rfl ?_
  refine pt_aload eH_rest_4 rfl ?_
  refine pt_get eH_rest_5 hH rfl ?_
  refine pt_iload eH_rest_8 rfl ?_
  refine pt_ic eH_rest_9 ?_
  refine pt_imul eH_rest_10 ?_
  refine pt_iload eH_rest_11 rfl ?_
  refine pt_iadd eH_rest_12 ?_
  refine pt_iald eH_rest_13 hH5 (by omega) (by omega) (by decide) ?_
  refine pt_iadd eH_rest_14 ?_
  refine pt_min eH_rest_15 ⟨by omega, by omega⟩ ⟨by omega, by omega⟩ (by decide) (Nat.le_of_ble_eq_true rfl) (Nat.le_refl _) (Nat.le_refl _) ?_
  refine pt_istore4 eH_rest_18 rfl ?_
  refine pt_iload eH_rest_20 rfl ?_
  refine pt_iload eH_rest_22 rfl ?_
  refine pt_aload eH_rest_24 rfl ?_
  refine pt_get eH_rest_25 hH rfl ?_
  refine pt_iload eH_rest_28 rfl ?_
  refine pt_ic eH_rest_29 ?_
  refine pt_imul eH_rest_30 ?_
  refine pt_iload eH_rest_31 rfl ?_
  refine pt_iadd eH_rest_32 ?_
  refine pt_iald eH_rest_33 hH6 (by omega) (by omega) (by decide) ?_
  refine pt_min eH_rest_34 ⟨by omega, by omega⟩ ⟨by omega, by omega⟩ (by decide) (Nat.le_of_ble_eq_true rfl) (Nat.le_refl _) (Nat.le_refl _) ?_
  refine pt_isub eH_rest_37 ?_
  refine pt_istore4 eH_rest_38 rfl ?_
  refine pt_iload eH_rest_40 rfl ?_
  refine pt_aload eH_rest_42 rfl ?_
  refine pt_get eH_rest_43 hH rfl ?_
  refine pt_iload eH_rest_46 rfl ?_
  refine pt_iald eH_rest_47 hH2 (by omega) (by omega) (by decide) ?_
  refine pt_cge eH_rest_48 ⟨by omega, by omega⟩ ⟨by omega, by omega⟩ (fun c48 => ?_) (fun c48 => ?_)
  · refine pt_iload eH_rest_55 rfl ?_
    refine pt_aload eH_rest_57 rfl ?_
    refine pt_get eH_rest_58 hH rfl ?_
    refine pt_iload eH_rest_61 rfl ?_
    refine pt_iald eH_rest_62 hH2 (by omega) (by omega) (by decide) ?_
    refine pt_isub eH_rest_63 ?_
    refine pt_iret eH_rest_64 (Nat.le_refl _) (Nat.le_refl _) ?_
    exact ⟨by unfold rsf; congr 2; first | (exfalso; omega) | (rw [if_pos (by omega)]; done) | (rw [if_neg (by omega)]; omega), rfl, rfl⟩
  · refine pt_ic eH_rest_51 ?_
    refine pt_goto eH_rest_52 ?_
    refine pt_iret eH_rest_64 (Nat.le_refl _) (Nat.le_refl _) ?_
    exact ⟨by unfold rsf; congr 2; first | (exfalso; omega) | (rw [if_pos (by omega)]; done) | (rw [if_neg (by omega)]; omega), rfl, rfl⟩
