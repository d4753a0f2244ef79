theorem pt_gen {G : pd_G} {M : pd_M} {d mc ms : Nat} {X : Option (Nat × (Nat → Int))} {R : pd_R} {pc : Nat} {lv : List (Option pv)} {st : List pv} {sz ce sl : Nat} {hp0 : pd_P} (k : ∀ hp : pd_P, hp = hp0 → pd_T G M d mc ms X R pc lv st sz ce sl hp) : pd_T G M d mc ms X R pc lv st sz ce sl hp0 := k hp0 rfl
theorem pg_s {hp1 hp : pd_P} {a : Nat} {e : pd_E} (h : hp1 = va_up hp a e) : hp1 a = e := by rw [h]; exact va_up_self _ _ _
theorem pg_n {hp1 hp : pd_P} {a b : Nat} {e e1 : pd_E} (h : hp1 = va_up hp a e) (hne : a ≠ b) (hb : hp b = e1) : hp1 b = e1 := by rw [h, va_up_ne _ _ (Ne.symm hne)]; exact hb
abbrev pd_c (G : pd_G) (M : pd_M) (d : Nat) (av : List pv) (sz : Nat) (hp : pd_P) (R : pd_R) : Prop := pd_C G M d 0 0 av sz hp R
abbrev pd_t (G : pd_G) (M : pd_M) (d : Nat) (R : pd_R) (pc : Nat) (lv : List (Option pv)) (st : List pv) (sz : Nat) (hp : pd_P) : Prop := pd_T G M d 0 0 none R pc lv st sz 0 0 hp
def pwi (n lo hi : Int) : Int := if lo ≤ n ∧ n ≤ hi then 1 else 0
theorem pwi_01 (n lo hi : Int) : pwi n lo hi = 0 ∨ pwi n lo hi = 1 := by unfold pwi; split <;> simp
theorem cD_within (G : pd_G) (sz : Nat) (hp : pd_P) {n lo hi : Int} (h1 : jR n) (h2 : jR lo) (h3 : jR hi) : pd_c G mD_within 0 [vi n, vi lo, vi hi] sz hp (pd_pure (vi (pwi n lo hi)) sz hp) := by
  refine pd_con kD_within [some (vi n), some (vi lo), some (vi hi)] rfl rfl (by decide) ?_
  unfold jR at h1 h2 h3
  refine pt_iload eD_within_0 rfl ?_
  refine pt_iload eD_within_1 rfl ?_
  refine pt_clt eD_within_2 ⟨by omega, by omega⟩ ⟨by omega, by omega⟩ (fun c2 => ?_) (fun c2 => ?_)
  · refine pt_ic eD_within_14 ?_
    refine pt_iret (eD_within_15 (by omega)) (Nat.le_refl _) (Nat.le_refl _) ?_
    exact ⟨by unfold pwi; congr 2; first | (rw [if_pos]; omega) | (rw [if_neg]; omega), rfl, rfl⟩
  · refine pt_iload eD_within_5 rfl ?_
    refine pt_iload eD_within_6 rfl ?_
    refine pt_cgt eD_within_7 ⟨by omega, by omega⟩ ⟨by omega, by omega⟩ (fun c7 => ?_) (fun c7 => ?_)
    · refine pt_ic eD_within_14 ?_
      refine pt_iret (eD_within_15 (by omega)) (Nat.le_refl _) (Nat.le_refl _) ?_
      exact ⟨by unfold pwi; congr 2; first | (rw [if_pos]; omega) | (rw [if_neg]; omega), rfl, rfl⟩
    · refine pt_ic eD_within_10 ?_
      refine pt_goto eD_within_11 ?_
      refine pt_iret (eD_within_15 (by omega)) (Nat.le_refl _) (Nat.le_refl _) ?_
      exact ⟨by unfold pwi; congr 2; first | (rw [if_pos]; omega) | (rw [if_neg]; omega), rfl, rfl⟩
theorem cR_in (G : pd_G) (sz : Nat) (hp : pd_P) {n lo hi : Int} (h1 : jR n) (h2 : jR lo) (h3 : jR hi) : pd_c G mR_in 0 [vi n, vi lo, vi hi] sz hp (pd_pure (vi (pwi n lo hi)) sz hp) := by
  refine pd_con kR_in [some (vi n), some (vi lo), some (vi hi)] rfl rfl (by decide) ?_
  unfold jR at h1 h2 h3
  refine pt_iload eR_in_0 rfl ?_
  refine pt_iload eR_in_1 rfl ?_
  refine pt_clt eR_in_2 ⟨by omega, by omega⟩ ⟨by omega, by omega⟩ (fun c2 => ?_) (fun c2 => ?_)
  · refine pt_ic eR_in_14 ?_
    refine pt_iret (eR_in_15 (by omega)) (Nat.le_refl _) (Nat.le_refl _) ?_
    exact ⟨by unfold pwi; congr 2; first | (rw [if_pos]; omega) | (rw [if_neg]; omega), rfl, rfl⟩
  · refine pt_iload eR_in_5 rfl ?_
    refine pt_iload eR_in_6 rfl ?_
    refine pt_cgt eR_in_7 ⟨by omega, by omega⟩ ⟨by omega, by omega⟩ (fun c7 => ?_) (fun c7 => ?_)
    · refine pt_ic eR_in_14 ?_
      refine pt_iret (eR_in_15 (by omega)) (Nat.le_refl _) (Nat.le_refl _) ?_
      exact ⟨by unfold pwi; congr 2; first | (rw [if_pos]; omega) | (rw [if_neg]; omega), rfl, rfl⟩
    · refine pt_ic eR_in_10 ?_
      refine pt_goto eR_in_11 ?_
      refine pt_iret (eR_in_15 (by omega)) (Nat.le_refl _) (Nat.le_refl _) ?_
      exact ⟨by unfold pwi; congr 2; first | (rw [if_pos]; omega) | (rw [if_neg]; omega), rfl, rfl⟩
