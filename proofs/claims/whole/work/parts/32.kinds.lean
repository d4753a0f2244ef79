/-! bits; kinds -/
theorem fa_or (a b : Nat) : nI a ||| nI b = nI (a ||| b) := by
  apply Int32.toBitVec_inj.1
  show BitVec.ofNat 32 a ||| BitVec.ofNat 32 b = BitVec.ofNat 32 (a ||| b)
  apply BitVec.eq_of_getLsbD_eq
  intro i hi
  simp [hi]
theorem fa_or_sum {a k : Nat} (b : Nat) (h : a < 2 ^ k) : nI (2 ^ k * b) ||| nI a = nI (2 ^ k * b + a) := by rw [fa_or, Nat.two_pow_add_eq_or_of_lt h]
theorem jI_n (n : Nat) : jI (n : Int) = nI n := Int32.ofInt_eq_ofNat
theorem jI_amt : ∀ k : Fin 32, ((jI (k.val : Int) &&& 31).toBitVec.smod 32).toNat = k.val := by decide
theorem jI_shr {x : Nat} {y : Nat} (hx : x < 2147483648) (hy : y < 32) : jI (x : Int) >>> (jI (y : Int) &&& 31) = jI ((x / 2 ^ y : Nat) : Int) := by
  rw [jI_n, jI_n (x / 2 ^ y)]
  exact pk_shrN hx _ y (jI_amt ⟨y, hy⟩)
theorem jI_shl {x : Nat} {y : Nat} (hy : y < 32) (h : x * 2 ^ y < 2 ^ 32) : jI (x : Int) <<< (jI (y : Int) &&& 31) = jI ((x * 2 ^ y : Nat) : Int) := by
  rw [jI_n x, jI_n (x * 2 ^ y)]
  exact pk_shlN _ y (jI_amt ⟨y, hy⟩) h
theorem jI_or {x y : Nat} (h : x < 2 ^ y) : jI (x : Int) ||| jI ((2 ^ y : Nat) : Int) = jI ((x + 2 ^ y : Nat) : Int) := by
  rw [jI_n, jI_n, jI_n, fa_or]
  have h1 := fa_or_sum 1 h
  rw [Nat.mul_one, fa_or] at h1
  rw [Nat.or_comm, Nat.add_comm]
  exact h1
section PDDEC
variable {G : pd_G} {M : pd_M} {d mc ms : Nat} {X : Option (Nat × (Nat → Int))} {R : pd_R} {pc n t : Nat} {lv : List (Option pv)} {st : List pv} {sz ce sl : Nat} {hp : pd_P}
theorem pt_zeqT {x : Int} (h : pd_b1 M pc .eq n t) (hx : x = 0) (k : pd_T G M d mc ms X R t lv st sz ce sl hp) : pd_T G M d mc ms X R pc lv (vi x :: st) sz ce sl hp := pt_zeq h (by rw [hx]; exact jR_0) (fun _ => k) (fun c => absurd hx c)
theorem pt_zeqF {x : Int} (h : pd_b1 M pc .eq n t) (hx : x = 1) (k : pd_T G M d mc ms X R n lv st sz ce sl hp) : pd_T G M d mc ms X R pc lv (vi x :: st) sz ce sl hp := pt_zeq h (by rw [hx]; exact ⟨by decide, by decide⟩) (fun c => by rw [hx] at c; cases c) (fun _ => k)
theorem pt_cgeT {x y : Int} (h : pd_b2 M pc .ge n t) (hx : y ≤ x ∧ jR x ∧ jR y) (k : pd_T G M d mc ms X R t lv st sz ce sl hp) : pd_T G M d mc ms X R pc lv (vi y :: vi x :: st) sz ce sl hp := pt_cge h hx.2.1 hx.2.2 (fun _ => k) (fun c => absurd hx.1 c)
theorem pt_cgeF {x y : Int} (h : pd_b2 M pc .ge n t) (hx : x < y ∧ jR x ∧ jR y) (k : pd_T G M d mc ms X R n lv st sz ce sl hp) : pd_T G M d mc ms X R pc lv (vi y :: vi x :: st) sz ce sl hp := pt_cge h hx.2.1 hx.2.2 (fun c => absurd hx.1 (Int.not_lt.mpr c)) (fun _ => k)
end PDDEC
def hasf (x k : Nat) : Int := if x / 2 ^ k % 2 = 1 then 1 else 0
theorem hasf_01 (x k : Nat) : hasf x k = 0 ∨ hasf x k = 1 := by unfold hasf; split <;> simp
theorem hasf_j (x k : Nat) : jR (hasf x k) := by rcases hasf_01 x k with h | h <;> rw [h] <;> exact ⟨by decide, by decide⟩
theorem cR_has (G : pd_G) (sz : Nat) (hp : pd_P) {x k : Nat} (hx : x < 2147483648) (hk : k < 31) : pd_c G mR_has 0 [vi (x : Int), vi (k : Int)] sz hp (pd_pure (vi (hasf x k)) sz hp) := by
  refine pd_con kR_has [some (vi (x : Int)), some (vi (k : Int))] rfl rfl (Nat.le_of_ble_eq_true rfl) ?_
  have hm : ((x / 2 ^ k : Nat) : Int) % 2 ^ 1 = ((x / 2 ^ k % 2 : Nat) : Int) := by omega
  have hm2 : x / 2 ^ k % 2 < 2 := Nat.mod_lt _ (by decide)
  refine pt_iload eR_has_0 rfl ?_
  refine pt_iload eR_has_1 rfl ?_
  refine pt_ishr (z := ((x / 2 ^ k : Nat) : Int)) eR_has_2 (jI_shr hx (by omega)) ?_
  refine pt_ic eR_has_3 ?_
  refine pt_iand 1 eR_has_4 (by decide) (by decide) ?_
  rw [hm]
  refine pt_ic eR_has_5 ?_
  refine pt_cne eR_has_6 ⟨by omega, by omega⟩ ⟨by omega, by omega⟩ (fun c6 => ?_) (fun c6 => ?_)
  · refine pt_ic eR_has_13 ?_
    refine pt_iret (eR_has_14 (by omega)) (Nat.le_refl _) (Nat.le_refl _) ?_
    exact ⟨by unfold hasf; congr 2; first | (exfalso; omega) | (rw [if_pos (by omega)]; done) | (rw [if_neg (by omega)]; done), rfl, rfl⟩
  · refine pt_ic eR_has_9 ?_
    refine pt_goto eR_has_10 ?_
    refine pt_iret (eR_has_14 (by omega)) (Nat.le_refl _) (Nat.le_refl _) ?_
    exact ⟨by unfold hasf; congr 2; first | (exfalso; omega) | (rw [if_pos (by omega)]; done) | (rw [if_neg (by omega)]; done), rfl, rfl⟩
def bod (k : Int) : Nat := if k = 0 then 1 else if k = 1 then 3 else if k = 2 then 5 else if k = 3 then 11 else if k = 4 then 21 else 33
theorem cR_bodiesOf (G : pd_G) (sz : Nat) (hp : pd_P) {k : Int} (h0 : 0 ≤ k) (h1 : k ≤ 5) : pd_c G mR_bodiesOf 0 [vi k] sz hp (pd_pure (vi (bod k : Int)) sz hp) := by
  refine pd_con kR_bodiesOf [some (vi k)] rfl rfl (Nat.le_of_ble_eq_true rfl) ?_
  refine pt_iload eR_bodiesOf_0 rfl ?_
  rcases (show k = 0 ∨ k = 1 ∨ k = 2 ∨ k = 3 ∨ k = 4 ∨ (k < 0 ∨ 4 < k) by omega) with rfl | rfl | rfl | rfl | rfl | hsw
  · refine pt_tin (t := 36) (off := 35) eR_bodiesOf_1 ⟨by decide, by decide⟩ (by decide) (by decide) rfl (by decide) ?_
    refine pt_ic eR_bodiesOf_36 ?_
    refine pt_iret eR_bodiesOf_37 (Nat.le_refl _) (Nat.le_refl _) ?_
    exact ⟨rfl, rfl, rfl⟩
  · refine pt_tin (t := 38) (off := 37) eR_bodiesOf_1 ⟨by decide, by decide⟩ (by decide) (by decide) rfl (by decide) ?_
    refine pt_ic eR_bodiesOf_38 ?_
    refine pt_iret eR_bodiesOf_39 (Nat.le_refl _) (Nat.le_refl _) ?_
    exact ⟨rfl, rfl, rfl⟩
  · refine pt_tin (t := 40) (off := 39) eR_bodiesOf_1 ⟨by decide, by decide⟩ (by decide) (by decide) rfl (by decide) ?_
    refine pt_ic eR_bodiesOf_40 ?_
    refine pt_iret eR_bodiesOf_41 (Nat.le_refl _) (Nat.le_refl _) ?_
    exact ⟨rfl, rfl, rfl⟩
  · refine pt_tin (t := 42) (off := 41) eR_bodiesOf_1 ⟨by decide, by decide⟩ (by decide) (by decide) rfl (by decide) ?_
    refine pt_ic eR_bodiesOf_42 ?_
    refine pt_iret eR_bodiesOf_44 (Nat.le_refl _) (Nat.le_refl _) ?_
    exact ⟨rfl, rfl, rfl⟩
  · refine pt_tin (t := 45) (off := 44) eR_bodiesOf_1 ⟨by decide, by decide⟩ (by decide) (by decide) rfl (by decide) ?_
    refine pt_ic eR_bodiesOf_45 ?_
    refine pt_iret eR_bodiesOf_47 (Nat.le_refl _) (Nat.le_refl _) ?_
    exact ⟨rfl, rfl, rfl⟩
  · refine pt_tout (t := 48) eR_bodiesOf_1 ⟨by omega, by omega⟩ hsw (by decide) ?_
    refine pt_ic eR_bodiesOf_48 ?_
    refine pt_iret eR_bodiesOf_50 (Nat.le_refl _) (Nat.le_refl _) ?_
    exact ⟨by rw [show k = 5 by omega]; rfl, rfl, rfl⟩
theorem cG_marks_2 (G : pd_G) (sz : Nat) (hp : pd_P) {a s h : Nat} {t g : Int} {σ wo : Int → Int} (ha : hp a = ob 2 [vl t]) (hS : StA hp s σ) (has : a < s ∨ s + 4 ≤ a) (hg0 : 0 ≤ g) (hg1 : g < 4) {gd ev bk : Int} (hH : hp h = HO h gd ev bk) (hH4 : hp (h + 4) = ia 4 wo) (hah : a < h ∨ h + 8 ≤ a) : pd_c G mG_marks 0 [vr a, vr h, vr s, vi g] sz hp (fun v' sz' hp' => v' = some (vi (σ (2 + g))) ∧ sz' = sz ∧ hp' = va_up hp a (ob 2 [vl (t + 1)])) := by
  refine pd_con kG_marks [some (vr a), some (vr h), some (vr s), some (vi g)] rfl rfl (Nat.le_of_ble_eq_true rfl) ?_
  obtain ⟨hSa, hSt, hSl, hSk⟩ := hS
  refine pt_aload eG_marks_0 rfl ?_
  refine pt_dupr eG_marks_1 ?_
  refine pt_get eG_marks_2_2 ha rfl ?_
  refine pt_jc eG_marks_5 ?_
  refine pt_ladd eG_marks_6 ?_
  refine pt_put0 eG_marks_7_2 ha trivial ?_
  refine pt_gen ?_
  intro hp1 ev1
  have ha := pg_s ev1
  have hSa := pg_n ev1 (by omega) hSa
  have hSt := pg_n ev1 (by omega) hSt
  have hSl := pg_n ev1 (by omega) hSl
  have hH := pg_n ev1 (by omega) hH
  have hH4 := pg_n ev1 (by omega) hH4
  refine pt_aload eG_marks_10 rfl ?_
  refine pt_get eG_marks_11 hSa rfl ?_
  refine pt_iload eG_marks_14 rfl ?_
  refine pt_iald eG_marks_15 hSt (by omega) (by omega) (by decide) ?_
  refine pt_iret eG_marks_16 (Nat.le_refl _) (Nat.le_refl _) ?_
  exact ⟨rfl, rfl, ev1⟩
theorem cG_marks_9 (G : pd_G) (sz : Nat) (hp : pd_P) {a s h : Nat} {t g : Int} {σ wo : Int → Int} (ha : hp a = ob 9 [vl t]) (hS : StA hp s σ) (has : a < s ∨ s + 4 ≤ a) (hg0 : 0 ≤ g) (hg1 : g < 4) {gd ev bk : Int} (hH : hp h = HO h gd ev bk) (hH4 : hp (h + 4) = ia 4 wo) (hah : a < h ∨ h + 8 ≤ a) : pd_c G mG_marks 0 [vr a, vr h, vr s, vi g] sz hp (fun v' sz' hp' => v' = some (vi (σ (2 + g))) ∧ sz' = sz ∧ hp' = va_up hp a (ob 9 [vl (t + 1)])) := by
  refine pd_con kG_marks [some (vr a), some (vr h), some (vr s), some (vi g)] rfl rfl (Nat.le_of_ble_eq_true rfl) ?_
  obtain ⟨hSa, hSt, hSl, hSk⟩ := hS
  refine pt_aload eG_marks_0 rfl ?_
  refine pt_dupr eG_marks_1 ?_
  refine pt_get eG_marks_2_9 ha rfl ?_
  refine pt_jc eG_marks_5 ?_
  refine pt_ladd eG_marks_6 ?_
  refine pt_put0 eG_marks_7_9 ha trivial ?_
  refine pt_gen ?_
  intro hp1 ev1
  have ha := pg_s ev1
  have hSa := pg_n ev1 (by omega) hSa
  have hSt := pg_n ev1 (by omega) hSt
  have hSl := pg_n ev1 (by omega) hSl
  have hH := pg_n ev1 (by omega) hH
  have hH4 := pg_n ev1 (by omega) hH4
  refine pt_aload eG_marks_10 rfl ?_
  refine pt_get eG_marks_11 hSa rfl ?_
  refine pt_iload eG_marks_14 rfl ?_
  refine pt_iald eG_marks_15 hSt (by omega) (by omega) (by decide) ?_
  refine pt_iret eG_marks_16 (Nat.le_refl _) (Nat.le_refl _) ?_
  exact ⟨rfl, rfl, ev1⟩
theorem cG_marks_3 (G : pd_G) (sz : Nat) (hp : pd_P) {a s h : Nat} {t g : Int} {σ wo : Int → Int} (ha : hp a = ob 3 [vl t]) (hS : StA hp s σ) (has : a < s ∨ s + 4 ≤ a) (hg0 : 0 ≤ g) (hg1 : g < 4) {gd ev bk : Int} (hH : hp h = HO h gd ev bk) (hH4 : hp (h + 4) = ia 4 wo) (hah : a < h ∨ h + 8 ≤ a) : pd_c G mG_marks 0 [vr a, vr h, vr s, vi g] sz hp (fun v' sz' hp' => v' = some (vi (σ (2 + g))) ∧ sz' = sz ∧ hp' = va_up hp a (ob 3 [vl (t + 1)])) := by
  refine pd_con kG_marks [some (vr a), some (vr h), some (vr s), some (vi g)] rfl rfl (Nat.le_of_ble_eq_true rfl) ?_
  obtain ⟨hSa, hSt, hSl, hSk⟩ := hS
  refine pt_aload eG_marks_0 rfl ?_
  refine pt_dupr eG_marks_1 ?_
  refine pt_get eG_marks_2_3 ha rfl ?_
  refine pt_jc eG_marks_5 ?_
  refine pt_ladd eG_marks_6 ?_
  refine pt_put0 eG_marks_7_3 ha trivial ?_
  refine pt_gen ?_
  intro hp1 ev1
  have ha := pg_s ev1
  have hSa := pg_n ev1 (by omega) hSa
  have hSt := pg_n ev1 (by omega) hSt
  have hSl := pg_n ev1 (by omega) hSl
  have hH := pg_n ev1 (by omega) hH
  have hH4 := pg_n ev1 (by omega) hH4
  refine pt_aload eG_marks_10 rfl ?_
  refine pt_get eG_marks_11 hSa rfl ?_
  refine pt_iload eG_marks_14 rfl ?_
  refine pt_iald eG_marks_15 hSt (by omega) (by omega) (by decide) ?_
  refine pt_iret eG_marks_16 (Nat.le_refl _) (Nat.le_refl _) ?_
  exact ⟨rfl, rfl, ev1⟩
theorem cG_marks_1 (G : pd_G) (sz : Nat) (hp : pd_P) {a s h : Nat} {t g : Int} {σ wo : Int → Int} (ha : hp a = ob 1 [vl t]) (hS : StA hp s σ) (has : a < s ∨ s + 4 ≤ a) (hg0 : 0 ≤ g) (hg1 : g < 4) {gd ev bk : Int} (hH : hp h = HO h gd ev bk) (hH4 : hp (h + 4) = ia 4 wo) (hah : a < h ∨ h + 8 ≤ a) : pd_c G mG_marks 0 [vr a, vr h, vr s, vi g] sz hp (fun v' sz' hp' => v' = some (vi (σ (2 + g))) ∧ sz' = sz ∧ hp' = va_up hp a (ob 1 [vl (t + 1)])) := by
  refine pd_con kG_marks [some (vr a), some (vr h), some (vr s), some (vi g)] rfl rfl (Nat.le_of_ble_eq_true rfl) ?_
  obtain ⟨hSa, hSt, hSl, hSk⟩ := hS
  refine pt_aload eG_marks_0 rfl ?_
  refine pt_dupr eG_marks_1 ?_
  refine pt_get eG_marks_2_1 ha rfl ?_
  refine pt_jc eG_marks_5 ?_
  refine pt_ladd eG_marks_6 ?_
  refine pt_put0 eG_marks_7_1 ha trivial ?_
  refine pt_gen ?_
  intro hp1 ev1
  have ha := pg_s ev1
  have hSa := pg_n ev1 (by omega) hSa
  have hSt := pg_n ev1 (by omega) hSt
  have hSl := pg_n ev1 (by omega) hSl
  have hH := pg_n ev1 (by omega) hH
  have hH4 := pg_n ev1 (by omega) hH4
  refine pt_aload eG_marks_10 rfl ?_
  refine pt_get eG_marks_11 hSa rfl ?_
  refine pt_iload eG_marks_14 rfl ?_
  refine pt_iald eG_marks_15 hSt (by omega) (by omega) (by decide) ?_
  refine pt_iret eG_marks_16 (Nat.le_refl _) (Nat.le_refl _) ?_
  exact ⟨rfl, rfl, ev1⟩
theorem cG_marks_5 (G : pd_G) (sz : Nat) (hp : pd_P) {a s h : Nat} {t g : Int} {σ wo : Int → Int} (ha : hp a = ob 5 [vl t]) (hS : StA hp s σ) (has : a < s ∨ s + 4 ≤ a) (hg0 : 0 ≤ g) (hg1 : g < 4) {gd ev bk : Int} (hH : hp h = HO h gd ev bk) (hH4 : hp (h + 4) = ia 4 wo) (hah : a < h ∨ h + 8 ≤ a) : pd_c G mG_marks 0 [vr a, vr h, vr s, vi g] sz hp (fun v' sz' hp' => v' = some (vi (σ (2 + g))) ∧ sz' = sz ∧ hp' = va_up hp a (ob 5 [vl (t + 1)])) := by
  refine pd_con kG_marks [some (vr a), some (vr h), some (vr s), some (vi g)] rfl rfl (Nat.le_of_ble_eq_true rfl) ?_
  obtain ⟨hSa, hSt, hSl, hSk⟩ := hS
  refine pt_aload eG_marks_0 rfl ?_
  refine pt_dupr eG_marks_1 ?_
  refine pt_get eG_marks_2_5 ha rfl ?_
  refine pt_jc eG_marks_5 ?_
  refine pt_ladd eG_marks_6 ?_
  refine pt_put0 eG_marks_7_5 ha trivial ?_
  refine pt_gen ?_
  intro hp1 ev1
  have ha := pg_s ev1
  have hSa := pg_n ev1 (by omega) hSa
  have hSt := pg_n ev1 (by omega) hSt
  have hSl := pg_n ev1 (by omega) hSl
  have hH := pg_n ev1 (by omega) hH
  have hH4 := pg_n ev1 (by omega) hH4
  refine pt_aload eG_marks_10 rfl ?_
  refine pt_get eG_marks_11 hSa rfl ?_
  refine pt_iload eG_marks_14 rfl ?_
  refine pt_iald eG_marks_15 hSt (by omega) (by omega) (by decide) ?_
  refine pt_iret eG_marks_16 (Nat.le_refl _) (Nat.le_refl _) ?_
  exact ⟨rfl, rfl, ev1⟩
theorem cG_marks_0 (G : pd_G) (sz : Nat) (hp : pd_P) {a s h : Nat} {t g : Int} {σ wo : Int → Int} (ha : hp a = ob 0 [vl t]) (hS : StA hp s σ) (has : a < s ∨ s + 4 ≤ a) (hg0 : 0 ≤ g) (hg1 : g < 4) {gd ev bk : Int} (hH : hp h = HO h gd ev bk) (hH4 : hp (h + 4) = ia 4 wo) (hah : a < h ∨ h + 8 ≤ a) : pd_c G mG_marks 0 [vr a, vr h, vr s, vi g] sz hp (fun v' sz' hp' => v' = some (vi (σ (2 + g))) ∧ sz' = sz ∧ hp' = va_up hp a (ob 0 [vl (t + 1)])) := by
  refine pd_con kG_marks [some (vr a), some (vr h), some (vr s), some (vi g)] rfl rfl (Nat.le_of_ble_eq_true rfl) ?_
  obtain ⟨hSa, hSt, hSl, hSk⟩ := hS
  refine pt_aload eG_marks_0 rfl ?_
  refine pt_dupr eG_marks_1 ?_
  refine pt_get eG_marks_2_0 ha rfl ?_
  refine pt_jc eG_marks_5 ?_
  refine pt_ladd eG_marks_6 ?_
  refine pt_put0 eG_marks_7_0 ha trivial ?_
  refine pt_gen ?_
  intro hp1 ev1
  have ha := pg_s ev1
  have hSa := pg_n ev1 (by omega) hSa
  have hSt := pg_n ev1 (by omega) hSt
  have hSl := pg_n ev1 (by omega) hSl
  have hH := pg_n ev1 (by omega) hH
  have hH4 := pg_n ev1 (by omega) hH4
  refine pt_aload eG_marks_10 rfl ?_
  refine pt_get eG_marks_11 hSa rfl ?_
  refine pt_iload eG_marks_14 rfl ?_
  refine pt_iald eG_marks_15 hSt (by omega) (by omega) (by decide) ?_
  refine pt_iret eG_marks_16 (Nat.le_refl _) (Nat.le_refl _) ?_
  exact ⟨rfl, rfl, ev1⟩
theorem cSu_marks_9 (G : pd_G) (sz : Nat) (hp : pd_P) {a s h : Nat} {t g : Int} {σ wo : Int → Int} (ha : hp a = ob 9 [vl t]) (hS : StA hp s σ) (has : a < s ∨ s + 4 ≤ a) (hg0 : 0 ≤ g) (hg1 : g < 4) {gd ev bk : Int} (hH : hp h = HO h gd ev bk) (hH4 : hp (h + 4) = ia 4 wo) (hah : a < h ∨ h + 8 ≤ a) : pd_c G mSu_marks 1 [vr a, vr h, vr s, vi g] sz hp (fun v' sz' hp' => v' = some (vi (σ (2 + g) + wo g)) ∧ sz' = sz ∧ hp' = va_up hp a (ob 9 [vl (t + 11)])) := by
  refine pd_con kSu_marks [some (vr a), some (vr h), some (vr s), some (vi g)] rfl rfl (Nat.le_of_ble_eq_true rfl) ?_
  obtain ⟨hSa, hSt, hSl, hSk⟩ := hS
  refine pt_aload eSu_marks_0 rfl ?_
  refine pt_dupr eSu_marks_1 ?_
  refine pt_get eSu_marks_2_9 ha rfl ?_
  refine pt_jc eSu_marks_5 ?_
  refine pt_ladd eSu_marks_8 ?_
  refine pt_put0 eSu_marks_9_9 ha trivial ?_
  refine pt_gen ?_
  intro hp1 ev1
  have ha := pg_s ev1
  have hSa := pg_n ev1 (by omega) hSa
  have hSt := pg_n ev1 (by omega) hSt
  have hSl := pg_n ev1 (by omega) hSl
  have hH := pg_n ev1 (by omega) hH
  have hH4 := pg_n ev1 (by omega) hH4
  have hSk9 := pg_n ev1 (by omega) hSk
  refine pt_aload eSu_marks_12 rfl ?_
  refine pt_aload eSu_marks_13 rfl ?_
  refine pt_aload eSu_marks_14 rfl ?_
  refine pt_iload eSu_marks_15 rfl ?_
  refine pt_kU3 eSu_marks_16 (cG_marks_9 G sz _ (t := t + 10) (wo := wo) ha ⟨hSa, hSt, hSl, hSk9⟩ has hg0 hg1 hH hH4 hah) ha rfl (Nat.le_of_ble_eq_true rfl) (by decide) (Nat.le_refl _) (Nat.le_refl _) ?_
  rintro v2 sz2 hpx ⟨rfl, hz9, hx9⟩
  obtain rfl := hz9.symm
  have ha := pg_s hx9
  have hSa := pg_n hx9 (by omega) hSa
  have hSt := pg_n hx9 (by omega) hSt
  have hSl := pg_n hx9 (by omega) hSl
  have hH := pg_n hx9 (by omega) hH
  have hH4 := pg_n hx9 (by omega) hH4
  refine pt_aload eSu_marks_19 rfl ?_
  refine pt_get eSu_marks_20 hH rfl ?_
  refine pt_iload eSu_marks_23 rfl ?_
  refine pt_iald eSu_marks_24 hH4 (by omega) (by omega) (by decide) ?_
  refine pt_iadd eSu_marks_25 ?_
  refine pt_iret eSu_marks_26 (Nat.le_refl _) (Nat.le_refl _) ?_
  exact ⟨rfl, rfl, by rw [hx9, ev1, bx_uu, show t + 10 + 1 = t + 11 by omega]⟩
theorem cSu_marks_1 (G : pd_G) (sz : Nat) (hp : pd_P) {a s h : Nat} {t g : Int} {σ wo : Int → Int} (ha : hp a = ob 1 [vl t]) (hS : StA hp s σ) (has : a < s ∨ s + 4 ≤ a) (hg0 : 0 ≤ g) (hg1 : g < 4) {gd ev bk : Int} (hH : hp h = HO h gd ev bk) (hH4 : hp (h + 4) = ia 4 wo) (hah : a < h ∨ h + 8 ≤ a) : pd_c G mSu_marks 1 [vr a, vr h, vr s, vi g] sz hp (fun v' sz' hp' => v' = some (vi (σ (2 + g) + wo g)) ∧ sz' = sz ∧ hp' = va_up hp a (ob 1 [vl (t + 11)])) := by
  refine pd_con kSu_marks [some (vr a), some (vr h), some (vr s), some (vi g)] rfl rfl (Nat.le_of_ble_eq_true rfl) ?_
  obtain ⟨hSa, hSt, hSl, hSk⟩ := hS
  refine pt_aload eSu_marks_0 rfl ?_
  refine pt_dupr eSu_marks_1 ?_
  refine pt_get eSu_marks_2_1 ha rfl ?_
  refine pt_jc eSu_marks_5 ?_
  refine pt_ladd eSu_marks_8 ?_
  refine pt_put0 eSu_marks_9_1 ha trivial ?_
  refine pt_gen ?_
  intro hp1 ev1
  have ha := pg_s ev1
  have hSa := pg_n ev1 (by omega) hSa
  have hSt := pg_n ev1 (by omega) hSt
  have hSl := pg_n ev1 (by omega) hSl
  have hH := pg_n ev1 (by omega) hH
  have hH4 := pg_n ev1 (by omega) hH4
  have hSk9 := pg_n ev1 (by omega) hSk
  refine pt_aload eSu_marks_12 rfl ?_
  refine pt_aload eSu_marks_13 rfl ?_
  refine pt_aload eSu_marks_14 rfl ?_
  refine pt_iload eSu_marks_15 rfl ?_
  refine pt_kU3 eSu_marks_16 (cG_marks_1 G sz _ (t := t + 10) (wo := wo) ha ⟨hSa, hSt, hSl, hSk9⟩ has hg0 hg1 hH hH4 hah) ha rfl (Nat.le_of_ble_eq_true rfl) (by decide) (Nat.le_refl _) (Nat.le_refl _) ?_
  rintro v2 sz2 hpx ⟨rfl, hz9, hx9⟩
  obtain rfl := hz9.symm
  have ha := pg_s hx9
  have hSa := pg_n hx9 (by omega) hSa
  have hSt := pg_n hx9 (by omega) hSt
  have hSl := pg_n hx9 (by omega) hSl
  have hH := pg_n hx9 (by omega) hH
  have hH4 := pg_n hx9 (by omega) hH4
  refine pt_aload eSu_marks_19 rfl ?_
  refine pt_get eSu_marks_20 hH rfl ?_
  refine pt_iload eSu_marks_23 rfl ?_
  refine pt_iald eSu_marks_24 hH4 (by omega) (by omega) (by decide) ?_
  refine pt_iadd eSu_marks_25 ?_
  refine pt_iret eSu_marks_26 (Nat.le_refl _) (Nat.le_refl _) ?_
  exact ⟨rfl, rfl, by rw [hx9, ev1, bx_uu, show t + 10 + 1 = t + 11 by omega]⟩
theorem cHa_marks_3 (G : pd_G) (sz : Nat) (hp : pd_P) {a s h : Nat} {t g : Int} {σ wo : Int → Int} (ha : hp a = ob 3 [vl t]) (hS : StA hp s σ) (has : a < s ∨ s + 4 ≤ a) (hg0 : 0 ≤ g) (hg1 : g < 4) {gd ev bk : Int} (hH : hp h = HO h gd ev bk) (hH4 : hp (h + 4) = ia 4 wo) (hah : a < h ∨ h + 8 ≤ a) : pd_c G mHa_marks 1 [vr a, vr h, vr s, vi g] sz hp (fun v' sz' hp' => v' = some (vi (σ (2 + g) - σ (6 + g))) ∧ sz' = sz ∧ hp' = va_up hp a (ob 3 [vl (t + 101)])) := by
  refine pd_con kHa_marks [some (vr a), some (vr h), some (vr s), some (vi g)] rfl rfl (Nat.le_of_ble_eq_true rfl) ?_
  obtain ⟨hSa, hSt, hSl, hSk⟩ := hS
  refine pt_aload eHa_marks_0 rfl ?_
  refine pt_dupr eHa_marks_1 ?_
  refine pt_get eHa_marks_2_3 ha rfl ?_
  refine pt_jc eHa_marks_5 ?_
  refine pt_ladd eHa_marks_8 ?_
  refine pt_put0 eHa_marks_9_3 ha trivial ?_
  refine pt_gen ?_
  intro hp1 ev1
  have ha := pg_s ev1
  have hSa := pg_n ev1 (by omega) hSa
  have hSt := pg_n ev1 (by omega) hSt
  have hSl := pg_n ev1 (by omega) hSl
  have hH := pg_n ev1 (by omega) hH
  have hH4 := pg_n ev1 (by omega) hH4
  have hSk9 := pg_n ev1 (by omega) hSk
  refine pt_aload eHa_marks_12 rfl ?_
  refine pt_aload eHa_marks_13 rfl ?_
  refine pt_aload eHa_marks_14 rfl ?_
  refine pt_iload eHa_marks_15 rfl ?_
  refine pt_kU3 eHa_marks_16 (cG_marks_3 G sz _ (t := t + 100) (wo := wo) ha ⟨hSa, hSt, hSl, hSk9⟩ has hg0 hg1 hH hH4 hah) ha rfl (Nat.le_of_ble_eq_true rfl) (by decide) (Nat.le_refl _) (Nat.le_refl _) ?_
  rintro v2 sz2 hpx ⟨rfl, hz9, hx9⟩
  obtain rfl := hz9.symm
  have ha := pg_s hx9
  have hSa := pg_n hx9 (by omega) hSa
  have hSt := pg_n hx9 (by omega) hSt
  have hSl := pg_n hx9 (by omega) hSl
  have hH := pg_n hx9 (by omega) hH
  have hH4 := pg_n hx9 (by omega) hH4
  refine pt_aload eHa_marks_19 rfl ?_
  refine pt_get eHa_marks_20 hSa rfl ?_
  refine pt_iload eHa_marks_23 rfl ?_
  refine pt_iald eHa_marks_24 hSl (by omega) (by omega) (by decide) ?_
  refine pt_isub eHa_marks_25 ?_
  refine pt_iret eHa_marks_26 (Nat.le_refl _) (Nat.le_refl _) ?_
  exact ⟨rfl, rfl, by rw [hx9, ev1, bx_uu, show t + 100 + 1 = t + 101 by omega]⟩
theorem cHa_marks_5 (G : pd_G) (sz : Nat) (hp : pd_P) {a s h : Nat} {t g : Int} {σ wo : Int → Int} (ha : hp a = ob 5 [vl t]) (hS : StA hp s σ) (has : a < s ∨ s + 4 ≤ a) (hg0 : 0 ≤ g) (hg1 : g < 4) {gd ev bk : Int} (hH : hp h = HO h gd ev bk) (hH4 : hp (h + 4) = ia 4 wo) (hah : a < h ∨ h + 8 ≤ a) : pd_c G mHa_marks 1 [vr a, vr h, vr s, vi g] sz hp (fun v' sz' hp' => v' = some (vi (σ (2 + g) - σ (6 + g))) ∧ sz' = sz ∧ hp' = va_up hp a (ob 5 [vl (t + 101)])) := by
  refine pd_con kHa_marks [some (vr a), some (vr h), some (vr s), some (vi g)] rfl rfl (Nat.le_of_ble_eq_true rfl) ?_
  obtain ⟨hSa, hSt, hSl, hSk⟩ := hS
  refine pt_aload eHa_marks_0 rfl ?_
  refine pt_dupr eHa_marks_1 ?_
  refine pt_get eHa_marks_2_5 ha rfl ?_
  refine pt_jc eHa_marks_5 ?_
  refine pt_ladd eHa_marks_8 ?_
  refine pt_put0 eHa_marks_9_5 ha trivial ?_
  refine pt_gen ?_
  intro hp1 ev1
  have ha := pg_s ev1
  have hSa := pg_n ev1 (by omega) hSa
  have hSt := pg_n ev1 (by omega) hSt
  have hSl := pg_n ev1 (by omega) hSl
  have hH := pg_n ev1 (by omega) hH
  have hH4 := pg_n ev1 (by omega) hH4
  have hSk9 := pg_n ev1 (by omega) hSk
  refine pt_aload eHa_marks_12 rfl ?_
  refine pt_aload eHa_marks_13 rfl ?_
  refine pt_aload eHa_marks_14 rfl ?_
  refine pt_iload eHa_marks_15 rfl ?_
  refine pt_kU3 eHa_marks_16 (cG_marks_5 G sz _ (t := t + 100) (wo := wo) ha ⟨hSa, hSt, hSl, hSk9⟩ has hg0 hg1 hH hH4 hah) ha rfl (Nat.le_of_ble_eq_true rfl) (by decide) (Nat.le_refl _) (Nat.le_refl _) ?_
  rintro v2 sz2 hpx ⟨rfl, hz9, hx9⟩
  obtain rfl := hz9.symm
  have ha := pg_s hx9
  have hSa := pg_n hx9 (by omega) hSa
  have hSt := pg_n hx9 (by omega) hSt
  have hSl := pg_n hx9 (by omega) hSl
  have hH := pg_n hx9 (by omega) hH
  have hH4 := pg_n hx9 (by omega) hH4
  refine pt_aload eHa_marks_19 rfl ?_
  refine pt_get eHa_marks_20 hSa rfl ?_
  refine pt_iload eHa_marks_23 rfl ?_
  refine pt_iald eHa_marks_24 hSl (by omega) (by omega) (by decide) ?_
  refine pt_isub eHa_marks_25 ?_
  refine pt_iret eHa_marks_26 (Nat.le_refl _) (Nat.le_refl _) ?_
  exact ⟨rfl, rfl, by rw [hx9, ev1, bx_uu, show t + 100 + 1 = t + 101 by omega]⟩
theorem cCa_marks_0 (G : pd_G) (sz : Nat) (hp : pd_P) {a s h : Nat} {t g : Int} {σ wo : Int → Int} (ha : hp a = ob 0 [vl t]) (hS : StA hp s σ) (has : a < s ∨ s + 4 ≤ a) (hg0 : 0 ≤ g) (hg1 : g < 4) {gd ev bk : Int} (hH : hp h = HO h gd ev bk) (hH4 : hp (h + 4) = ia 4 wo) (hah : a < h ∨ h + 8 ≤ a) : pd_c G mCa_marks 1 [vr a, vr h, vr s, vi g] sz hp (fun v' sz' hp' => v' = some (vi (σ (2 + g) + σ 0)) ∧ sz' = sz ∧ hp' = va_up hp a (ob 0 [vl (t + 100001)])) := by
  refine pd_con kCa_marks [some (vr a), some (vr h), some (vr s), some (vi g)] rfl rfl (Nat.le_of_ble_eq_true rfl) ?_
  obtain ⟨hSa, hSt, hSl, hSk⟩ := hS
  refine pt_aload eCa_marks_0 rfl ?_
  refine pt_dupr eCa_marks_1 ?_
  refine pt_get eCa_marks_2_0 ha rfl ?_
  refine pt_jc eCa_marks_5 ?_
  refine pt_ladd eCa_marks_8 ?_
  refine pt_put0 eCa_marks_9_0 ha trivial ?_
  refine pt_gen ?_
  intro hp1 ev1
  have ha := pg_s ev1
  have hSa := pg_n ev1 (by omega) hSa
  have hSt := pg_n ev1 (by omega) hSt
  have hSl := pg_n ev1 (by omega) hSl
  have hH := pg_n ev1 (by omega) hH
  have hH4 := pg_n ev1 (by omega) hH4
  have hSk9 := pg_n ev1 (by omega) hSk
  refine pt_aload eCa_marks_12 rfl ?_
  refine pt_aload eCa_marks_13 rfl ?_
  refine pt_aload eCa_marks_14 rfl ?_
  refine pt_iload eCa_marks_15 rfl ?_
  refine pt_kU3 eCa_marks_16 (cG_marks_0 G sz _ (t := t + 100000) (wo := wo) ha ⟨hSa, hSt, hSl, hSk9⟩ has hg0 hg1 hH hH4 hah) ha rfl (Nat.le_of_ble_eq_true rfl) (by decide) (Nat.le_refl _) (Nat.le_refl _) ?_
  rintro v2 sz2 hpx ⟨rfl, hz9, hx9⟩
  obtain rfl := hz9.symm
  have ha := pg_s hx9
  have hSa := pg_n hx9 (by omega) hSa
  have hSt := pg_n hx9 (by omega) hSt
  have hSl := pg_n hx9 (by omega) hSl
  have hH := pg_n hx9 (by omega) hH
  have hH4 := pg_n hx9 (by omega) hH4
  refine pt_aload eCa_marks_19 rfl ?_
  refine pt_get eCa_marks_20 hSa rfl ?_
  refine pt_iadd eCa_marks_23 ?_
  refine pt_iret eCa_marks_24 (Nat.le_refl _) (Nat.le_refl _) ?_
  exact ⟨rfl, rfl, by rw [hx9, ev1, bx_uu, show t + 100000 + 1 = t + 100001 by omega]⟩
theorem cCo_marks_1 (G : pd_G) (sz : Nat) (hp : pd_P) {a s h : Nat} {t g : Int} {σ wo : Int → Int} (ha : hp a = ob 1 [vl t]) (hS : StA hp s σ) (has : a < s ∨ s + 4 ≤ a) (hg0 : 0 ≤ g) (hg1 : g < 4) {gd ev bk : Int} (hH : hp h = HO h gd ev bk) (hH4 : hp (h + 4) = ia 4 wo) (hah : a < h ∨ h + 8 ≤ a) : pd_c G mCo_marks 2 [vr a, vr h, vr s, vi g] sz hp (fun v' sz' hp' => v' = some (vi ((σ (2 + g) + wo g) * 2)) ∧ sz' = sz ∧ hp' = va_up hp a (ob 1 [vl (t + 1011)])) := by
  refine pd_con kCo_marks [some (vr a), some (vr h), some (vr s), some (vi g)] rfl rfl (Nat.le_of_ble_eq_true rfl) ?_
  obtain ⟨hSa, hSt, hSl, hSk⟩ := hS
  refine pt_aload eCo_marks_0 rfl ?_
  refine pt_dupr eCo_marks_1 ?_
  refine pt_get eCo_marks_2_1 ha rfl ?_
  refine pt_jc eCo_marks_5 ?_
  refine pt_ladd eCo_marks_8 ?_
  refine pt_put0 eCo_marks_9_1 ha trivial ?_
  refine pt_gen ?_
  intro hp1 ev1
  have ha := pg_s ev1
  have hSa := pg_n ev1 (by omega) hSa
  have hSt := pg_n ev1 (by omega) hSt
  have hSl := pg_n ev1 (by omega) hSl
  have hH := pg_n ev1 (by omega) hH
  have hH4 := pg_n ev1 (by omega) hH4
  have hSk9 := pg_n ev1 (by omega) hSk
  refine pt_aload eCo_marks_12 rfl ?_
  refine pt_aload eCo_marks_13 rfl ?_
  refine pt_aload eCo_marks_14 rfl ?_
  refine pt_iload eCo_marks_15 rfl ?_
  refine pt_kU3 eCo_marks_16 (cSu_marks_1 G sz _ (t := t + 1000) (wo := wo) ha ⟨hSa, hSt, hSl, hSk9⟩ has hg0 hg1 hH hH4 hah) ha rfl (Nat.le_of_ble_eq_true rfl) (by decide) (Nat.le_refl _) (Nat.le_refl _) ?_
  rintro v2 sz2 hpx ⟨rfl, hz9, hx9⟩
  obtain rfl := hz9.symm
  have ha := pg_s hx9
  have hSa := pg_n hx9 (by omega) hSa
  have hSt := pg_n hx9 (by omega) hSt
  have hSl := pg_n hx9 (by omega) hSl
  have hH := pg_n hx9 (by omega) hH
  have hH4 := pg_n hx9 (by omega) hH4
  refine pt_ic eCo_marks_19 ?_
  refine pt_imul eCo_marks_20 ?_
  refine pt_iret eCo_marks_21 (Nat.le_refl _) (Nat.le_refl _) ?_
  exact ⟨rfl, rfl, by rw [hx9, ev1, bx_uu, show t + 1000 + 11 = t + 1011 by omega]⟩
theorem cJe_marks_5 (G : pd_G) (sz : Nat) (hp : pd_P) {a s h : Nat} {t g : Int} {σ wo : Int → Int} (ha : hp a = ob 5 [vl t]) (hS : StA hp s σ) (has : a < s ∨ s + 4 ≤ a) (hg0 : 0 ≤ g) (hg1 : g < 4) {gd ev bk : Int} (hH : hp h = HO h gd ev bk) (hH4 : hp (h + 4) = ia 4 wo) (hah : a < h ∨ h + 8 ≤ a) : pd_c G mJe_marks 2 [vr a, vr h, vr s, vi g] sz hp (fun v' sz' hp' => v' = some (vi (σ (2 + g) - σ (6 + g) + g)) ∧ sz' = sz ∧ hp' = va_up hp a (ob 5 [vl (t + 10101)])) := by
  refine pd_con kJe_marks [some (vr a), some (vr h), some (vr s), some (vi g)] rfl rfl (Nat.le_of_ble_eq_true rfl) ?_
  obtain ⟨hSa, hSt, hSl, hSk⟩ := hS
  refine pt_aload eJe_marks_0 rfl ?_
  refine pt_dupr eJe_marks_1 ?_
  refine pt_get eJe_marks_2_5 ha rfl ?_
  refine pt_jc eJe_marks_5 ?_
  refine pt_ladd eJe_marks_8 ?_
  refine pt_put0 eJe_marks_9_5 ha trivial ?_
  refine pt_gen ?_
  intro hp1 ev1
  have ha := pg_s ev1
  have hSa := pg_n ev1 (by omega) hSa
  have hSt := pg_n ev1 (by omega) hSt
  have hSl := pg_n ev1 (by omega) hSl
  have hH := pg_n ev1 (by omega) hH
  have hH4 := pg_n ev1 (by omega) hH4
  have hSk9 := pg_n ev1 (by omega) hSk
  refine pt_aload eJe_marks_12 rfl ?_
  refine pt_aload eJe_marks_13 rfl ?_
  refine pt_aload eJe_marks_14 rfl ?_
  refine pt_iload eJe_marks_15 rfl ?_
  refine pt_kU3 eJe_marks_16 (cHa_marks_5 G sz _ (t := t + 10000) (wo := wo) ha ⟨hSa, hSt, hSl, hSk9⟩ has hg0 hg1 hH hH4 hah) ha rfl (Nat.le_of_ble_eq_true rfl) (by decide) (Nat.le_refl _) (Nat.le_refl _) ?_
  rintro v2 sz2 hpx ⟨rfl, hz9, hx9⟩
  obtain rfl := hz9.symm
  have ha := pg_s hx9
  have hSa := pg_n hx9 (by omega) hSa
  have hSt := pg_n hx9 (by omega) hSt
  have hSl := pg_n hx9 (by omega) hSl
  have hH := pg_n hx9 (by omega) hH
  have hH4 := pg_n hx9 (by omega) hH4
  refine pt_iload eJe_marks_19 rfl ?_
  refine pt_iadd eJe_marks_20 ?_
  refine pt_iret eJe_marks_21 (Nat.le_refl _) (Nat.le_refl _) ?_
  exact ⟨rfl, rfl, by rw [hx9, ev1, bx_uu, show t + 10000 + 101 = t + 10101 by omega]⟩
