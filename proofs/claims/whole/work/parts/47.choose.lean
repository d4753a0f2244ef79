/-! choosing -/
theorem sm_congr {f f1 : Int → Int} : ∀ n : Nat, (∀ g : Nat, g < n → f g = f1 g) → sm f n = sm f1 n
  | 0, _ => rfl
  | n + 1, h => by rw [sm, sm, sm_congr n (fun g hg => h g (by omega)), h n (by omega)]
theorem fdg_lo {a m y e : Nat} (h : e < m) : fdg (a * 5 ^ m + y) e = fdg y e := by
  have e1 : (a * 5 ^ m + y) / 5 ^ e % 5 = y / 5 ^ e % 5 := by
    obtain ⟨k, rfl⟩ : ∃ k, m = e + 1 + k := ⟨m - (e + 1), by omega⟩
    rw [show a * 5 ^ (e + 1 + k) = 5 ^ e * (5 * (a * 5 ^ k)) by rw [Nat.pow_add, Nat.pow_succ, Nat.mul_left_comm, Nat.mul_assoc], Nat.mul_add_div (p5_pos e), Nat.mul_add_mod]
  unfold fdg
  rw [e1]
theorem fdg_hi {a m y : Nat} (ha : a < 5) (hy : y < 5 ^ m) : fdg (a * 5 ^ m + y) m = if a = 0 then -9 else (a : Int) - 1 := by
  have e1 : (a * 5 ^ m + y) / 5 ^ m % 5 = a := by
    rw [Nat.mul_comm, Nat.mul_add_div (p5_pos m), Nat.div_eq_of_lt hy, Nat.add_zero, Nat.mod_eq_of_lt ha]
  unfold fdg
  rw [e1]
theorem dn_up {nf : Int → Int} {gd c : Int} : blk (blk nf (fun x => 2 * nf x + (if x = c then 1 else 0)) 0 gd) (fun x => blk nf (fun x => 2 * nf x + (if x = c then 1 else 0)) 0 gd x / 2) 0 gd = nf := by
  funext x
  by_cases h : 0 ≤ x ∧ x < gd
  · rw [blk_in h.1 (by omega), show x - 0 = x by omega, blk_in h.1 (by omega), show x - 0 = x by omega]
    split <;> omega
  · rw [blk_out (by omega), blk_out (by omega)]
theorem cP_choose_0 (G : pd_G) (sz : Nat) (hp : pd_P) {gd : Int} {N : NX} {T wf nf cf s : Int → Int} {L l : Nat} {t : Int} (hP : hp 58 = PO (L : Int) gd) (hCh : hp 59 = ia 6 cf) (hWa : hp 61 = ia 512 wf) (hNo : hp 62 = ia 4 nf) (ig0 : 0 ≤ gd) (ig4 : gd ≤ 4) (hL6 : L ≤ 6) (hLl : L = l + 0) (hwf : ∀ (g : Int) (l x : Nat), 0 ≤ g → g < gd → l ≤ L → 2 ^ l ≤ x → x < 2 ^ (l + 1) → wf (128 * g + (x : Int)) = wn N g (L - l) l (tn N g (T g) l x)) (hnf : ∀ g : Int, 0 ≤ g → g < gd → ∃ x : Nat, nf g = (x : Int) ∧ 2 ^ l ≤ x ∧ x < 2 ^ (l + 1) ∧ s g = tn N g (T g) l x) (ht0 : -1 ≤ t) (ht6 : t ≤ 6) : pd_c G mP_choose 1 [vr 58, vi (l : Int), vi t] sz hp (fun v' sz' hp' => v' = some (vi (if lfc N gd 0 l s t < 5 ^ 0 then 1 else 0)) ∧ sz' = sz ∧ ∃ cf' : Int → Int, hp' = va_up hp 59 (ia 6 cf') ∧ (lfc N gd 0 l s t < 5 ^ 0 → ∀ j : Nat, j < 0 → cf' ((l + j : Nat) : Int) = fdg (lfc N gd 0 l s t) (0 - 1 - j))) := by
  refine pd_con kP_choose [some (vr 58), some (vi (l : Int)), some (vi t), none, none] rfl rfl (Nat.le_of_ble_eq_true rfl) ?_
  have hp7 := p2_le (show l + 1 ≤ 7 by omega)
  have hnb : ∀ g, 0 ≤ g → g < gd → 0 ≤ nf g ∧ nf g < 128 := fun g k0 k1 => by
    obtain ⟨x, x0, x1, x2, x3⟩ := hnf g k0 k1
    omega
  have hsm : sm (fun g => wf (128 * g + nf g)) gd.toNat = aw N 0 l s gd.toNat := by
    refine sm_congr _ (fun g hg => ?_)
    obtain ⟨x, x0, x1, x2, x3⟩ := hnf g (by omega) (by omega)
    show wf (128 * (g : Int) + nf g) = wn N g 0 l (s g)
    rw [x0, hwf g l x (by omega) (by omega) (by omega) x1 x2, x3, show L - l = 0 by omega]
  have hab := aw_b (N := N) (m := 0) (l := (l : Int)) (s := s) gd.toNat
  refine pt_aload eP_choose_0 rfl ?_
  refine pt_kv0r eP_choose_1 (cP_allWanted G sz _ hP hWa hNo ig0 ig4 hnb) hP rfl (Nat.le_of_ble_eq_true rfl) (by decide) (Nat.le_refl _) (Nat.le_refl _) ?_
  rw [hsm]
  refine pt_iload eP_choose_4 rfl ?_
  refine pt_cle eP_choose_5 ⟨by omega, by omega⟩ ⟨by omega, by omega⟩ (fun c5 => ?_) (fun c5 => ?_)
  · refine pt_iload eP_choose_10 rfl ?_
    refine pt_aload eP_choose_11 rfl ?_
    refine pt_get eP_choose_12 hP rfl ?_
    refine pt_clt eP_choose_15 ⟨by omega, by omega⟩ ⟨by omega, by omega⟩ (fun c15 => ?_) (fun c15 => ?_)
    · exfalso; omega
    · refine pt_ic eP_choose_18 ?_
      refine pt_iret (eP_choose_19 (by omega)) (Nat.le_refl _) (Nat.le_refl _) ?_
      have h9 := lfc_end (l := (l : Int)) (s := s) ig0 ht6 (show ¬ t < aw N 0 l s gd.toNat by omega)
      exact ⟨by rw [h9]; rfl, rfl, cf, pu_self hCh, fun h j hj => absurd hj (by omega)⟩
  · refine pt_ic eP_choose_8 ?_
    refine pt_iret (eP_choose_9 (by omega)) (Nat.le_refl _) (Nat.le_refl _) ?_
    have h9 := lfc_aw (m := 0) (l := (l : Int)) (s := s) ig0 (show t < aw N 0 l s gd.toNat by omega)
    exact ⟨by rw [if_neg (by omega)], rfl, cf, pu_self hCh, fun h j hj => absurd hj (by omega)⟩
theorem lP_ch_1 (G : pd_G) (sz : Nat) (hp : pd_P) {gd : Int} {N : NX} {T wf nf cf s : Int → Int} {L l : Nat} {t : Int} (hP : hp 58 = PO (L : Int) gd) (hCh : hp 59 = ia 6 cf) (hWa : hp 61 = ia 512 wf) (hNo : hp 62 = ia 4 nf) (ig0 : 0 ≤ gd) (ig4 : gd ≤ 4) (hL6 : L ≤ 6) (hLl : L = l + 1) (hwf : ∀ (g : Int) (l x : Nat), 0 ≤ g → g < gd → l ≤ L → 2 ^ l ≤ x → x < 2 ^ (l + 1) → wf (128 * g + (x : Int)) = wn N g (L - l) l (tn N g (T g) l x)) (hnf : ∀ g : Int, 0 ≤ g → g < gd → ∃ x : Nat, nf g = (x : Int) ∧ 2 ^ l ≤ x ∧ x < 2 ^ (l + 1) ∧ s g = tn N g (T g) l x) (ht0 : -1 ≤ t) (ht6 : t ≤ 6) (ht00 : 0 ≤ t) : ∀ (n : Nat) (c : Int) (cf : Int → Int) (l4 : Option pv) (hp0 : pd_P), c + n = gd → -1 ≤ c → hp0 = va_up hp 59 (ia 6 cf) → (∀ c1, -1 ≤ c1 → c1 < c → lfc N gd 0 ((l + 1 : Nat) : Int) (nxs N l s c1) (t - cst c1) = 5 ^ 0) → pd_t G mP_choose 2 (fun v' sz' hp' => v' = some (vi (if lfc N gd 1 l s t < 5 ^ 1 then 1 else 0)) ∧ sz' = sz ∧ ∃ cf' : Int → Int, hp' = va_up hp 59 (ia 6 cf') ∧ (lfc N gd 1 l s t < 5 ^ 1 → ∀ j : Nat, j < 1 → cf' ((l + j : Nat) : Int) = fdg (lfc N gd 1 l s t) (1 - 1 - j))) 22 [some (vr 58), some (vi (l : Int)), some (vi t), some (vi c), l4] [] sz hp0 := by
  intro n
  induction n with
  | zero =>
    intro c cf l4 hp0 hcE hc0 he0 hbef
    have hce : c = gd := by omega
    have hP := pg_n he0 (by decide) hP
    have h9 : lfc N gd 1 l s t = 5 ^ 1 := lfc_fail (m := 0) (l := (l : Int)) (s := s) (t := t) ig4 (fun c1 k1 k2 => hbef c1 k1 (by omega))
    refine pt_iload eP_choose_22 rfl ?_
    refine pt_aload eP_choose_23 rfl ?_
    refine pt_get eP_choose_24 hP rfl ?_
    refine pt_cge eP_choose_27 ⟨by omega, by omega⟩ ⟨by omega, by omega⟩ (fun c27 => ?_) (fun c27 => ?_)
    · refine pt_ic eP_choose_88 ?_
      refine pt_iret (eP_choose_89 (by omega)) (Nat.le_refl _) (Nat.le_refl _) ?_
      exact ⟨by rw [if_neg (by omega)], rfl, cf, he0, fun h => absurd h (by omega)⟩
    · exfalso; omega
  | succ n ih =>
    intro c cf l4 hp0 hcE hc0 he0 hbef
    have hP := pg_n he0 (by decide) hP
    have hCh := pg_s he0
    have hWa := pg_n he0 (by decide) hWa
    have hNo := pg_n he0 (by decide) hNo
    refine pt_iload eP_choose_22 rfl ?_
    refine pt_aload eP_choose_23 rfl ?_
    refine pt_get eP_choose_24 hP rfl ?_
    refine pt_cge eP_choose_27 ⟨by omega, by omega⟩ ⟨by omega, by omega⟩ (fun c27 => ?_) (fun c27 => ?_)
    · exfalso; omega
    · have hcg : c < gd := by omega
      have hNo0 := hNo
      refine pt_aload eP_choose_30 rfl ?_
      refine pt_iload eP_choose_31 rfl ?_
      refine pt_kv1 eP_choose_32 (cP_descend G sz _ hP hNo ig0 ig4 hc0 (by omega)) hP rfl (Nat.le_of_ble_eq_true rfl) (by decide) (Nat.le_refl _) (Nat.le_refl _) ?_
      rintro v2 sz2 hpx ⟨rfl, hz9, hx9⟩
      obtain rfl := hz9.symm
      have hP := pg_n hx9 (by decide) hP
      have hCh := pg_n hx9 (by decide) hCh
      have hWa := pg_n hx9 (by decide) hWa
      have hNo := pg_s hx9
      have hnf2 : ∀ g : Int, 0 ≤ g → g < gd → ∃ x : Nat, blk nf (fun x => 2 * nf x + (if x = c then 1 else 0)) 0 gd g = (x : Int) ∧ 2 ^ (l + 1) ≤ x ∧ x < 2 ^ (l + 1 + 1) ∧ nxs N l s c g = tn N g (T g) (l + 1) x := fun g k0 k1 => by
        obtain ⟨x, x0, x1, x2, x3⟩ := hnf g k0 k1
        have q1 := p2_s l
        have q2 := p2_s (l + 1)
        have hN9 : nxs N l s c g = N l g (if g = c then 1 else 0) (s g) := rfl
        rw [blk_in k0 (by omega), show g - 0 = g by omega, x0, hN9]
        by_cases hgc : g = c
        · rw [if_pos hgc]
          exact ⟨2 * x + 1, by omega, by omega, by omega, by rw [tn_1, ← x3]⟩
        · rw [if_neg hgc]
          exact ⟨2 * x, by omega, by omega, by omega, by rw [tn_0, ← x3]⟩
      have hnb2 : ∀ g, 0 ≤ g → g < gd → 0 ≤ blk nf (fun x => 2 * nf x + (if x = c then 1 else 0)) 0 gd g ∧ blk nf (fun x => 2 * nf x + (if x = c then 1 else 0)) 0 gd g < 1000 := fun g k0 k1 => by
        have hp8 := p2_le (show l + 1 + 1 ≤ 8 by omega)
        obtain ⟨x, x0, x1, x2, x3⟩ := hnf2 g k0 k1
        omega
      have hcb := cst_b c
      refine pt_aload eP_choose_35 rfl ?_
      refine pt_iload eP_choose_36 rfl ?_
      refine pt_ic eP_choose_37 ?_
      refine pt_iadd eP_choose_38 ?_
      refine pt_iload eP_choose_39 rfl ?_
      refine pt_zge eP_choose_40 ⟨by omega, by omega⟩ (fun c40 => ?_) (fun c40 => ?_)
      · refine pt_iload eP_choose_47 rfl ?_
        refine pt_ic eP_choose_48 ?_
        refine pt_isub eP_choose_49 ?_
        refine pt_ste (st2 := [vi (t - cst c), vi ((l + 1 : Nat) : Int), vr 58]) (by unfold cst; first | (rw [if_pos (by omega), Int.sub_zero]; rfl) | (rw [if_neg (by omega)]; rfl)) ?_
        refine pt_ks3 eP_choose_50 (cP_choose_0 G sz _ (s := nxs N l s c) (l := l + 1) hP hCh hWa hNo ig0 ig4 hL6 (by omega) hwf hnf2 (by omega) (by omega)) (Nat.le_of_ble_eq_true rfl) (by decide) (Nat.le_refl _) (Nat.le_refl _) ?_
        rintro v2 sz2 hpy ⟨rfl, hz9, cf9, hy9, hc9⟩
        obtain rfl := hz9.symm
        have hP := pg_n hy9 (by decide) hP
        have hCh := pg_s hy9
        have hWa := pg_n hy9 (by decide) hWa
        have hNo := pg_n hy9 (by decide) hNo
        refine pt_istore4 eP_choose_53 rfl ?_
        refine pt_aload eP_choose_55 rfl ?_
        refine pt_kv0 eP_choose_56 (cP_ascend G sz _ hP hNo ig0 ig4 hnb2) hP rfl (Nat.le_of_ble_eq_true rfl) (by decide) (Nat.le_refl _) (Nat.le_refl _) ?_
        rintro v2 sz2 hpz ⟨rfl, hz9, hz8⟩
        obtain rfl := hz9.symm
        have hP := pg_n hz8 (by decide) hP
        have hCh := pg_n hz8 (by decide) hCh
        have hWa := pg_n hz8 (by decide) hWa
        have hNo := pg_s hz8
        have hww : hpz = va_up hp 59 (ia 6 cf9) := by
          rw [hz8, hy9, hx9, bx_3 (by decide), dn_up, ← pu_self hNo0, he0, bx_uu]
        refine pt_iload eP_choose_59 rfl ?_
        refine pt_zeq eP_choose_61 ⟨by split <;> omega, by split <;> omega⟩ (fun c61 => ?_) (fun c61 => ?_)
        · refine pt_inc3 eP_choose_82 rfl ?_
          refine pt_goto eP_choose_85 ?_
          have hge : lfc N gd 0 ((l + 1 : Nat) : Int) (nxs N l s c) (t - cst c) = 5 ^ 0 := by
            have hle := lfc_le (N := N) (gd := gd) (m := 0) (l := ((l + 1 : Nat) : Int)) (s := nxs N l s c) (t := t - cst c)
            rcases (show lfc N gd 0 ((l + 1 : Nat) : Int) (nxs N l s c) (t - cst c) < 5 ^ 0 ∨ lfc N gd 0 ((l + 1 : Nat) : Int) (nxs N l s c) (t - cst c) = 5 ^ 0 by omega) with h9 | h9
            · rw [if_pos h9] at c61; omega
            · exact h9
          exact ih (c + 1) cf9 _ hpz (by omega) (by omega) hww (fun c1 k1 k2 => by
            by_cases hcc : c1 = c
            · rw [hcc]; exact hge
            · exact hbef c1 k1 (by omega))
        · refine pt_aload eP_choose_64 rfl ?_
          refine pt_get eP_choose_65 hP rfl ?_
          refine pt_iload eP_choose_68 rfl ?_
          refine pt_iload eP_choose_69 rfl ?_
          refine pt_zge eP_choose_70 ⟨by omega, by omega⟩ (fun c70 => ?_) (fun c70 => ?_)
          · refine pt_iload eP_choose_78 rfl ?_
            refine pt_iast eP_choose_79 hCh (by omega) (by omega) (by decide) ?_
            refine pt_gen ?_
            intro hp4 ev4
            have hP := pg_n ev4 (by omega) hP
            have hCh := pg_s ev4
            have hWa := pg_n ev4 (by omega) hWa
            have hNo := pg_n ev4 (by omega) hNo
            refine pt_ic eP_choose_80 ?_
            refine pt_iret (eP_choose_81 (by omega)) (Nat.le_refl _) (Nat.le_refl _) ?_
            have hlt : lfc N gd 0 ((l + 1 : Nat) : Int) (nxs N l s c) (t - cst c) < 5 ^ 0 := by
              by_cases h9 : lfc N gd 0 ((l + 1 : Nat) : Int) (nxs N l s c) (t - cst c) < 5 ^ 0
              · exact h9
              · rw [if_neg h9] at c61; omega
            have hst : lfc N gd 1 l s t = (c + 1).toNat * 5 ^ 0 + lfc N gd 0 ((l + 1 : Nat) : Int) (nxs N l s c) (t - cst c) := lfc_step (m := 0) (l := (l : Int)) (s := s) (t := t) hc0 hcg ig4 hbef hlt
            have hc5 : (c + 1).toNat * 5 ^ 0 + 5 ^ 0 ≤ 5 ^ 1 := by
              have := Nat.mul_le_mul_right (5 ^ 0) (show (c + 1).toNat + 1 ≤ 5 by omega)
              rw [Nat.add_mul, Nat.one_mul] at this
              exact Nat.le_trans this (by decide)
            have hlt2 : lfc N gd 1 l s t < 5 ^ 1 := by rw [hst]; omega
            refine ⟨by rw [if_pos hlt2], rfl, _, by rw [ev4, hww, bx_uu], fun _ j hj => ?_⟩
            rw [hst]
            rcases (show j = 0 ∨ 1 ≤ j by omega) with hj0 | hj0
            · rw [hj0, Nat.add_zero, uI_s, show 1 - 1 - 0 = 0 from rfl, fdg_hi (by omega) hlt]
              first
              | (exfalso; omega)
              | (rw [if_pos (by omega)])
              | (rw [if_neg (by omega)]; omega)
            · rw [uI_n _ _ (by omega), fdg_lo (by omega)]
              have h8 := hc9 hlt (j - 1) (by omega)
              rw [show ((l + 1 + (j - 1) : Nat) : Int) = ((l + j : Nat) : Int) by omega, show 0 - 1 - (j - 1) = 1 - 1 - j by omega] at h8
              exact h8
          · refine pt_ic eP_choose_73 ?_
            refine pt_goto eP_choose_75 ?_
            refine pt_iast eP_choose_79 hCh (by omega) (by omega) (by decide) ?_
            refine pt_gen ?_
            intro hp5 ev5
            have hP := pg_n ev5 (by omega) hP
            have hCh := pg_s ev5
            have hWa := pg_n ev5 (by omega) hWa
            have hNo := pg_n ev5 (by omega) hNo
            refine pt_ic eP_choose_80 ?_
            refine pt_iret (eP_choose_81 (by omega)) (Nat.le_refl _) (Nat.le_refl _) ?_
            have hlt : lfc N gd 0 ((l + 1 : Nat) : Int) (nxs N l s c) (t - cst c) < 5 ^ 0 := by
              by_cases h9 : lfc N gd 0 ((l + 1 : Nat) : Int) (nxs N l s c) (t - cst c) < 5 ^ 0
              · exact h9
              · rw [if_neg h9] at c61; omega
            have hst : lfc N gd 1 l s t = (c + 1).toNat * 5 ^ 0 + lfc N gd 0 ((l + 1 : Nat) : Int) (nxs N l s c) (t - cst c) := lfc_step (m := 0) (l := (l : Int)) (s := s) (t := t) hc0 hcg ig4 hbef hlt
            have hc5 : (c + 1).toNat * 5 ^ 0 + 5 ^ 0 ≤ 5 ^ 1 := by
              have := Nat.mul_le_mul_right (5 ^ 0) (show (c + 1).toNat + 1 ≤ 5 by omega)
              rw [Nat.add_mul, Nat.one_mul] at this
              exact Nat.le_trans this (by decide)
            have hlt2 : lfc N gd 1 l s t < 5 ^ 1 := by rw [hst]; omega
            refine ⟨by rw [if_pos hlt2], rfl, _, by rw [ev5, hww, bx_uu], fun _ j hj => ?_⟩
            rw [hst]
            rcases (show j = 0 ∨ 1 ≤ j by omega) with hj0 | hj0
            · rw [hj0, Nat.add_zero, uI_s, show 1 - 1 - 0 = 0 from rfl, fdg_hi (by omega) hlt]
              first
              | (exfalso; omega)
              | (rw [if_pos (by omega)])
              | (rw [if_neg (by omega)]; omega)
            · rw [uI_n _ _ (by omega), fdg_lo (by omega)]
              have h8 := hc9 hlt (j - 1) (by omega)
              rw [show ((l + 1 + (j - 1) : Nat) : Int) = ((l + j : Nat) : Int) by omega, show 0 - 1 - (j - 1) = 1 - 1 - j by omega] at h8
              exact h8
      · refine pt_iload eP_choose_43 rfl ?_
        refine pt_goto eP_choose_44 ?_
        refine pt_ste (st2 := [vi (t - cst c), vi ((l + 1 : Nat) : Int), vr 58]) (by unfold cst; first | (rw [if_pos (by omega), Int.sub_zero]; rfl) | (rw [if_neg (by omega)]; rfl)) ?_
        refine pt_ks3 eP_choose_50 (cP_choose_0 G sz _ (s := nxs N l s c) (l := l + 1) hP hCh hWa hNo ig0 ig4 hL6 (by omega) hwf hnf2 (by omega) (by omega)) (Nat.le_of_ble_eq_true rfl) (by decide) (Nat.le_refl _) (Nat.le_refl _) ?_
        rintro v2 sz2 hpy ⟨rfl, hz9, cf9, hy9, hc9⟩
        obtain rfl := hz9.symm
        have hP := pg_n hy9 (by decide) hP
        have hCh := pg_s hy9
        have hWa := pg_n hy9 (by decide) hWa
        have hNo := pg_n hy9 (by decide) hNo
        refine pt_istore4 eP_choose_53 rfl ?_
        refine pt_aload eP_choose_55 rfl ?_
        refine pt_kv0 eP_choose_56 (cP_ascend G sz _ hP hNo ig0 ig4 hnb2) hP rfl (Nat.le_of_ble_eq_true rfl) (by decide) (Nat.le_refl _) (Nat.le_refl _) ?_
        rintro v2 sz2 hpz ⟨rfl, hz9, hz8⟩
        obtain rfl := hz9.symm
        have hP := pg_n hz8 (by decide) hP
        have hCh := pg_n hz8 (by decide) hCh
        have hWa := pg_n hz8 (by decide) hWa
        have hNo := pg_s hz8
        have hww : hpz = va_up hp 59 (ia 6 cf9) := by
          rw [hz8, hy9, hx9, bx_3 (by decide), dn_up, ← pu_self hNo0, he0, bx_uu]
        refine pt_iload eP_choose_59 rfl ?_
        refine pt_zeq eP_choose_61 ⟨by split <;> omega, by split <;> omega⟩ (fun c61 => ?_) (fun c61 => ?_)
        · refine pt_inc3 eP_choose_82 rfl ?_
          refine pt_goto eP_choose_85 ?_
          have hge : lfc N gd 0 ((l + 1 : Nat) : Int) (nxs N l s c) (t - cst c) = 5 ^ 0 := by
            have hle := lfc_le (N := N) (gd := gd) (m := 0) (l := ((l + 1 : Nat) : Int)) (s := nxs N l s c) (t := t - cst c)
            rcases (show lfc N gd 0 ((l + 1 : Nat) : Int) (nxs N l s c) (t - cst c) < 5 ^ 0 ∨ lfc N gd 0 ((l + 1 : Nat) : Int) (nxs N l s c) (t - cst c) = 5 ^ 0 by omega) with h9 | h9
            · rw [if_pos h9] at c61; omega
            · exact h9
          exact ih (c + 1) cf9 _ hpz (by omega) (by omega) hww (fun c1 k1 k2 => by
            by_cases hcc : c1 = c
            · rw [hcc]; exact hge
            · exact hbef c1 k1 (by omega))
        · refine pt_aload eP_choose_64 rfl ?_
          refine pt_get eP_choose_65 hP rfl ?_
          refine pt_iload eP_choose_68 rfl ?_
          refine pt_iload eP_choose_69 rfl ?_
          refine pt_zge eP_choose_70 ⟨by omega, by omega⟩ (fun c70 => ?_) (fun c70 => ?_)
          · refine pt_iload eP_choose_78 rfl ?_
            refine pt_iast eP_choose_79 hCh (by omega) (by omega) (by decide) ?_
            refine pt_gen ?_
            intro hp8 ev8
            have hP := pg_n ev8 (by omega) hP
            have hCh := pg_s ev8
            have hWa := pg_n ev8 (by omega) hWa
            have hNo := pg_n ev8 (by omega) hNo
            refine pt_ic eP_choose_80 ?_
            refine pt_iret (eP_choose_81 (by omega)) (Nat.le_refl _) (Nat.le_refl _) ?_
            have hlt : lfc N gd 0 ((l + 1 : Nat) : Int) (nxs N l s c) (t - cst c) < 5 ^ 0 := by
              by_cases h9 : lfc N gd 0 ((l + 1 : Nat) : Int) (nxs N l s c) (t - cst c) < 5 ^ 0
              · exact h9
              · rw [if_neg h9] at c61; omega
            have hst : lfc N gd 1 l s t = (c + 1).toNat * 5 ^ 0 + lfc N gd 0 ((l + 1 : Nat) : Int) (nxs N l s c) (t - cst c) := lfc_step (m := 0) (l := (l : Int)) (s := s) (t := t) hc0 hcg ig4 hbef hlt
            have hc5 : (c + 1).toNat * 5 ^ 0 + 5 ^ 0 ≤ 5 ^ 1 := by
              have := Nat.mul_le_mul_right (5 ^ 0) (show (c + 1).toNat + 1 ≤ 5 by omega)
              rw [Nat.add_mul, Nat.one_mul] at this
              exact Nat.le_trans this (by decide)
            have hlt2 : lfc N gd 1 l s t < 5 ^ 1 := by rw [hst]; omega
            refine ⟨by rw [if_pos hlt2], rfl, _, by rw [ev8, hww, bx_uu], fun _ j hj => ?_⟩
            rw [hst]
            rcases (show j = 0 ∨ 1 ≤ j by omega) with hj0 | hj0
            · rw [hj0, Nat.add_zero, uI_s, show 1 - 1 - 0 = 0 from rfl, fdg_hi (by omega) hlt]
              first
              | (exfalso; omega)
              | (rw [if_pos (by omega)])
              | (rw [if_neg (by omega)]; omega)
            · rw [uI_n _ _ (by omega), fdg_lo (by omega)]
              have h8 := hc9 hlt (j - 1) (by omega)
              rw [show ((l + 1 + (j - 1) : Nat) : Int) = ((l + j : Nat) : Int) by omega, show 0 - 1 - (j - 1) = 1 - 1 - j by omega] at h8
              exact h8
          · refine pt_ic eP_choose_73 ?_
            refine pt_goto eP_choose_75 ?_
            refine pt_iast eP_choose_79 hCh (by omega) (by omega) (by decide) ?_
            refine pt_gen ?_
            intro hp9 ev9
            have hP := pg_n ev9 (by omega) hP
            have hCh := pg_s ev9
            have hWa := pg_n ev9 (by omega) hWa
            have hNo := pg_n ev9 (by omega) hNo
            refine pt_ic eP_choose_80 ?_
            refine pt_iret (eP_choose_81 (by omega)) (Nat.le_refl _) (Nat.le_refl _) ?_
            have hlt : lfc N gd 0 ((l + 1 : Nat) : Int) (nxs N l s c) (t - cst c) < 5 ^ 0 := by
              by_cases h9 : lfc N gd 0 ((l + 1 : Nat) : Int) (nxs N l s c) (t - cst c) < 5 ^ 0
              · exact h9
              · rw [if_neg h9] at c61; omega
            have hst : lfc N gd 1 l s t = (c + 1).toNat * 5 ^ 0 + lfc N gd 0 ((l + 1 : Nat) : Int) (nxs N l s c) (t - cst c) := lfc_step (m := 0) (l := (l : Int)) (s := s) (t := t) hc0 hcg ig4 hbef hlt
            have hc5 : (c + 1).toNat * 5 ^ 0 + 5 ^ 0 ≤ 5 ^ 1 := by
              have := Nat.mul_le_mul_right (5 ^ 0) (show (c + 1).toNat + 1 ≤ 5 by omega)
              rw [Nat.add_mul, Nat.one_mul] at this
              exact Nat.le_trans this (by decide)
            have hlt2 : lfc N gd 1 l s t < 5 ^ 1 := by rw [hst]; omega
            refine ⟨by rw [if_pos hlt2], rfl, _, by rw [ev9, hww, bx_uu], fun _ j hj => ?_⟩
            rw [hst]
            rcases (show j = 0 ∨ 1 ≤ j by omega) with hj0 | hj0
            · rw [hj0, Nat.add_zero, uI_s, show 1 - 1 - 0 = 0 from rfl, fdg_hi (by omega) hlt]
              first
              | (exfalso; omega)
              | (rw [if_pos (by omega)])
              | (rw [if_neg (by omega)]; omega)
            · rw [uI_n _ _ (by omega), fdg_lo (by omega)]
              have h8 := hc9 hlt (j - 1) (by omega)
              rw [show ((l + 1 + (j - 1) : Nat) : Int) = ((l + j : Nat) : Int) by omega, show 0 - 1 - (j - 1) = 1 - 1 - j by omega] at h8
              exact h8
theorem cP_choose_1 (G : pd_G) (sz : Nat) (hp : pd_P) {gd : Int} {N : NX} {T wf nf cf s : Int → Int} {L l : Nat} {t : Int} (hP : hp 58 = PO (L : Int) gd) (hCh : hp 59 = ia 6 cf) (hWa : hp 61 = ia 512 wf) (hNo : hp 62 = ia 4 nf) (ig0 : 0 ≤ gd) (ig4 : gd ≤ 4) (hL6 : L ≤ 6) (hLl : L = l + 1) (hwf : ∀ (g : Int) (l x : Nat), 0 ≤ g → g < gd → l ≤ L → 2 ^ l ≤ x → x < 2 ^ (l + 1) → wf (128 * g + (x : Int)) = wn N g (L - l) l (tn N g (T g) l x)) (hnf : ∀ g : Int, 0 ≤ g → g < gd → ∃ x : Nat, nf g = (x : Int) ∧ 2 ^ l ≤ x ∧ x < 2 ^ (l + 1) ∧ s g = tn N g (T g) l x) (ht0 : -1 ≤ t) (ht6 : t ≤ 6) : pd_c G mP_choose 2 [vr 58, vi (l : Int), vi t] sz hp (fun v' sz' hp' => v' = some (vi (if lfc N gd 1 l s t < 5 ^ 1 then 1 else 0)) ∧ sz' = sz ∧ ∃ cf' : Int → Int, hp' = va_up hp 59 (ia 6 cf') ∧ (lfc N gd 1 l s t < 5 ^ 1 → ∀ j : Nat, j < 1 → cf' ((l + j : Nat) : Int) = fdg (lfc N gd 1 l s t) (1 - 1 - j))) := by
  refine pd_con kP_choose [some (vr 58), some (vi (l : Int)), some (vi t), none, none] rfl rfl (Nat.le_of_ble_eq_true rfl) ?_
  have hp7 := p2_le (show l + 1 ≤ 7 by omega)
  have hnb : ∀ g, 0 ≤ g → g < gd → 0 ≤ nf g ∧ nf g < 128 := fun g k0 k1 => by
    obtain ⟨x, x0, x1, x2, x3⟩ := hnf g k0 k1
    omega
  have hsm : sm (fun g => wf (128 * g + nf g)) gd.toNat = aw N 1 l s gd.toNat := by
    refine sm_congr _ (fun g hg => ?_)
    obtain ⟨x, x0, x1, x2, x3⟩ := hnf g (by omega) (by omega)
    show wf (128 * (g : Int) + nf g) = wn N g 1 l (s g)
    rw [x0, hwf g l x (by omega) (by omega) (by omega) x1 x2, x3, show L - l = 1 by omega]
  have hab := aw_b (N := N) (m := 1) (l := (l : Int)) (s := s) gd.toNat
  refine pt_aload eP_choose_0 rfl ?_
  refine pt_kv0r eP_choose_1 (cP_allWanted G sz _ hP hWa hNo ig0 ig4 hnb) hP rfl (Nat.le_of_ble_eq_true rfl) (by decide) (Nat.le_refl _) (Nat.le_refl _) ?_
  rw [hsm]
  refine pt_iload eP_choose_4 rfl ?_
  refine pt_cle eP_choose_5 ⟨by omega, by omega⟩ ⟨by omega, by omega⟩ (fun c5 => ?_) (fun c5 => ?_)
  · refine pt_iload eP_choose_10 rfl ?_
    refine pt_aload eP_choose_11 rfl ?_
    refine pt_get eP_choose_12 hP rfl ?_
    refine pt_clt eP_choose_15 ⟨by omega, by omega⟩ ⟨by omega, by omega⟩ (fun c15 => ?_) (fun c15 => ?_)
    · refine pt_ic eP_choose_20 ?_
      refine pt_istore3 eP_choose_21 rfl ?_
      exact lP_ch_1 G sz hp hP hCh hWa hNo ig0 ig4 hL6 hLl hwf hnf ht0 ht6 (by omega) (gd + 1).toNat (-1) cf none hp (by omega) (by omega) (pu_self hCh) (fun c1 k1 k2 => absurd k2 (by omega))
    · refine pt_ic eP_choose_18 ?_
      refine pt_iret (eP_choose_19 (by omega)) (Nat.le_refl _) (Nat.le_refl _) ?_
      exfalso; omega
  · refine pt_ic eP_choose_8 ?_
    refine pt_iret (eP_choose_9 (by omega)) (Nat.le_refl _) (Nat.le_refl _) ?_
    have h9 := lfc_aw (m := 1) (l := (l : Int)) (s := s) ig0 (show t < aw N 1 l s gd.toNat by omega)
    exact ⟨by rw [if_neg (by omega)], rfl, cf, pu_self hCh, fun h => absurd h (by omega)⟩
theorem lP_ch_2 (G : pd_G) (sz : Nat) (hp : pd_P) {gd : Int} {N : NX} {T wf nf cf s : Int → Int} {L l : Nat} {t : Int} (hP : hp 58 = PO (L : Int) gd) (hCh : hp 59 = ia 6 cf) (hWa : hp 61 = ia 512 wf) (hNo : hp 62 = ia 4 nf) (ig0 : 0 ≤ gd) (ig4 : gd ≤ 4) (hL6 : L ≤ 6) (hLl : L = l + 2) (hwf : ∀ (g : Int) (l x : Nat), 0 ≤ g → g < gd → l ≤ L → 2 ^ l ≤ x → x < 2 ^ (l + 1) → wf (128 * g + (x : Int)) = wn N g (L - l) l (tn N g (T g) l x)) (hnf : ∀ g : Int, 0 ≤ g → g < gd → ∃ x : Nat, nf g = (x : Int) ∧ 2 ^ l ≤ x ∧ x < 2 ^ (l + 1) ∧ s g = tn N g (T g) l x) (ht0 : -1 ≤ t) (ht6 : t ≤ 6) (ht00 : 0 ≤ t) : ∀ (n : Nat) (c : Int) (cf : Int → Int) (l4 : Option pv) (hp0 : pd_P), c + n = gd → -1 ≤ c → hp0 = va_up hp 59 (ia 6 cf) → (∀ c1, -1 ≤ c1 → c1 < c → lfc N gd 1 ((l + 1 : Nat) : Int) (nxs N l s c1) (t - cst c1) = 5 ^ 1) → pd_t G mP_choose 3 (fun v' sz' hp' => v' = some (vi (if lfc N gd 2 l s t < 5 ^ 2 then 1 else 0)) ∧ sz' = sz ∧ ∃ cf' : Int → Int, hp' = va_up hp 59 (ia 6 cf') ∧ (lfc N gd 2 l s t < 5 ^ 2 → ∀ j : Nat, j < 2 → cf' ((l + j : Nat) : Int) = fdg (lfc N gd 2 l s t) (2 - 1 - j))) 22 [some (vr 58), some (vi (l : Int)), some (vi t), some (vi c), l4] [] sz hp0 := by
  intro n
  induction n with
  | zero =>
    intro c cf l4 hp0 hcE hc0 he0 hbef
    have hce : c = gd := by omega
    have hP := pg_n he0 (by decide) hP
    have h9 : lfc N gd 2 l s t = 5 ^ 2 := lfc_fail (m := 1) (l := (l : Int)) (s := s) (t := t) ig4 (fun c1 k1 k2 => hbef c1 k1 (by omega))
    refine pt_iload eP_choose_22 rfl ?_
    refine pt_aload eP_choose_23 rfl ?_
    refine pt_get eP_choose_24 hP rfl ?_
    refine pt_cge eP_choose_27 ⟨by omega, by omega⟩ ⟨by omega, by omega⟩ (fun c27 => ?_) (fun c27 => ?_)
    · refine pt_ic eP_choose_88 ?_
      refine pt_iret (eP_choose_89 (by omega)) (Nat.le_refl _) (Nat.le_refl _) ?_
      exact ⟨by rw [if_neg (by omega)], rfl, cf, he0, fun h => absurd h (by omega)⟩
    · exfalso; omega
  | succ n ih =>
    intro c cf l4 hp0 hcE hc0 he0 hbef
    have hP := pg_n he0 (by decide) hP
    have hCh := pg_s he0
    have hWa := pg_n he0 (by decide) hWa
    have hNo := pg_n he0 (by decide) hNo
    refine pt_iload eP_choose_22 rfl ?_
    refine pt_aload eP_choose_23 rfl ?_
    refine pt_get eP_choose_24 hP rfl ?_
    refine pt_cge eP_choose_27 ⟨by omega, by omega⟩ ⟨by omega, by omega⟩ (fun c27 => ?_) (fun c27 => ?_)
    · exfalso; omega
    · have hcg : c < gd := by omega
      have hNo0 := hNo
      refine pt_aload eP_choose_30 rfl ?_
      refine pt_iload eP_choose_31 rfl ?_
      refine pt_kv1 eP_choose_32 (cP_descend G sz _ hP hNo ig0 ig4 hc0 (by omega)) hP rfl (Nat.le_of_ble_eq_true rfl) (by decide) (Nat.le_refl _) (Nat.le_refl _) ?_
      rintro v2 sz2 hpx ⟨rfl, hz9, hx9⟩
      obtain rfl := hz9.symm
      have hP := pg_n hx9 (by decide) hP
      have hCh := pg_n hx9 (by decide) hCh
      have hWa := pg_n hx9 (by decide) hWa
      have hNo := pg_s hx9
      have hnf2 : ∀ g : Int, 0 ≤ g → g < gd → ∃ x : Nat, blk nf (fun x => 2 * nf x + (if x = c then 1 else 0)) 0 gd g = (x : Int) ∧ 2 ^ (l + 1) ≤ x ∧ x < 2 ^ (l + 1 + 1) ∧ nxs N l s c g = tn N g (T g) (l + 1) x := fun g k0 k1 => by
        obtain ⟨x, x0, x1, x2, x3⟩ := hnf g k0 k1
        have q1 := p2_s l
        have q2 := p2_s (l + 1)
        have hN9 : nxs N l s c g = N l g (if g = c then 1 else 0) (s g) := rfl
        rw [blk_in k0 (by omega), show g - 0 = g by omega, x0, hN9]
        by_cases hgc : g = c
        · rw [if_pos hgc]
          exact ⟨2 * x + 1, by omega, by omega, by omega, by rw [tn_1, ← x3]⟩
        · rw [if_neg hgc]
          exact ⟨2 * x, by omega, by omega, by omega, by rw [tn_0, ← x3]⟩
      have hnb2 : ∀ g, 0 ≤ g → g < gd → 0 ≤ blk nf (fun x => 2 * nf x + (if x = c then 1 else 0)) 0 gd g ∧ blk nf (fun x => 2 * nf x + (if x = c then 1 else 0)) 0 gd g < 1000 := fun g k0 k1 => by
        have hp8 := p2_le (show l + 1 + 1 ≤ 8 by omega)
        obtain ⟨x, x0, x1, x2, x3⟩ := hnf2 g k0 k1
        omega
      have hcb := cst_b c
      refine pt_aload eP_choose_35 rfl ?_
      refine pt_iload eP_choose_36 rfl ?_
      refine pt_ic eP_choose_37 ?_
      refine pt_iadd eP_choose_38 ?_
      refine pt_iload eP_choose_39 rfl ?_
      refine pt_zge eP_choose_40 ⟨by omega, by omega⟩ (fun c40 => ?_) (fun c40 => ?_)
      · refine pt_iload eP_choose_47 rfl ?_
        refine pt_ic eP_choose_48 ?_
        refine pt_isub eP_choose_49 ?_
        refine pt_ste (st2 := [vi (t - cst c), vi ((l + 1 : Nat) : Int), vr 58]) (by unfold cst; first | (rw [if_pos (by omega), Int.sub_zero]; rfl) | (rw [if_neg (by omega)]; rfl)) ?_
        refine pt_ks3 eP_choose_50 (cP_choose_1 G sz _ (s := nxs N l s c) (l := l + 1) hP hCh hWa hNo ig0 ig4 hL6 (by omega) hwf hnf2 (by omega) (by omega)) (Nat.le_of_ble_eq_true rfl) (by decide) (Nat.le_refl _) (Nat.le_refl _) ?_
        rintro v2 sz2 hpy ⟨rfl, hz9, cf9, hy9, hc9⟩
        obtain rfl := hz9.symm
        have hP := pg_n hy9 (by decide) hP
        have hCh := pg_s hy9
        have hWa := pg_n hy9 (by decide) hWa
        have hNo := pg_n hy9 (by decide) hNo
        refine pt_istore4 eP_choose_53 rfl ?_
        refine pt_aload eP_choose_55 rfl ?_
        refine pt_kv0 eP_choose_56 (cP_ascend G sz _ hP hNo ig0 ig4 hnb2) hP rfl (Nat.le_of_ble_eq_true rfl) (by decide) (Nat.le_refl _) (Nat.le_refl _) ?_
        rintro v2 sz2 hpz ⟨rfl, hz9, hz8⟩
        obtain rfl := hz9.symm
        have hP := pg_n hz8 (by decide) hP
        have hCh := pg_n hz8 (by decide) hCh
        have hWa := pg_n hz8 (by decide) hWa
        have hNo := pg_s hz8
        have hww : hpz = va_up hp 59 (ia 6 cf9) := by
          rw [hz8, hy9, hx9, bx_3 (by decide), dn_up, ← pu_self hNo0, he0, bx_uu]
        refine pt_iload eP_choose_59 rfl ?_
        refine pt_zeq eP_choose_61 ⟨by split <;> omega, by split <;> omega⟩ (fun c61 => ?_) (fun c61 => ?_)
        · refine pt_inc3 eP_choose_82 rfl ?_
          refine pt_goto eP_choose_85 ?_
          have hge : lfc N gd 1 ((l + 1 : Nat) : Int) (nxs N l s c) (t - cst c) = 5 ^ 1 := by
            have hle := lfc_le (N := N) (gd := gd) (m := 1) (l := ((l + 1 : Nat) : Int)) (s := nxs N l s c) (t := t - cst c)
            rcases (show lfc N gd 1 ((l + 1 : Nat) : Int) (nxs N l s c) (t - cst c) < 5 ^ 1 ∨ lfc N gd 1 ((l + 1 : Nat) : Int) (nxs N l s c) (t - cst c) = 5 ^ 1 by omega) with h9 | h9
            · rw [if_pos h9] at c61; omega
            · exact h9
          exact ih (c + 1) cf9 _ hpz (by omega) (by omega) hww (fun c1 k1 k2 => by
            by_cases hcc : c1 = c
            · rw [hcc]; exact hge
            · exact hbef c1 k1 (by omega))
        · refine pt_aload eP_choose_64 rfl ?_
          refine pt_get eP_choose_65 hP rfl ?_
          refine pt_iload eP_choose_68 rfl ?_
          refine pt_iload eP_choose_69 rfl ?_
          refine pt_zge eP_choose_70 ⟨by omega, by omega⟩ (fun c70 => ?_) (fun c70 => ?_)
          · refine pt_iload eP_choose_78 rfl ?_
            refine pt_iast eP_choose_79 hCh (by omega) (by omega) (by decide) ?_
            refine pt_gen ?_
            intro hp4 ev4
            have hP := pg_n ev4 (by omega) hP
            have hCh := pg_s ev4
            have hWa := pg_n ev4 (by omega) hWa
            have hNo := pg_n ev4 (by omega) hNo
            refine pt_ic eP_choose_80 ?_
            refine pt_iret (eP_choose_81 (by omega)) (Nat.le_refl _) (Nat.le_refl _) ?_
            have hlt : lfc N gd 1 ((l + 1 : Nat) : Int) (nxs N l s c) (t - cst c) < 5 ^ 1 := by
              by_cases h9 : lfc N gd 1 ((l + 1 : Nat) : Int) (nxs N l s c) (t - cst c) < 5 ^ 1
              · exact h9
              · rw [if_neg h9] at c61; omega
            have hst : lfc N gd 2 l s t = (c + 1).toNat * 5 ^ 1 + lfc N gd 1 ((l + 1 : Nat) : Int) (nxs N l s c) (t - cst c) := lfc_step (m := 1) (l := (l : Int)) (s := s) (t := t) hc0 hcg ig4 hbef hlt
            have hc5 : (c + 1).toNat * 5 ^ 1 + 5 ^ 1 ≤ 5 ^ 2 := by
              have := Nat.mul_le_mul_right (5 ^ 1) (show (c + 1).toNat + 1 ≤ 5 by omega)
              rw [Nat.add_mul, Nat.one_mul] at this
              exact Nat.le_trans this (by decide)
            have hlt2 : lfc N gd 2 l s t < 5 ^ 2 := by rw [hst]; omega
            refine ⟨by rw [if_pos hlt2], rfl, _, by rw [ev4, hww, bx_uu], fun _ j hj => ?_⟩
            rw [hst]
            rcases (show j = 0 ∨ 1 ≤ j by omega) with hj0 | hj0
            · rw [hj0, Nat.add_zero, uI_s, show 2 - 1 - 0 = 1 from rfl, fdg_hi (by omega) hlt]
              first
              | (exfalso; omega)
              | (rw [if_pos (by omega)])
              | (rw [if_neg (by omega)]; omega)
            · rw [uI_n _ _ (by omega), fdg_lo (by omega)]
              have h8 := hc9 hlt (j - 1) (by omega)
              rw [show ((l + 1 + (j - 1) : Nat) : Int) = ((l + j : Nat) : Int) by omega, show 1 - 1 - (j - 1) = 2 - 1 - j by omega] at h8
              exact h8
          · refine pt_ic eP_choose_73 ?_
            refine pt_goto eP_choose_75 ?_
            refine pt_iast eP_choose_79 hCh (by omega) (by omega) (by decide) ?_
            refine pt_gen ?_
            intro hp5 ev5
            have hP := pg_n ev5 (by omega) hP
            have hCh := pg_s ev5
            have hWa := pg_n ev5 (by omega) hWa
            have hNo := pg_n ev5 (by omega) hNo
            refine pt_ic eP_choose_80 ?_
            refine pt_iret (eP_choose_81 (by omega)) (Nat.le_refl _) (Nat.le_refl _) ?_
            have hlt : lfc N gd 1 ((l + 1 : Nat) : Int) (nxs N l s c) (t - cst c) < 5 ^ 1 := by
              by_cases h9 : lfc N gd 1 ((l + 1 : Nat) : Int) (nxs N l s c) (t - cst c) < 5 ^ 1
              · exact h9
              · rw [if_neg h9] at c61; omega
            have hst : lfc N gd 2 l s t = (c + 1).toNat * 5 ^ 1 + lfc N gd 1 ((l + 1 : Nat) : Int) (nxs N l s c) (t - cst c) := lfc_step (m := 1) (l := (l : Int)) (s := s) (t := t) hc0 hcg ig4 hbef hlt
            have hc5 : (c + 1).toNat * 5 ^ 1 + 5 ^ 1 ≤ 5 ^ 2 := by
              have := Nat.mul_le_mul_right (5 ^ 1) (show (c + 1).toNat + 1 ≤ 5 by omega)
              rw [Nat.add_mul, Nat.one_mul] at this
              exact Nat.le_trans this (by decide)
            have hlt2 : lfc N gd 2 l s t < 5 ^ 2 := by rw [hst]; omega
            refine ⟨by rw [if_pos hlt2], rfl, _, by rw [ev5, hww, bx_uu], fun _ j hj => ?_⟩
            rw [hst]
            rcases (show j = 0 ∨ 1 ≤ j by omega) with hj0 | hj0
            · rw [hj0, Nat.add_zero, uI_s, show 2 - 1 - 0 = 1 from rfl, fdg_hi (by omega) hlt]
              first
              | (exfalso; omega)
              | (rw [if_pos (by omega)])
              | (rw [if_neg (by omega)]; omega)
            · rw [uI_n _ _ (by omega), fdg_lo (by omega)]
              have h8 := hc9 hlt (j - 1) (by omega)
              rw [show ((l + 1 + (j - 1) : Nat) : Int) = ((l + j : Nat) : Int) by omega, show 1 - 1 - (j - 1) = 2 - 1 - j by omega] at h8
              exact h8
      · refine pt_iload eP_choose_43 rfl ?_
        refine pt_goto eP_choose_44 ?_
        refine pt_ste (st2 := [vi (t - cst c), vi ((l + 1 : Nat) : Int), vr 58]) (by unfold cst; first | (rw [if_pos (by omega), Int.sub_zero]; rfl) | (rw [if_neg (by omega)]; rfl)) ?_
        refine pt_ks3 eP_choose_50 (cP_choose_1 G sz _ (s := nxs N l s c) (l := l + 1) hP hCh hWa hNo ig0 ig4 hL6 (by omega) hwf hnf2 (by omega) (by omega)) (Nat.le_of_ble_eq_true rfl) (by decide) (Nat.le_refl _) (Nat.le_refl _) ?_
        rintro v2 sz2 hpy ⟨rfl, hz9, cf9, hy9, hc9⟩
        obtain rfl := hz9.symm
        have hP := pg_n hy9 (by decide) hP
        have hCh := pg_s hy9
        have hWa := pg_n hy9 (by decide) hWa
        have hNo := pg_n hy9 (by decide) hNo
        refine pt_istore4 eP_choose_53 rfl ?_
        refine pt_aload eP_choose_55 rfl ?_
        refine pt_kv0 eP_choose_56 (cP_ascend G sz _ hP hNo ig0 ig4 hnb2) hP rfl (Nat.le_of_ble_eq_true rfl) (by decide) (Nat.le_refl _) (Nat.le_refl _) ?_
        rintro v2 sz2 hpz ⟨rfl, hz9, hz8⟩
        obtain rfl := hz9.symm
        have hP := pg_n hz8 (by decide) hP
        have hCh := pg_n hz8 (by decide) hCh
        have hWa := pg_n hz8 (by decide) hWa
        have hNo := pg_s hz8
        have hww : hpz = va_up hp 59 (ia 6 cf9) := by
          rw [hz8, hy9, hx9, bx_3 (by decide), dn_up, ← pu_self hNo0, he0, bx_uu]
        refine pt_iload eP_choose_59 rfl ?_
        refine pt_zeq eP_choose_61 ⟨by split <;> omega, by split <;> omega⟩ (fun c61 => ?_) (fun c61 => ?_)
        · refine pt_inc3 eP_choose_82 rfl ?_
          refine pt_goto eP_choose_85 ?_
          have hge : lfc N gd 1 ((l + 1 : Nat) : Int) (nxs N l s c) (t - cst c) = 5 ^ 1 := by
            have hle := lfc_le (N := N) (gd := gd) (m := 1) (l := ((l + 1 : Nat) : Int)) (s := nxs N l s c) (t := t - cst c)
            rcases (show lfc N gd 1 ((l + 1 : Nat) : Int) (nxs N l s c) (t - cst c) < 5 ^ 1 ∨ lfc N gd 1 ((l + 1 : Nat) : Int) (nxs N l s c) (t - cst c) = 5 ^ 1 by omega) with h9 | h9
            · rw [if_pos h9] at c61; omega
            · exact h9
          exact ih (c + 1) cf9 _ hpz (by omega) (by omega) hww (fun c1 k1 k2 => by
            by_cases hcc : c1 = c
            · rw [hcc]; exact hge
            · exact hbef c1 k1 (by omega))
        · refine pt_aload eP_choose_64 rfl ?_
          refine pt_get eP_choose_65 hP rfl ?_
          refine pt_iload eP_choose_68 rfl ?_
          refine pt_iload eP_choose_69 rfl ?_
          refine pt_zge eP_choose_70 ⟨by omega, by omega⟩ (fun c70 => ?_) (fun c70 => ?_)
          · refine pt_iload eP_choose_78 rfl ?_
            refine pt_iast eP_choose_79 hCh (by omega) (by omega) (by decide) ?_
            refine pt_gen ?_
            intro hp8 ev8
            have hP := pg_n ev8 (by omega) hP
            have hCh := pg_s ev8
            have hWa := pg_n ev8 (by omega) hWa
            have hNo := pg_n ev8 (by omega) hNo
            refine pt_ic eP_choose_80 ?_
            refine pt_iret (eP_choose_81 (by omega)) (Nat.le_refl _) (Nat.le_refl _) ?_
            have hlt : lfc N gd 1 ((l + 1 : Nat) : Int) (nxs N l s c) (t - cst c) < 5 ^ 1 := by
              by_cases h9 : lfc N gd 1 ((l + 1 : Nat) : Int) (nxs N l s c) (t - cst c) < 5 ^ 1
              · exact h9
              · rw [if_neg h9] at c61; omega
            have hst : lfc N gd 2 l s t = (c + 1).toNat * 5 ^ 1 + lfc N gd 1 ((l + 1 : Nat) : Int) (nxs N l s c) (t - cst c) := lfc_step (m := 1) (l := (l : Int)) (s := s) (t := t) hc0 hcg ig4 hbef hlt
            have hc5 : (c + 1).toNat * 5 ^ 1 + 5 ^ 1 ≤ 5 ^ 2 := by
              have := Nat.mul_le_mul_right (5 ^ 1) (show (c + 1).toNat + 1 ≤ 5 by omega)
              rw [Nat.add_mul, Nat.one_mul] at this
              exact Nat.le_trans this (by decide)
            have hlt2 : lfc N gd 2 l s t < 5 ^ 2 := by rw [hst]; omega
            refine ⟨by rw [if_pos hlt2], rfl, _, by rw [ev8, hww, bx_uu], fun _ j hj => ?_⟩
            rw [hst]
            rcases (show j = 0 ∨ 1 ≤ j by omega) with hj0 | hj0
            · rw [hj0, Nat.add_zero, uI_s, show 2 - 1 - 0 = 1 from rfl, fdg_hi (by omega) hlt]
              first
              | (exfalso; omega)
              | (rw [if_pos (by omega)])
              | (rw [if_neg (by omega)]; omega)
            · rw [uI_n _ _ (by omega), fdg_lo (by omega)]
              have h8 := hc9 hlt (j - 1) (by omega)
              rw [show ((l + 1 + (j - 1) : Nat) : Int) = ((l + j : Nat) : Int) by omega, show 1 - 1 - (j - 1) = 2 - 1 - j by omega] at h8
              exact h8
          · refine pt_ic eP_choose_73 ?_
            refine pt_goto eP_choose_75 ?_
            refine pt_iast eP_choose_79 hCh (by omega) (by omega) (by decide) ?_
            refine pt_gen ?_
            intro hp9 ev9
            have hP := pg_n ev9 (by omega) hP
            have hCh := pg_s ev9
            have hWa := pg_n ev9 (by omega) hWa
            have hNo := pg_n ev9 (by omega) hNo
            refine pt_ic eP_choose_80 ?_
            refine pt_iret (eP_choose_81 (by omega)) (Nat.le_refl _) (Nat.le_refl _) ?_
            have hlt : lfc N gd 1 ((l + 1 : Nat) : Int) (nxs N l s c) (t - cst c) < 5 ^ 1 := by
              by_cases h9 : lfc N gd 1 ((l + 1 : Nat) : Int) (nxs N l s c) (t - cst c) < 5 ^ 1
              · exact h9
              · rw [if_neg h9] at c61; omega
            have hst : lfc N gd 2 l s t = (c + 1).toNat * 5 ^ 1 + lfc N gd 1 ((l + 1 : Nat) : Int) (nxs N l s c) (t - cst c) := lfc_step (m := 1) (l := (l : Int)) (s := s) (t := t) hc0 hcg ig4 hbef hlt
            have hc5 : (c + 1).toNat * 5 ^ 1 + 5 ^ 1 ≤ 5 ^ 2 := by
              have := Nat.mul_le_mul_right (5 ^ 1) (show (c + 1).toNat + 1 ≤ 5 by omega)
              rw [Nat.add_mul, Nat.one_mul] at this
              exact Nat.le_trans this (by decide)
            have hlt2 : lfc N gd 2 l s t < 5 ^ 2 := by rw [hst]; omega
            refine ⟨by rw [if_pos hlt2], rfl, _, by rw [ev9, hww, bx_uu], fun _ j hj => ?_⟩
            rw [hst]
            rcases (show j = 0 ∨ 1 ≤ j by omega) with hj0 | hj0
            · rw [hj0, Nat.add_zero, uI_s, show 2 - 1 - 0 = 1 from rfl, fdg_hi (by omega) hlt]
              first
              | (exfalso; omega)
              | (rw [if_pos (by omega)])
              | (rw [if_neg (by omega)]; omega)
            · rw [uI_n _ _ (by omega), fdg_lo (by omega)]
              have h8 := hc9 hlt (j - 1) (by omega)
              rw [show ((l + 1 + (j - 1) : Nat) : Int) = ((l + j : Nat) : Int) by omega, show 1 - 1 - (j - 1) = 2 - 1 - j by omega] at h8
              exact h8
theorem cP_choose_2 (G : pd_G) (sz : Nat) (hp : pd_P) {gd : Int} {N : NX} {T wf nf cf s : Int → Int} {L l : Nat} {t : Int} (hP : hp 58 = PO (L : Int) gd) (hCh : hp 59 = ia 6 cf) (hWa : hp 61 = ia 512 wf) (hNo : hp 62 = ia 4 nf) (ig0 : 0 ≤ gd) (ig4 : gd ≤ 4) (hL6 : L ≤ 6) (hLl : L = l + 2) (hwf : ∀ (g : Int) (l x : Nat), 0 ≤ g → g < gd → l ≤ L → 2 ^ l ≤ x → x < 2 ^ (l + 1) → wf (128 * g + (x : Int)) = wn N g (L - l) l (tn N g (T g) l x)) (hnf : ∀ g : Int, 0 ≤ g → g < gd → ∃ x : Nat, nf g = (x : Int) ∧ 2 ^ l ≤ x ∧ x < 2 ^ (l + 1) ∧ s g = tn N g (T g) l x) (ht0 : -1 ≤ t) (ht6 : t ≤ 6) : pd_c G mP_choose 3 [vr 58, vi (l : Int), vi t] sz hp (fun v' sz' hp' => v' = some (vi (if lfc N gd 2 l s t < 5 ^ 2 then 1 else 0)) ∧ sz' = sz ∧ ∃ cf' : Int → Int, hp' = va_up hp 59 (ia 6 cf') ∧ (lfc N gd 2 l s t < 5 ^ 2 → ∀ j : Nat, j < 2 → cf' ((l + j : Nat) : Int) = fdg (lfc N gd 2 l s t) (2 - 1 - j))) := by
  refine pd_con kP_choose [some (vr 58), some (vi (l : Int)), some (vi t), none, none] rfl rfl (Nat.le_of_ble_eq_true rfl) ?_
  have hp7 := p2_le (show l + 1 ≤ 7 by omega)
  have hnb : ∀ g, 0 ≤ g → g < gd → 0 ≤ nf g ∧ nf g < 128 := fun g k0 k1 => by
    obtain ⟨x, x0, x1, x2, x3⟩ := hnf g k0 k1
    omega
  have hsm : sm (fun g => wf (128 * g + nf g)) gd.toNat = aw N 2 l s gd.toNat := by
    refine sm_congr _ (fun g hg => ?_)
    obtain ⟨x, x0, x1, x2, x3⟩ := hnf g (by omega) (by omega)
    show wf (128 * (g : Int) + nf g) = wn N g 2 l (s g)
    rw [x0, hwf g l x (by omega) (by omega) (by omega) x1 x2, x3, show L - l = 2 by omega]
  have hab := aw_b (N := N) (m := 2) (l := (l : Int)) (s := s) gd.toNat
  refine pt_aload eP_choose_0 rfl ?_
  refine pt_kv0r eP_choose_1 (cP_allWanted G sz _ hP hWa hNo ig0 ig4 hnb) hP rfl (Nat.le_of_ble_eq_true rfl) (by decide) (Nat.le_refl _) (Nat.le_refl _) ?_
  rw [hsm]
  refine pt_iload eP_choose_4 rfl ?_
  refine pt_cle eP_choose_5 ⟨by omega, by omega⟩ ⟨by omega, by omega⟩ (fun c5 => ?_) (fun c5 => ?_)
  · refine pt_iload eP_choose_10 rfl ?_
    refine pt_aload eP_choose_11 rfl ?_
    refine pt_get eP_choose_12 hP rfl ?_
    refine pt_clt eP_choose_15 ⟨by omega, by omega⟩ ⟨by omega, by omega⟩ (fun c15 => ?_) (fun c15 => ?_)
    · refine pt_ic eP_choose_20 ?_
      refine pt_istore3 eP_choose_21 rfl ?_
      exact lP_ch_2 G sz hp hP hCh hWa hNo ig0 ig4 hL6 hLl hwf hnf ht0 ht6 (by omega) (gd + 1).toNat (-1) cf none hp (by omega) (by omega) (pu_self hCh) (fun c1 k1 k2 => absurd k2 (by omega))
    · refine pt_ic eP_choose_18 ?_
      refine pt_iret (eP_choose_19 (by omega)) (Nat.le_refl _) (Nat.le_refl _) ?_
      exfalso; omega
  · refine pt_ic eP_choose_8 ?_
    refine pt_iret (eP_choose_9 (by omega)) (Nat.le_refl _) (Nat.le_refl _) ?_
    have h9 := lfc_aw (m := 2) (l := (l : Int)) (s := s) ig0 (show t < aw N 2 l s gd.toNat by omega)
    exact ⟨by rw [if_neg (by omega)], rfl, cf, pu_self hCh, fun h => absurd h (by omega)⟩
theorem lP_ch_3 (G : pd_G) (sz : Nat) (hp : pd_P) {gd : Int} {N : NX} {T wf nf cf s : Int → Int} {L l : Nat} {t : Int} (hP : hp 58 = PO (L : Int) gd) (hCh : hp 59 = ia 6 cf) (hWa : hp 61 = ia 512 wf) (hNo : hp 62 = ia 4 nf) (ig0 : 0 ≤ gd) (ig4 : gd ≤ 4) (hL6 : L ≤ 6) (hLl : L = l + 3) (hwf : ∀ (g : Int) (l x : Nat), 0 ≤ g → g < gd → l ≤ L → 2 ^ l ≤ x → x < 2 ^ (l + 1) → wf (128 * g + (x : Int)) = wn N g (L - l) l (tn N g (T g) l x)) (hnf : ∀ g : Int, 0 ≤ g → g < gd → ∃ x : Nat, nf g = (x : Int) ∧ 2 ^ l ≤ x ∧ x < 2 ^ (l + 1) ∧ s g = tn N g (T g) l x) (ht0 : -1 ≤ t) (ht6 : t ≤ 6) (ht00 : 0 ≤ t) : ∀ (n : Nat) (c : Int) (cf : Int → Int) (l4 : Option pv) (hp0 : pd_P), c + n = gd → -1 ≤ c → hp0 = va_up hp 59 (ia 6 cf) → (∀ c1, -1 ≤ c1 → c1 < c → lfc N gd 2 ((l + 1 : Nat) : Int) (nxs N l s c1) (t - cst c1) = 5 ^ 2) → pd_t G mP_choose 4 (fun v' sz' hp' => v' = some (vi (if lfc N gd 3 l s t < 5 ^ 3 then 1 else 0)) ∧ sz' = sz ∧ ∃ cf' : Int → Int, hp' = va_up hp 59 (ia 6 cf') ∧ (lfc N gd 3 l s t < 5 ^ 3 → ∀ j : Nat, j < 3 → cf' ((l + j : Nat) : Int) = fdg (lfc N gd 3 l s t) (3 - 1 - j))) 22 [some (vr 58), some (vi (l : Int)), some (vi t), some (vi c), l4] [] sz hp0 := by
  intro n
  induction n with
  | zero =>
    intro c cf l4 hp0 hcE hc0 he0 hbef
    have hce : c = gd := by omega
    have hP := pg_n he0 (by decide) hP
    have h9 : lfc N gd 3 l s t = 5 ^ 3 := lfc_fail (m := 2) (l := (l : Int)) (s := s) (t := t) ig4 (fun c1 k1 k2 => hbef c1 k1 (by omega))
    refine pt_iload eP_choose_22 rfl ?_
    refine pt_aload eP_choose_23 rfl ?_
    refine pt_get eP_choose_24 hP rfl ?_
    refine pt_cge eP_choose_27 ⟨by omega, by omega⟩ ⟨by omega, by omega⟩ (fun c27 => ?_) (fun c27 => ?_)
    · refine pt_ic eP_choose_88 ?_
      refine pt_iret (eP_choose_89 (by omega)) (Nat.le_refl _) (Nat.le_refl _) ?_
      exact ⟨by rw [if_neg (by omega)], rfl, cf, he0, fun h => absurd h (by omega)⟩
    · exfalso; omega
  | succ n ih =>
    intro c cf l4 hp0 hcE hc0 he0 hbef
    have hP := pg_n he0 (by decide) hP
    have hCh := pg_s he0
    have hWa := pg_n he0 (by decide) hWa
    have hNo := pg_n he0 (by decide) hNo
    refine pt_iload eP_choose_22 rfl ?_
    refine pt_aload eP_choose_23 rfl ?_
    refine pt_get eP_choose_24 hP rfl ?_
    refine pt_cge eP_choose_27 ⟨by omega, by omega⟩ ⟨by omega, by omega⟩ (fun c27 => ?_) (fun c27 => ?_)
    · exfalso; omega
    · have hcg : c < gd := by omega
      have hNo0 := hNo
      refine pt_aload eP_choose_30 rfl ?_
      refine pt_iload eP_choose_31 rfl ?_
      refine pt_kv1 eP_choose_32 (cP_descend G sz _ hP hNo ig0 ig4 hc0 (by omega)) hP rfl (Nat.le_of_ble_eq_true rfl) (by decide) (Nat.le_refl _) (Nat.le_refl _) ?_
      rintro v2 sz2 hpx ⟨rfl, hz9, hx9⟩
      obtain rfl := hz9.symm
      have hP := pg_n hx9 (by decide) hP
      have hCh := pg_n hx9 (by decide) hCh
      have hWa := pg_n hx9 (by decide) hWa
      have hNo := pg_s hx9
      have hnf2 : ∀ g : Int, 0 ≤ g → g < gd → ∃ x : Nat, blk nf (fun x => 2 * nf x + (if x = c then 1 else 0)) 0 gd g = (x : Int) ∧ 2 ^ (l + 1) ≤ x ∧ x < 2 ^ (l + 1 + 1) ∧ nxs N l s c g = tn N g (T g) (l + 1) x := fun g k0 k1 => by
        obtain ⟨x, x0, x1, x2, x3⟩ := hnf g k0 k1
        have q1 := p2_s l
        have q2 := p2_s (l + 1)
        have hN9 : nxs N l s c g = N l g (if g = c then 1 else 0) (s g) := rfl
        rw [blk_in k0 (by omega), show g - 0 = g by omega, x0, hN9]
        by_cases hgc : g = c
        · rw [if_pos hgc]
          exact ⟨2 * x + 1, by omega, by omega, by omega, by rw [tn_1, ← x3]⟩
        · rw [if_neg hgc]
          exact ⟨2 * x, by omega, by omega, by omega, by rw [tn_0, ← x3]⟩
      have hnb2 : ∀ g, 0 ≤ g → g < gd → 0 ≤ blk nf (fun x => 2 * nf x + (if x = c then 1 else 0)) 0 gd g ∧ blk nf (fun x => 2 * nf x + (if x = c then 1 else 0)) 0 gd g < 1000 := fun g k0 k1 => by
        have hp8 := p2_le (show l + 1 + 1 ≤ 8 by omega)
        obtain ⟨x, x0, x1, x2, x3⟩ := hnf2 g k0 k1
        omega
      have hcb := cst_b c
      refine pt_aload eP_choose_35 rfl ?_
      refine pt_iload eP_choose_36 rfl ?_
      refine pt_ic eP_choose_37 ?_
      refine pt_iadd eP_choose_38 ?_
      refine pt_iload eP_choose_39 rfl ?_
      refine pt_zge eP_choose_40 ⟨by omega, by omega⟩ (fun c40 => ?_) (fun c40 => ?_)
      · refine pt_iload eP_choose_47 rfl ?_
        refine pt_ic eP_choose_48 ?_
        refine pt_isub eP_choose_49 ?_
        refine pt_ste (st2 := [vi (t - cst c), vi ((l + 1 : Nat) : Int), vr 58]) (by unfold cst; first | (rw [if_pos (by omega), Int.sub_zero]; rfl) | (rw [if_neg (by omega)]; rfl)) ?_
        refine pt_ks3 eP_choose_50 (cP_choose_2 G sz _ (s := nxs N l s c) (l := l + 1) hP hCh hWa hNo ig0 ig4 hL6 (by omega) hwf hnf2 (by omega) (by omega)) (Nat.le_of_ble_eq_true rfl) (by decide) (Nat.le_refl _) (Nat.le_refl _) ?_
        rintro v2 sz2 hpy ⟨rfl, hz9, cf9, hy9, hc9⟩
        obtain rfl := hz9.symm
        have hP := pg_n hy9 (by decide) hP
        have hCh := pg_s hy9
        have hWa := pg_n hy9 (by decide) hWa
        have hNo := pg_n hy9 (by decide) hNo
        refine pt_istore4 eP_choose_53 rfl ?_
        refine pt_aload eP_choose_55 rfl ?_
        refine pt_kv0 eP_choose_56 (cP_ascend G sz _ hP hNo ig0 ig4 hnb2) hP rfl (Nat.le_of_ble_eq_true rfl) (by decide) (Nat.le_refl _) (Nat.le_refl _) ?_
        rintro v2 sz2 hpz ⟨rfl, hz9, hz8⟩
        obtain rfl := hz9.symm
        have hP := pg_n hz8 (by decide) hP
        have hCh := pg_n hz8 (by decide) hCh
        have hWa := pg_n hz8 (by decide) hWa
        have hNo := pg_s hz8
        have hww : hpz = va_up hp 59 (ia 6 cf9) := by
          rw [hz8, hy9, hx9, bx_3 (by decide), dn_up, ← pu_self hNo0, he0, bx_uu]
        refine pt_iload eP_choose_59 rfl ?_
        refine pt_zeq eP_choose_61 ⟨by split <;> omega, by split <;> omega⟩ (fun c61 => ?_) (fun c61 => ?_)
        · refine pt_inc3 eP_choose_82 rfl ?_
          refine pt_goto eP_choose_85 ?_
          have hge : lfc N gd 2 ((l + 1 : Nat) : Int) (nxs N l s c) (t - cst c) = 5 ^ 2 := by
            have hle := lfc_le (N := N) (gd := gd) (m := 2) (l := ((l + 1 : Nat) : Int)) (s := nxs N l s c) (t := t - cst c)
            rcases (show lfc N gd 2 ((l + 1 : Nat) : Int) (nxs N l s c) (t - cst c) < 5 ^ 2 ∨ lfc N gd 2 ((l + 1 : Nat) : Int) (nxs N l s c) (t - cst c) = 5 ^ 2 by omega) with h9 | h9
            · rw [if_pos h9] at c61; omega
            · exact h9
          exact ih (c + 1) cf9 _ hpz (by omega) (by omega) hww (fun c1 k1 k2 => by
            by_cases hcc : c1 = c
            · rw [hcc]; exact hge
            · exact hbef c1 k1 (by omega))
        · refine pt_aload eP_choose_64 rfl ?_
          refine pt_get eP_choose_65 hP rfl ?_
          refine pt_iload eP_choose_68 rfl ?_
          refine pt_iload eP_choose_69 rfl ?_
          refine pt_zge eP_choose_70 ⟨by omega, by omega⟩ (fun c70 => ?_) (fun c70 => ?_)
          · refine pt_iload eP_choose_78 rfl ?_
            refine pt_iast eP_choose_79 hCh (by omega) (by omega) (by decide) ?_
            refine pt_gen ?_
            intro hp4 ev4
            have hP := pg_n ev4 (by omega) hP
            have hCh := pg_s ev4
            have hWa := pg_n ev4 (by omega) hWa
            have hNo := pg_n ev4 (by omega) hNo
            refine pt_ic eP_choose_80 ?_
            refine pt_iret (eP_choose_81 (by omega)) (Nat.le_refl _) (Nat.le_refl _) ?_
            have hlt : lfc N gd 2 ((l + 1 : Nat) : Int) (nxs N l s c) (t - cst c) < 5 ^ 2 := by
              by_cases h9 : lfc N gd 2 ((l + 1 : Nat) : Int) (nxs N l s c) (t - cst c) < 5 ^ 2
              · exact h9
              · rw [if_neg h9] at c61; omega
            have hst : lfc N gd 3 l s t = (c + 1).toNat * 5 ^ 2 + lfc N gd 2 ((l + 1 : Nat) : Int) (nxs N l s c) (t - cst c) := lfc_step (m := 2) (l := (l : Int)) (s := s) (t := t) hc0 hcg ig4 hbef hlt
            have hc5 : (c + 1).toNat * 5 ^ 2 + 5 ^ 2 ≤ 5 ^ 3 := by
              have := Nat.mul_le_mul_right (5 ^ 2) (show (c + 1).toNat + 1 ≤ 5 by omega)
              rw [Nat.add_mul, Nat.one_mul] at this
              exact Nat.le_trans this (by decide)
            have hlt2 : lfc N gd 3 l s t < 5 ^ 3 := by rw [hst]; omega
            refine ⟨by rw [if_pos hlt2], rfl, _, by rw [ev4, hww, bx_uu], fun _ j hj => ?_⟩
            rw [hst]
            rcases (show j = 0 ∨ 1 ≤ j by omega) with hj0 | hj0
            · rw [hj0, Nat.add_zero, uI_s, show 3 - 1 - 0 = 2 from rfl, fdg_hi (by omega) hlt]
              first
              | (exfalso; omega)
              | (rw [if_pos (by omega)])
              | (rw [if_neg (by omega)]; omega)
            · rw [uI_n _ _ (by omega), fdg_lo (by omega)]
              have h8 := hc9 hlt (j - 1) (by omega)
              rw [show ((l + 1 + (j - 1) : Nat) : Int) = ((l + j : Nat) : Int) by omega, show 2 - 1 - (j - 1) = 3 - 1 - j by omega] at h8
              exact h8
          · refine pt_ic eP_choose_73 ?_
            refine pt_goto eP_choose_75 ?_
            refine pt_iast eP_choose_79 hCh (by omega) (by omega) (by decide) ?_
            refine pt_gen ?_
            intro hp5 ev5
            have hP := pg_n ev5 (by omega) hP
            have hCh := pg_s ev5
            have hWa := pg_n ev5 (by omega) hWa
            have hNo := pg_n ev5 (by omega) hNo
            refine pt_ic eP_choose_80 ?_
            refine pt_iret (eP_choose_81 (by omega)) (Nat.le_refl _) (Nat.le_refl _) ?_
            have hlt : lfc N gd 2 ((l + 1 : Nat) : Int) (nxs N l s c) (t - cst c) < 5 ^ 2 := by
              by_cases h9 : lfc N gd 2 ((l + 1 : Nat) : Int) (nxs N l s c) (t - cst c) < 5 ^ 2
              · exact h9
              · rw [if_neg h9] at c61; omega
            have hst : lfc N gd 3 l s t = (c + 1).toNat * 5 ^ 2 + lfc N gd 2 ((l + 1 : Nat) : Int) (nxs N l s c) (t - cst c) := lfc_step (m := 2) (l := (l : Int)) (s := s) (t := t) hc0 hcg ig4 hbef hlt
            have hc5 : (c + 1).toNat * 5 ^ 2 + 5 ^ 2 ≤ 5 ^ 3 := by
              have := Nat.mul_le_mul_right (5 ^ 2) (show (c + 1).toNat + 1 ≤ 5 by omega)
              rw [Nat.add_mul, Nat.one_mul] at this
              exact Nat.le_trans this (by decide)
            have hlt2 : lfc N gd 3 l s t < 5 ^ 3 := by rw [hst]; omega
            refine ⟨by rw [if_pos hlt2], rfl, _, by rw [ev5, hww, bx_uu], fun _ j hj => ?_⟩
            rw [hst]
            rcases (show j = 0 ∨ 1 ≤ j by omega) with hj0 | hj0
            · rw [hj0, Nat.add_zero, uI_s, show 3 - 1 - 0 = 2 from rfl, fdg_hi (by omega) hlt]
              first
              | (exfalso; omega)
              | (rw [if_pos (by omega)])
              | (rw [if_neg (by omega)]; omega)
            · rw [uI_n _ _ (by omega), fdg_lo (by omega)]
              have h8 := hc9 hlt (j - 1) (by omega)
              rw [show ((l + 1 + (j - 1) : Nat) : Int) = ((l + j : Nat) : Int) by omega, show 2 - 1 - (j - 1) = 3 - 1 - j by omega] at h8
              exact h8
      · refine pt_iload eP_choose_43 rfl ?_
        refine pt_goto eP_choose_44 ?_
        refine pt_ste (st2 := [vi (t - cst c), vi ((l + 1 : Nat) : Int), vr 58]) (by unfold cst; first | (rw [if_pos (by omega), Int.sub_zero]; rfl) | (rw [if_neg (by omega)]; rfl)) ?_
        refine pt_ks3 eP_choose_50 (cP_choose_2 G sz _ (s := nxs N l s c) (l := l + 1) hP hCh hWa hNo ig0 ig4 hL6 (by omega) hwf hnf2 (by omega) (by omega)) (Nat.le_of_ble_eq_true rfl) (by decide) (Nat.le_refl _) (Nat.le_refl _) ?_
        rintro v2 sz2 hpy ⟨rfl, hz9, cf9, hy9, hc9⟩
        obtain rfl := hz9.symm
        have hP := pg_n hy9 (by decide) hP
        have hCh := pg_s hy9
        have hWa := pg_n hy9 (by decide) hWa
        have hNo := pg_n hy9 (by decide) hNo
        refine pt_istore4 eP_choose_53 rfl ?_
        refine pt_aload eP_choose_55 rfl ?_
        refine pt_kv0 eP_choose_56 (cP_ascend G sz _ hP hNo ig0 ig4 hnb2) hP rfl (Nat.le_of_ble_eq_true rfl) (by decide) (Nat.le_refl _) (Nat.le_refl _) ?_
        rintro v2 sz2 hpz ⟨rfl, hz9, hz8⟩
        obtain rfl := hz9.symm
        have hP := pg_n hz8 (by decide) hP
        have hCh := pg_n hz8 (by decide) hCh
        have hWa := pg_n hz8 (by decide) hWa
        have hNo := pg_s hz8
        have hww : hpz = va_up hp 59 (ia 6 cf9) := by
          rw [hz8, hy9, hx9, bx_3 (by decide), dn_up, ← pu_self hNo0, he0, bx_uu]
        refine pt_iload eP_choose_59 rfl ?_
        refine pt_zeq eP_choose_61 ⟨by split <;> omega, by split <;> omega⟩ (fun c61 => ?_) (fun c61 => ?_)
        · refine pt_inc3 eP_choose_82 rfl ?_
          refine pt_goto eP_choose_85 ?_
          have hge : lfc N gd 2 ((l + 1 : Nat) : Int) (nxs N l s c) (t - cst c) = 5 ^ 2 := by
            have hle := lfc_le (N := N) (gd := gd) (m := 2) (l := ((l + 1 : Nat) : Int)) (s := nxs N l s c) (t := t - cst c)
            rcases (show lfc N gd 2 ((l + 1 : Nat) : Int) (nxs N l s c) (t - cst c) < 5 ^ 2 ∨ lfc N gd 2 ((l + 1 : Nat) : Int) (nxs N l s c) (t - cst c) = 5 ^ 2 by omega) with h9 | h9
            · rw [if_pos h9] at c61; omega
            · exact h9
          exact ih (c + 1) cf9 _ hpz (by omega) (by omega) hww (fun c1 k1 k2 => by
            by_cases hcc : c1 = c
            · rw [hcc]; exact hge
            · exact hbef c1 k1 (by omega))
        · refine pt_aload eP_choose_64 rfl ?_
          refine pt_get eP_choose_65 hP rfl ?_
          refine pt_iload eP_choose_68 rfl ?_
          refine pt_iload eP_choose_69 rfl ?_
          refine pt_zge eP_choose_70 ⟨by omega, by omega⟩ (fun c70 => ?_) (fun c70 => ?_)
          · refine pt_iload eP_choose_78 rfl ?_
            refine pt_iast eP_choose_79 hCh (by omega) (by omega) (by decide) ?_
            refine pt_gen ?_
            intro hp8 ev8
            have hP := pg_n ev8 (by omega) hP
            have hCh := pg_s ev8
            have hWa := pg_n ev8 (by omega) hWa
            have hNo := pg_n ev8 (by omega) hNo
            refine pt_ic eP_choose_80 ?_
            refine pt_iret (eP_choose_81 (by omega)) (Nat.le_refl _) (Nat.le_refl _) ?_
            have hlt : lfc N gd 2 ((l + 1 : Nat) : Int) (nxs N l s c) (t - cst c) < 5 ^ 2 := by
              by_cases h9 : lfc N gd 2 ((l + 1 : Nat) : Int) (nxs N l s c) (t - cst c) < 5 ^ 2
              · exact h9
              · rw [if_neg h9] at c61; omega
            have hst : lfc N gd 3 l s t = (c + 1).toNat * 5 ^ 2 + lfc N gd 2 ((l + 1 : Nat) : Int) (nxs N l s c) (t - cst c) := lfc_step (m := 2) (l := (l : Int)) (s := s) (t := t) hc0 hcg ig4 hbef hlt
            have hc5 : (c + 1).toNat * 5 ^ 2 + 5 ^ 2 ≤ 5 ^ 3 := by
              have := Nat.mul_le_mul_right (5 ^ 2) (show (c + 1).toNat + 1 ≤ 5 by omega)
              rw [Nat.add_mul, Nat.one_mul] at this
              exact Nat.le_trans this (by decide)
            have hlt2 : lfc N gd 3 l s t < 5 ^ 3 := by rw [hst]; omega
            refine ⟨by rw [if_pos hlt2], rfl, _, by rw [ev8, hww, bx_uu], fun _ j hj => ?_⟩
            rw [hst]
            rcases (show j = 0 ∨ 1 ≤ j by omega) with hj0 | hj0
            · rw [hj0, Nat.add_zero, uI_s, show 3 - 1 - 0 = 2 from rfl, fdg_hi (by omega) hlt]
              first
              | (exfalso; omega)
              | (rw [if_pos (by omega)])
              | (rw [if_neg (by omega)]; omega)
            · rw [uI_n _ _ (by omega), fdg_lo (by omega)]
              have h8 := hc9 hlt (j - 1) (by omega)
              rw [show ((l + 1 + (j - 1) : Nat) : Int) = ((l + j : Nat) : Int) by omega, show 2 - 1 - (j - 1) = 3 - 1 - j by omega] at h8
              exact h8
          · refine pt_ic eP_choose_73 ?_
            refine pt_goto eP_choose_75 ?_
            refine pt_iast eP_choose_79 hCh (by omega) (by omega) (by decide) ?_
            refine pt_gen ?_
            intro hp9 ev9
            have hP := pg_n ev9 (by omega) hP
            have hCh := pg_s ev9
            have hWa := pg_n ev9 (by omega) hWa
            have hNo := pg_n ev9 (by omega) hNo
            refine pt_ic eP_choose_80 ?_
            refine pt_iret (eP_choose_81 (by omega)) (Nat.le_refl _) (Nat.le_refl _) ?_
            have hlt : lfc N gd 2 ((l + 1 : Nat) : Int) (nxs N l s c) (t - cst c) < 5 ^ 2 := by
              by_cases h9 : lfc N gd 2 ((l + 1 : Nat) : Int) (nxs N l s c) (t - cst c) < 5 ^ 2
              · exact h9
              · rw [if_neg h9] at c61; omega
            have hst : lfc N gd 3 l s t = (c + 1).toNat * 5 ^ 2 + lfc N gd 2 ((l + 1 : Nat) : Int) (nxs N l s c) (t - cst c) := lfc_step (m := 2) (l := (l : Int)) (s := s) (t := t) hc0 hcg ig4 hbef hlt
            have hc5 : (c + 1).toNat * 5 ^ 2 + 5 ^ 2 ≤ 5 ^ 3 := by
              have := Nat.mul_le_mul_right (5 ^ 2) (show (c + 1).toNat + 1 ≤ 5 by omega)
              rw [Nat.add_mul, Nat.one_mul] at this
              exact Nat.le_trans this (by decide)
            have hlt2 : lfc N gd 3 l s t < 5 ^ 3 := by rw [hst]; omega
            refine ⟨by rw [if_pos hlt2], rfl, _, by rw [ev9, hww, bx_uu], fun _ j hj => ?_⟩
            rw [hst]
            rcases (show j = 0 ∨ 1 ≤ j by omega) with hj0 | hj0
            · rw [hj0, Nat.add_zero, uI_s, show 3 - 1 - 0 = 2 from rfl, fdg_hi (by omega) hlt]
              first
              | (exfalso; omega)
              | (rw [if_pos (by omega)])
              | (rw [if_neg (by omega)]; omega)
            · rw [uI_n _ _ (by omega), fdg_lo (by omega)]
              have h8 := hc9 hlt (j - 1) (by omega)
              rw [show ((l + 1 + (j - 1) : Nat) : Int) = ((l + j : Nat) : Int) by omega, show 2 - 1 - (j - 1) = 3 - 1 - j by omega] at h8
              exact h8
theorem cP_choose_3 (G : pd_G) (sz : Nat) (hp : pd_P) {gd : Int} {N : NX} {T wf nf cf s : Int → Int} {L l : Nat} {t : Int} (hP : hp 58 = PO (L : Int) gd) (hCh : hp 59 = ia 6 cf) (hWa : hp 61 = ia 512 wf) (hNo : hp 62 = ia 4 nf) (ig0 : 0 ≤ gd) (ig4 : gd ≤ 4) (hL6 : L ≤ 6) (hLl : L = l + 3) (hwf : ∀ (g : Int) (l x : Nat), 0 ≤ g → g < gd → l ≤ L → 2 ^ l ≤ x → x < 2 ^ (l + 1) → wf (128 * g + (x : Int)) = wn N g (L - l) l (tn N g (T g) l x)) (hnf : ∀ g : Int, 0 ≤ g → g < gd → ∃ x : Nat, nf g = (x : Int) ∧ 2 ^ l ≤ x ∧ x < 2 ^ (l + 1) ∧ s g = tn N g (T g) l x) (ht0 : -1 ≤ t) (ht6 : t ≤ 6) : pd_c G mP_choose 4 [vr 58, vi (l : Int), vi t] sz hp (fun v' sz' hp' => v' = some (vi (if lfc N gd 3 l s t < 5 ^ 3 then 1 else 0)) ∧ sz' = sz ∧ ∃ cf' : Int → Int, hp' = va_up hp 59 (ia 6 cf') ∧ (lfc N gd 3 l s t < 5 ^ 3 → ∀ j : Nat, j < 3 → cf' ((l + j : Nat) : Int) = fdg (lfc N gd 3 l s t) (3 - 1 - j))) := by
  refine pd_con kP_choose [some (vr 58), some (vi (l : Int)), some (vi t), none, none] rfl rfl (Nat.le_of_ble_eq_true rfl) ?_
  have hp7 := p2_le (show l + 1 ≤ 7 by omega)
  have hnb : ∀ g, 0 ≤ g → g < gd → 0 ≤ nf g ∧ nf g < 128 := fun g k0 k1 => by
    obtain ⟨x, x0, x1, x2, x3⟩ := hnf g k0 k1
    omega
  have hsm : sm (fun g => wf (128 * g + nf g)) gd.toNat = aw N 3 l s gd.toNat := by
    refine sm_congr _ (fun g hg => ?_)
    obtain ⟨x, x0, x1, x2, x3⟩ := hnf g (by omega) (by omega)
    show wf (128 * (g : Int) + nf g) = wn N g 3 l (s g)
    rw [x0, hwf g l x (by omega) (by omega) (by omega) x1 x2, x3, show L - l = 3 by omega]
  have hab := aw_b (N := N) (m := 3) (l := (l : Int)) (s := s) gd.toNat
  refine pt_aload eP_choose_0 rfl ?_
  refine pt_kv0r eP_choose_1 (cP_allWanted G sz _ hP hWa hNo ig0 ig4 hnb) hP rfl (Nat.le_of_ble_eq_true rfl) (by decide) (Nat.le_refl _) (Nat.le_refl _) ?_
  rw [hsm]
  refine pt_iload eP_choose_4 rfl ?_
  refine pt_cle eP_choose_5 ⟨by omega, by omega⟩ ⟨by omega, by omega⟩ (fun c5 => ?_) (fun c5 => ?_)
  · refine pt_iload eP_choose_10 rfl ?_
    refine pt_aload eP_choose_11 rfl ?_
    refine pt_get eP_choose_12 hP rfl ?_
    refine pt_clt eP_choose_15 ⟨by omega, by omega⟩ ⟨by omega, by omega⟩ (fun c15 => ?_) (fun c15 => ?_)
    · refine pt_ic eP_choose_20 ?_
      refine pt_istore3 eP_choose_21 rfl ?_
      exact lP_ch_3 G sz hp hP hCh hWa hNo ig0 ig4 hL6 hLl hwf hnf ht0 ht6 (by omega) (gd + 1).toNat (-1) cf none hp (by omega) (by omega) (pu_self hCh) (fun c1 k1 k2 => absurd k2 (by omega))
    · refine pt_ic eP_choose_18 ?_
      refine pt_iret (eP_choose_19 (by omega)) (Nat.le_refl _) (Nat.le_refl _) ?_
      exfalso; omega
  · refine pt_ic eP_choose_8 ?_
    refine pt_iret (eP_choose_9 (by omega)) (Nat.le_refl _) (Nat.le_refl _) ?_
    have h9 := lfc_aw (m := 3) (l := (l : Int)) (s := s) ig0 (show t < aw N 3 l s gd.toNat by omega)
    exact ⟨by rw [if_neg (by omega)], rfl, cf, pu_self hCh, fun h => absurd h (by omega)⟩
theorem lP_ch_4 (G : pd_G) (sz : Nat) (hp : pd_P) {gd : Int} {N : NX} {T wf nf cf s : Int → Int} {L l : Nat} {t : Int} (hP : hp 58 = PO (L : Int) gd) (hCh : hp 59 = ia 6 cf) (hWa : hp 61 = ia 512 wf) (hNo : hp 62 = ia 4 nf) (ig0 : 0 ≤ gd) (ig4 : gd ≤ 4) (hL6 : L ≤ 6) (hLl : L = l + 4) (hwf : ∀ (g : Int) (l x : Nat), 0 ≤ g → g < gd → l ≤ L → 2 ^ l ≤ x → x < 2 ^ (l + 1) → wf (128 * g + (x : Int)) = wn N g (L - l) l (tn N g (T g) l x)) (hnf : ∀ g : Int, 0 ≤ g → g < gd → ∃ x : Nat, nf g = (x : Int) ∧ 2 ^ l ≤ x ∧ x < 2 ^ (l + 1) ∧ s g = tn N g (T g) l x) (ht0 : -1 ≤ t) (ht6 : t ≤ 6) (ht00 : 0 ≤ t) : ∀ (n : Nat) (c : Int) (cf : Int → Int) (l4 : Option pv) (hp0 : pd_P), c + n = gd → -1 ≤ c → hp0 = va_up hp 59 (ia 6 cf) → (∀ c1, -1 ≤ c1 → c1 < c → lfc N gd 3 ((l + 1 : Nat) : Int) (nxs N l s c1) (t - cst c1) = 5 ^ 3) → pd_t G mP_choose 5 (fun v' sz' hp' => v' = some (vi (if lfc N gd 4 l s t < 5 ^ 4 then 1 else 0)) ∧ sz' = sz ∧ ∃ cf' : Int → Int, hp' = va_up hp 59 (ia 6 cf') ∧ (lfc N gd 4 l s t < 5 ^ 4 → ∀ j : Nat, j < 4 → cf' ((l + j : Nat) : Int) = fdg (lfc N gd 4 l s t) (4 - 1 - j))) 22 [some (vr 58), some (vi (l : Int)), some (vi t), some (vi c), l4] [] sz hp0 := by
  intro n
  induction n with
  | zero =>
    intro c cf l4 hp0 hcE hc0 he0 hbef
    have hce : c = gd := by omega
    have hP := pg_n he0 (by decide) hP
    have h9 : lfc N gd 4 l s t = 5 ^ 4 := lfc_fail (m := 3) (l := (l : Int)) (s := s) (t := t) ig4 (fun c1 k1 k2 => hbef c1 k1 (by omega))
    refine pt_iload eP_choose_22 rfl ?_
    refine pt_aload eP_choose_23 rfl ?_
    refine pt_get eP_choose_24 hP rfl ?_
    refine pt_cge eP_choose_27 ⟨by omega, by omega⟩ ⟨by omega, by omega⟩ (fun c27 => ?_) (fun c27 => ?_)
    · refine pt_ic eP_choose_88 ?_
      refine pt_iret (eP_choose_89 (by omega)) (Nat.le_refl _) (Nat.le_refl _) ?_
      exact ⟨by rw [if_neg (by omega)], rfl, cf, he0, fun h => absurd h (by omega)⟩
    · exfalso; omega
  | succ n ih =>
    intro c cf l4 hp0 hcE hc0 he0 hbef
    have hP := pg_n he0 (by decide) hP
    have hCh := pg_s he0
    have hWa := pg_n he0 (by decide) hWa
    have hNo := pg_n he0 (by decide) hNo
    refine pt_iload eP_choose_22 rfl ?_
    refine pt_aload eP_choose_23 rfl ?_
    refine pt_get eP_choose_24 hP rfl ?_
    refine pt_cge eP_choose_27 ⟨by omega, by omega⟩ ⟨by omega, by omega⟩ (fun c27 => ?_) (fun c27 => ?_)
    · exfalso; omega
    · have hcg : c < gd := by omega
      have hNo0 := hNo
      refine pt_aload eP_choose_30 rfl ?_
      refine pt_iload eP_choose_31 rfl ?_
      refine pt_kv1 eP_choose_32 (cP_descend G sz _ hP hNo ig0 ig4 hc0 (by omega)) hP rfl (Nat.le_of_ble_eq_true rfl) (by decide) (Nat.le_refl _) (Nat.le_refl _) ?_
      rintro v2 sz2 hpx ⟨rfl, hz9, hx9⟩
      obtain rfl := hz9.symm
      have hP := pg_n hx9 (by decide) hP
      have hCh := pg_n hx9 (by decide) hCh
      have hWa := pg_n hx9 (by decide) hWa
      have hNo := pg_s hx9
      have hnf2 : ∀ g : Int, 0 ≤ g → g < gd → ∃ x : Nat, blk nf (fun x => 2 * nf x + (if x = c then 1 else 0)) 0 gd g = (x : Int) ∧ 2 ^ (l + 1) ≤ x ∧ x < 2 ^ (l + 1 + 1) ∧ nxs N l s c g = tn N g (T g) (l + 1) x := fun g k0 k1 => by
        obtain ⟨x, x0, x1, x2, x3⟩ := hnf g k0 k1
        have q1 := p2_s l
        have q2 := p2_s (l + 1)
        have hN9 : nxs N l s c g = N l g (if g = c then 1 else 0) (s g) := rfl
        rw [blk_in k0 (by omega), show g - 0 = g by omega, x0, hN9]
        by_cases hgc : g = c
        · rw [if_pos hgc]
          exact ⟨2 * x + 1, by omega, by omega, by omega, by rw [tn_1, ← x3]⟩
        · rw [if_neg hgc]
          exact ⟨2 * x, by omega, by omega, by omega, by rw [tn_0, ← x3]⟩
      have hnb2 : ∀ g, 0 ≤ g → g < gd → 0 ≤ blk nf (fun x => 2 * nf x + (if x = c then 1 else 0)) 0 gd g ∧ blk nf (fun x => 2 * nf x + (if x = c then 1 else 0)) 0 gd g < 1000 := fun g k0 k1 => by
        have hp8 := p2_le (show l + 1 + 1 ≤ 8 by omega)
        obtain ⟨x, x0, x1, x2, x3⟩ := hnf2 g k0 k1
        omega
      have hcb := cst_b c
      refine pt_aload eP_choose_35 rfl ?_
      refine pt_iload eP_choose_36 rfl ?_
      refine pt_ic eP_choose_37 ?_
      refine pt_iadd eP_choose_38 ?_
      refine pt_iload eP_choose_39 rfl ?_
      refine pt_zge eP_choose_40 ⟨by omega, by omega⟩ (fun c40 => ?_) (fun c40 => ?_)
      · refine pt_iload eP_choose_47 rfl ?_
        refine pt_ic eP_choose_48 ?_
        refine pt_isub eP_choose_49 ?_
        refine pt_ste (st2 := [vi (t - cst c), vi ((l + 1 : Nat) : Int), vr 58]) (by unfold cst; first | (rw [if_pos (by omega), Int.sub_zero]; rfl) | (rw [if_neg (by omega)]; rfl)) ?_
        refine pt_ks3 eP_choose_50 (cP_choose_3 G sz _ (s := nxs N l s c) (l := l + 1) hP hCh hWa hNo ig0 ig4 hL6 (by omega) hwf hnf2 (by omega) (by omega)) (Nat.le_of_ble_eq_true rfl) (by decide) (Nat.le_refl _) (Nat.le_refl _) ?_
        rintro v2 sz2 hpy ⟨rfl, hz9, cf9, hy9, hc9⟩
        obtain rfl := hz9.symm
        have hP := pg_n hy9 (by decide) hP
        have hCh := pg_s hy9
        have hWa := pg_n hy9 (by decide) hWa
        have hNo := pg_n hy9 (by decide) hNo
        refine pt_istore4 eP_choose_53 rfl ?_
        refine pt_aload eP_choose_55 rfl ?_
        refine pt_kv0 eP_choose_56 (cP_ascend G sz _ hP hNo ig0 ig4 hnb2) hP rfl (Nat.le_of_ble_eq_true rfl) (by decide) (Nat.le_refl _) (Nat.le_refl _) ?_
        rintro v2 sz2 hpz ⟨rfl, hz9, hz8⟩
        obtain rfl := hz9.symm
        have hP := pg_n hz8 (by decide) hP
        have hCh := pg_n hz8 (by decide) hCh
        have hWa := pg_n hz8 (by decide) hWa
        have hNo := pg_s hz8
        have hww : hpz = va_up hp 59 (ia 6 cf9) := by
          rw [hz8, hy9, hx9, bx_3 (by decide), dn_up, ← pu_self hNo0, he0, bx_uu]
        refine pt_iload eP_choose_59 rfl ?_
        refine pt_zeq eP_choose_61 ⟨by split <;> omega, by split <;> omega⟩ (fun c61 => ?_) (fun c61 => ?_)
        · refine pt_inc3 eP_choose_82 rfl ?_
          refine pt_goto eP_choose_85 ?_
          have hge : lfc N gd 3 ((l + 1 : Nat) : Int) (nxs N l s c) (t - cst c) = 5 ^ 3 := by
            have hle := lfc_le (N := N) (gd := gd) (m := 3) (l := ((l + 1 : Nat) : Int)) (s := nxs N l s c) (t := t - cst c)
            rcases (show lfc N gd 3 ((l + 1 : Nat) : Int) (nxs N l s c) (t - cst c) < 5 ^ 3 ∨ lfc N gd 3 ((l + 1 : Nat) : Int) (nxs N l s c) (t - cst c) = 5 ^ 3 by omega) with h9 | h9
            · rw [if_pos h9] at c61; omega
            · exact h9
          exact ih (c + 1) cf9 _ hpz (by omega) (by omega) hww (fun c1 k1 k2 => by
            by_cases hcc : c1 = c
            · rw [hcc]; exact hge
            · exact hbef c1 k1 (by omega))
        · refine pt_aload eP_choose_64 rfl ?_
          refine pt_get eP_choose_65 hP rfl ?_
          refine pt_iload eP_choose_68 rfl ?_
          refine pt_iload eP_choose_69 rfl ?_
          refine pt_zge eP_choose_70 ⟨by omega, by omega⟩ (fun c70 => ?_) (fun c70 => ?_)
          · refine pt_iload eP_choose_78 rfl ?_
            refine pt_iast eP_choose_79 hCh (by omega) (by omega) (by decide) ?_
            refine pt_gen ?_
            intro hp4 ev4
            have hP := pg_n ev4 (by omega) hP
            have hCh := pg_s ev4
            have hWa := pg_n ev4 (by omega) hWa
            have hNo := pg_n ev4 (by omega) hNo
            refine pt_ic eP_choose_80 ?_
            refine pt_iret (eP_choose_81 (by omega)) (Nat.le_refl _) (Nat.le_refl _) ?_
            have hlt : lfc N gd 3 ((l + 1 : Nat) : Int) (nxs N l s c) (t - cst c) < 5 ^ 3 := by
              by_cases h9 : lfc N gd 3 ((l + 1 : Nat) : Int) (nxs N l s c) (t - cst c) < 5 ^ 3
              · exact h9
              · rw [if_neg h9] at c61; omega
            have hst : lfc N gd 4 l s t = (c + 1).toNat * 5 ^ 3 + lfc N gd 3 ((l + 1 : Nat) : Int) (nxs N l s c) (t - cst c) := lfc_step (m := 3) (l := (l : Int)) (s := s) (t := t) hc0 hcg ig4 hbef hlt
            have hc5 : (c + 1).toNat * 5 ^ 3 + 5 ^ 3 ≤ 5 ^ 4 := by
              have := Nat.mul_le_mul_right (5 ^ 3) (show (c + 1).toNat + 1 ≤ 5 by omega)
              rw [Nat.add_mul, Nat.one_mul] at this
              exact Nat.le_trans this (by decide)
            have hlt2 : lfc N gd 4 l s t < 5 ^ 4 := by rw [hst]; omega
            refine ⟨by rw [if_pos hlt2], rfl, _, by rw [ev4, hww, bx_uu], fun _ j hj => ?_⟩
            rw [hst]
            rcases (show j = 0 ∨ 1 ≤ j by omega) with hj0 | hj0
            · rw [hj0, Nat.add_zero, uI_s, show 4 - 1 - 0 = 3 from rfl, fdg_hi (by omega) hlt]
              first
              | (exfalso; omega)
              | (rw [if_pos (by omega)])
              | (rw [if_neg (by omega)]; omega)
            · rw [uI_n _ _ (by omega), fdg_lo (by omega)]
              have h8 := hc9 hlt (j - 1) (by omega)
              rw [show ((l + 1 + (j - 1) : Nat) : Int) = ((l + j : Nat) : Int) by omega, show 3 - 1 - (j - 1) = 4 - 1 - j by omega] at h8
              exact h8
          · refine pt_ic eP_choose_73 ?_
            refine pt_goto eP_choose_75 ?_
            refine pt_iast eP_choose_79 hCh (by omega) (by omega) (by decide) ?_
            refine pt_gen ?_
            intro hp5 ev5
            have hP := pg_n ev5 (by omega) hP
            have hCh := pg_s ev5
            have hWa := pg_n ev5 (by omega) hWa
            have hNo := pg_n ev5 (by omega) hNo
            refine pt_ic eP_choose_80 ?_
            refine pt_iret (eP_choose_81 (by omega)) (Nat.le_refl _) (Nat.le_refl _) ?_
            have hlt : lfc N gd 3 ((l + 1 : Nat) : Int) (nxs N l s c) (t - cst c) < 5 ^ 3 := by
              by_cases h9 : lfc N gd 3 ((l + 1 : Nat) : Int) (nxs N l s c) (t - cst c) < 5 ^ 3
              · exact h9
              · rw [if_neg h9] at c61; omega
            have hst : lfc N gd 4 l s t = (c + 1).toNat * 5 ^ 3 + lfc N gd 3 ((l + 1 : Nat) : Int) (nxs N l s c) (t - cst c) := lfc_step (m := 3) (l := (l : Int)) (s := s) (t := t) hc0 hcg ig4 hbef hlt
            have hc5 : (c + 1).toNat * 5 ^ 3 + 5 ^ 3 ≤ 5 ^ 4 := by
              have := Nat.mul_le_mul_right (5 ^ 3) (show (c + 1).toNat + 1 ≤ 5 by omega)
              rw [Nat.add_mul, Nat.one_mul] at this
              exact Nat.le_trans this (by decide)
            have hlt2 : lfc N gd 4 l s t < 5 ^ 4 := by rw [hst]; omega
            refine ⟨by rw [if_pos hlt2], rfl, _, by rw [ev5, hww, bx_uu], fun _ j hj => ?_⟩
            rw [hst]
            rcases (show j = 0 ∨ 1 ≤ j by omega) with hj0 | hj0
            · rw [hj0, Nat.add_zero, uI_s, show 4 - 1 - 0 = 3 from rfl, fdg_hi (by omega) hlt]
              first
              | (exfalso; omega)
              | (rw [if_pos (by omega)])
              | (rw [if_neg (by omega)]; omega)
            · rw [uI_n _ _ (by omega), fdg_lo (by omega)]
              have h8 := hc9 hlt (j - 1) (by omega)
              rw [show ((l + 1 + (j - 1) : Nat) : Int) = ((l + j : Nat) : Int) by omega, show 3 - 1 - (j - 1) = 4 - 1 - j by omega] at h8
              exact h8
      · refine pt_iload eP_choose_43 rfl ?_
        refine pt_goto eP_choose_44 ?_
        refine pt_ste (st2 := [vi (t - cst c), vi ((l + 1 : Nat) : Int), vr 58]) (by unfold cst; first | (rw [if_pos (by omega), Int.sub_zero]; rfl) | (rw [if_neg (by omega)]; rfl)) ?_
        refine pt_ks3 eP_choose_50 (cP_choose_3 G sz _ (s := nxs N l s c) (l := l + 1) hP hCh hWa hNo ig0 ig4 hL6 (by omega) hwf hnf2 (by omega) (by omega)) (Nat.le_of_ble_eq_true rfl) (by decide) (Nat.le_refl _) (Nat.le_refl _) ?_
        rintro v2 sz2 hpy ⟨rfl, hz9, cf9, hy9, hc9⟩
        obtain rfl := hz9.symm
        have hP := pg_n hy9 (by decide) hP
        have hCh := pg_s hy9
        have hWa := pg_n hy9 (by decide) hWa
        have hNo := pg_n hy9 (by decide) hNo
        refine pt_istore4 eP_choose_53 rfl ?_
        refine pt_aload eP_choose_55 rfl ?_
        refine pt_kv0 eP_choose_56 (cP_ascend G sz _ hP hNo ig0 ig4 hnb2) hP rfl (Nat.le_of_ble_eq_true rfl) (by decide) (Nat.le_refl _) (Nat.le_refl _) ?_
        rintro v2 sz2 hpz ⟨rfl, hz9, hz8⟩
        obtain rfl := hz9.symm
        have hP := pg_n hz8 (by decide) hP
        have hCh := pg_n hz8 (by decide) hCh
        have hWa := pg_n hz8 (by decide) hWa
        have hNo := pg_s hz8
        have hww : hpz = va_up hp 59 (ia 6 cf9) := by
          rw [hz8, hy9, hx9, bx_3 (by decide), dn_up, ← pu_self hNo0, he0, bx_uu]
        refine pt_iload eP_choose_59 rfl ?_
        refine pt_zeq eP_choose_61 ⟨by split <;> omega, by split <;> omega⟩ (fun c61 => ?_) (fun c61 => ?_)
        · refine pt_inc3 eP_choose_82 rfl ?_
          refine pt_goto eP_choose_85 ?_
          have hge : lfc N gd 3 ((l + 1 : Nat) : Int) (nxs N l s c) (t - cst c) = 5 ^ 3 := by
            have hle := lfc_le (N := N) (gd := gd) (m := 3) (l := ((l + 1 : Nat) : Int)) (s := nxs N l s c) (t := t - cst c)
            rcases (show lfc N gd 3 ((l + 1 : Nat) : Int) (nxs N l s c) (t - cst c) < 5 ^ 3 ∨ lfc N gd 3 ((l + 1 : Nat) : Int) (nxs N l s c) (t - cst c) = 5 ^ 3 by omega) with h9 | h9
            · rw [if_pos h9] at c61; omega
            · exact h9
          exact ih (c + 1) cf9 _ hpz (by omega) (by omega) hww (fun c1 k1 k2 => by
            by_cases hcc : c1 = c
            · rw [hcc]; exact hge
            · exact hbef c1 k1 (by omega))
        · refine pt_aload eP_choose_64 rfl ?_
          refine pt_get eP_choose_65 hP rfl ?_
          refine pt_iload eP_choose_68 rfl ?_
          refine pt_iload eP_choose_69 rfl ?_
          refine pt_zge eP_choose_70 ⟨by omega, by omega⟩ (fun c70 => ?_) (fun c70 => ?_)
          · refine pt_iload eP_choose_78 rfl ?_
            refine pt_iast eP_choose_79 hCh (by omega) (by omega) (by decide) ?_
            refine pt_gen ?_
            intro hp8 ev8
            have hP := pg_n ev8 (by omega) hP
            have hCh := pg_s ev8
            have hWa := pg_n ev8 (by omega) hWa
            have hNo := pg_n ev8 (by omega) hNo
            refine pt_ic eP_choose_80 ?_
            refine pt_iret (eP_choose_81 (by omega)) (Nat.le_refl _) (Nat.le_refl _) ?_
            have hlt : lfc N gd 3 ((l + 1 : Nat) : Int) (nxs N l s c) (t - cst c) < 5 ^ 3 := by
              by_cases h9 : lfc N gd 3 ((l + 1 : Nat) : Int) (nxs N l s c) (t - cst c) < 5 ^ 3
              · exact h9
              · rw [if_neg h9] at c61; omega
            have hst : lfc N gd 4 l s t = (c + 1).toNat * 5 ^ 3 + lfc N gd 3 ((l + 1 : Nat) : Int) (nxs N l s c) (t - cst c) := lfc_step (m := 3) (l := (l : Int)) (s := s) (t := t) hc0 hcg ig4 hbef hlt
            have hc5 : (c + 1).toNat * 5 ^ 3 + 5 ^ 3 ≤ 5 ^ 4 := by
              have := Nat.mul_le_mul_right (5 ^ 3) (show (c + 1).toNat + 1 ≤ 5 by omega)
              rw [Nat.add_mul, Nat.one_mul] at this
              exact Nat.le_trans this (by decide)
            have hlt2 : lfc N gd 4 l s t < 5 ^ 4 := by rw [hst]; omega
            refine ⟨by rw [if_pos hlt2], rfl, _, by rw [ev8, hww, bx_uu], fun _ j hj => ?_⟩
            rw [hst]
            rcases (show j = 0 ∨ 1 ≤ j by omega) with hj0 | hj0
            · rw [hj0, Nat.add_zero, uI_s, show 4 - 1 - 0 = 3 from rfl, fdg_hi (by omega) hlt]
              first
              | (exfalso; omega)
              | (rw [if_pos (by omega)])
              | (rw [if_neg (by omega)]; omega)
            · rw [uI_n _ _ (by omega), fdg_lo (by omega)]
              have h8 := hc9 hlt (j - 1) (by omega)
              rw [show ((l + 1 + (j - 1) : Nat) : Int) = ((l + j : Nat) : Int) by omega, show 3 - 1 - (j - 1) = 4 - 1 - j by omega] at h8
              exact h8
          · refine pt_ic eP_choose_73 ?_
            refine pt_goto eP_choose_75 ?_
            refine pt_iast eP_choose_79 hCh (by omega) (by omega) (by decide) ?_
            refine pt_gen ?_
            intro hp9 ev9
            have hP := pg_n ev9 (by omega) hP
            have hCh := pg_s ev9
            have hWa := pg_n ev9 (by omega) hWa
            have hNo := pg_n ev9 (by omega) hNo
            refine pt_ic eP_choose_80 ?_
            refine pt_iret (eP_choose_81 (by omega)) (Nat.le_refl _) (Nat.le_refl _) ?_
            have hlt : lfc N gd 3 ((l + 1 : Nat) : Int) (nxs N l s c) (t - cst c) < 5 ^ 3 := by
              by_cases h9 : lfc N gd 3 ((l + 1 : Nat) : Int) (nxs N l s c) (t - cst c) < 5 ^ 3
              · exact h9
              · rw [if_neg h9] at c61; omega
            have hst : lfc N gd 4 l s t = (c + 1).toNat * 5 ^ 3 + lfc N gd 3 ((l + 1 : Nat) : Int) (nxs N l s c) (t - cst c) := lfc_step (m := 3) (l := (l : Int)) (s := s) (t := t) hc0 hcg ig4 hbef hlt
            have hc5 : (c + 1).toNat * 5 ^ 3 + 5 ^ 3 ≤ 5 ^ 4 := by
              have := Nat.mul_le_mul_right (5 ^ 3) (show (c + 1).toNat + 1 ≤ 5 by omega)
              rw [Nat.add_mul, Nat.one_mul] at this
              exact Nat.le_trans this (by decide)
            have hlt2 : lfc N gd 4 l s t < 5 ^ 4 := by rw [hst]; omega
            refine ⟨by rw [if_pos hlt2], rfl, _, by rw [ev9, hww, bx_uu], fun _ j hj => ?_⟩
            rw [hst]
            rcases (show j = 0 ∨ 1 ≤ j by omega) with hj0 | hj0
            · rw [hj0, Nat.add_zero, uI_s, show 4 - 1 - 0 = 3 from rfl, fdg_hi (by omega) hlt]
              first
              | (exfalso; omega)
              | (rw [if_pos (by omega)])
              | (rw [if_neg (by omega)]; omega)
            · rw [uI_n _ _ (by omega), fdg_lo (by omega)]
              have h8 := hc9 hlt (j - 1) (by omega)
              rw [show ((l + 1 + (j - 1) : Nat) : Int) = ((l + j : Nat) : Int) by omega, show 3 - 1 - (j - 1) = 4 - 1 - j by omega] at h8
              exact h8
theorem cP_choose_4 (G : pd_G) (sz : Nat) (hp : pd_P) {gd : Int} {N : NX} {T wf nf cf s : Int → Int} {L l : Nat} {t : Int} (hP : hp 58 = PO (L : Int) gd) (hCh : hp 59 = ia 6 cf) (hWa : hp 61 = ia 512 wf) (hNo : hp 62 = ia 4 nf) (ig0 : 0 ≤ gd) (ig4 : gd ≤ 4) (hL6 : L ≤ 6) (hLl : L = l + 4) (hwf : ∀ (g : Int) (l x : Nat), 0 ≤ g → g < gd → l ≤ L → 2 ^ l ≤ x → x < 2 ^ (l + 1) → wf (128 * g + (x : Int)) = wn N g (L - l) l (tn N g (T g) l x)) (hnf : ∀ g : Int, 0 ≤ g → g < gd → ∃ x : Nat, nf g = (x : Int) ∧ 2 ^ l ≤ x ∧ x < 2 ^ (l + 1) ∧ s g = tn N g (T g) l x) (ht0 : -1 ≤ t) (ht6 : t ≤ 6) : pd_c G mP_choose 5 [vr 58, vi (l : Int), vi t] sz hp (fun v' sz' hp' => v' = some (vi (if lfc N gd 4 l s t < 5 ^ 4 then 1 else 0)) ∧ sz' = sz ∧ ∃ cf' : Int → Int, hp' = va_up hp 59 (ia 6 cf') ∧ (lfc N gd 4 l s t < 5 ^ 4 → ∀ j : Nat, j < 4 → cf' ((l + j : Nat) : Int) = fdg (lfc N gd 4 l s t) (4 - 1 - j))) := by
  refine pd_con kP_choose [some (vr 58), some (vi (l : Int)), some (vi t), none, none] rfl rfl (Nat.le_of_ble_eq_true rfl) ?_
  have hp7 := p2_le (show l + 1 ≤ 7 by omega)
  have hnb : ∀ g, 0 ≤ g → g < gd → 0 ≤ nf g ∧ nf g < 128 := fun g k0 k1 => by
    obtain ⟨x, x0, x1, x2, x3⟩ := hnf g k0 k1
    omega
  have hsm : sm (fun g => wf (128 * g + nf g)) gd.toNat = aw N 4 l s gd.toNat := by
    refine sm_congr _ (fun g hg => ?_)
    obtain ⟨x, x0, x1, x2, x3⟩ := hnf g (by omega) (by omega)
    show wf (128 * (g : Int) + nf g) = wn N g 4 l (s g)
    rw [x0, hwf g l x (by omega) (by omega) (by omega) x1 x2, x3, show L - l = 4 by omega]
  have hab := aw_b (N := N) (m := 4) (l := (l : Int)) (s := s) gd.toNat
  refine pt_aload eP_choose_0 rfl ?_
  refine pt_kv0r eP_choose_1 (cP_allWanted G sz _ hP hWa hNo ig0 ig4 hnb) hP rfl (Nat.le_of_ble_eq_true rfl) (by decide) (Nat.le_refl _) (Nat.le_refl _) ?_
  rw [hsm]
  refine pt_iload eP_choose_4 rfl ?_
  refine pt_cle eP_choose_5 ⟨by omega, by omega⟩ ⟨by omega, by omega⟩ (fun c5 => ?_) (fun c5 => ?_)
  · refine pt_iload eP_choose_10 rfl ?_
    refine pt_aload eP_choose_11 rfl ?_
    refine pt_get eP_choose_12 hP rfl ?_
    refine pt_clt eP_choose_15 ⟨by omega, by omega⟩ ⟨by omega, by omega⟩ (fun c15 => ?_) (fun c15 => ?_)
    · refine pt_ic eP_choose_20 ?_
      refine pt_istore3 eP_choose_21 rfl ?_
      exact lP_ch_4 G sz hp hP hCh hWa hNo ig0 ig4 hL6 hLl hwf hnf ht0 ht6 (by omega) (gd + 1).toNat (-1) cf none hp (by omega) (by omega) (pu_self hCh) (fun c1 k1 k2 => absurd k2 (by omega))
    · refine pt_ic eP_choose_18 ?_
      refine pt_iret (eP_choose_19 (by omega)) (Nat.le_refl _) (Nat.le_refl _) ?_
      exfalso; omega
  · refine pt_ic eP_choose_8 ?_
    refine pt_iret (eP_choose_9 (by omega)) (Nat.le_refl _) (Nat.le_refl _) ?_
    have h9 := lfc_aw (m := 4) (l := (l : Int)) (s := s) ig0 (show t < aw N 4 l s gd.toNat by omega)
    exact ⟨by rw [if_neg (by omega)], rfl, cf, pu_self hCh, fun h => absurd h (by omega)⟩
theorem lP_ch_5 (G : pd_G) (sz : Nat) (hp : pd_P) {gd : Int} {N : NX} {T wf nf cf s : Int → Int} {L l : Nat} {t : Int} (hP : hp 58 = PO (L : Int) gd) (hCh : hp 59 = ia 6 cf) (hWa : hp 61 = ia 512 wf) (hNo : hp 62 = ia 4 nf) (ig0 : 0 ≤ gd) (ig4 : gd ≤ 4) (hL6 : L ≤ 6) (hLl : L = l + 5) (hwf : ∀ (g : Int) (l x : Nat), 0 ≤ g → g < gd → l ≤ L → 2 ^ l ≤ x → x < 2 ^ (l + 1) → wf (128 * g + (x : Int)) = wn N g (L - l) l (tn N g (T g) l x)) (hnf : ∀ g : Int, 0 ≤ g → g < gd → ∃ x : Nat, nf g = (x : Int) ∧ 2 ^ l ≤ x ∧ x < 2 ^ (l + 1) ∧ s g = tn N g (T g) l x) (ht0 : -1 ≤ t) (ht6 : t ≤ 6) (ht00 : 0 ≤ t) : ∀ (n : Nat) (c : Int) (cf : Int → Int) (l4 : Option pv) (hp0 : pd_P), c + n = gd → -1 ≤ c → hp0 = va_up hp 59 (ia 6 cf) → (∀ c1, -1 ≤ c1 → c1 < c → lfc N gd 4 ((l + 1 : Nat) : Int) (nxs N l s c1) (t - cst c1) = 5 ^ 4) → pd_t G mP_choose 6 (fun v' sz' hp' => v' = some (vi (if lfc N gd 5 l s t < 5 ^ 5 then 1 else 0)) ∧ sz' = sz ∧ ∃ cf' : Int → Int, hp' = va_up hp 59 (ia 6 cf') ∧ (lfc N gd 5 l s t < 5 ^ 5 → ∀ j : Nat, j < 5 → cf' ((l + j : Nat) : Int) = fdg (lfc N gd 5 l s t) (5 - 1 - j))) 22 [some (vr 58), some (vi (l : Int)), some (vi t), some (vi c), l4] [] sz hp0 := by
  intro n
  induction n with
  | zero =>
    intro c cf l4 hp0 hcE hc0 he0 hbef
    have hce : c = gd := by omega
    have hP := pg_n he0 (by decide) hP
    have h9 : lfc N gd 5 l s t = 5 ^ 5 := lfc_fail (m := 4) (l := (l : Int)) (s := s) (t := t) ig4 (fun c1 k1 k2 => hbef c1 k1 (by omega))
    refine pt_iload eP_choose_22 rfl ?_
    refine pt_aload eP_choose_23 rfl ?_
    refine pt_get eP_choose_24 hP rfl ?_
    refine pt_cge eP_choose_27 ⟨by omega, by omega⟩ ⟨by omega, by omega⟩ (fun c27 => ?_) (fun c27 => ?_)
    · refine pt_ic eP_choose_88 ?_
      refine pt_iret (eP_choose_89 (by omega)) (Nat.le_refl _) (Nat.le_refl _) ?_
      exact ⟨by rw [if_neg (by omega)], rfl, cf, he0, fun h => absurd h (by omega)⟩
    · exfalso; omega
  | succ n ih =>
    intro c cf l4 hp0 hcE hc0 he0 hbef
    have hP := pg_n he0 (by decide) hP
    have hCh := pg_s he0
    have hWa := pg_n he0 (by decide) hWa
    have hNo := pg_n he0 (by decide) hNo
    refine pt_iload eP_choose_22 rfl ?_
    refine pt_aload eP_choose_23 rfl ?_
    refine pt_get eP_choose_24 hP rfl ?_
    refine pt_cge eP_choose_27 ⟨by omega, by omega⟩ ⟨by omega, by omega⟩ (fun c27 => ?_) (fun c27 => ?_)
    · exfalso; omega
    · have hcg : c < gd := by omega
      have hNo0 := hNo
      refine pt_aload eP_choose_30 rfl ?_
      refine pt_iload eP_choose_31 rfl ?_
      refine pt_kv1 eP_choose_32 (cP_descend G sz _ hP hNo ig0 ig4 hc0 (by omega)) hP rfl (Nat.le_of_ble_eq_true rfl) (by decide) (Nat.le_refl _) (Nat.le_refl _) ?_
      rintro v2 sz2 hpx ⟨rfl, hz9, hx9⟩
      obtain rfl := hz9.symm
      have hP := pg_n hx9 (by decide) hP
      have hCh := pg_n hx9 (by decide) hCh
      have hWa := pg_n hx9 (by decide) hWa
      have hNo := pg_s hx9
      have hnf2 : ∀ g : Int, 0 ≤ g → g < gd → ∃ x : Nat, blk nf (fun x => 2 * nf x + (if x = c then 1 else 0)) 0 gd g = (x : Int) ∧ 2 ^ (l + 1) ≤ x ∧ x < 2 ^ (l + 1 + 1) ∧ nxs N l s c g = tn N g (T g) (l + 1) x := fun g k0 k1 => by
        obtain ⟨x, x0, x1, x2, x3⟩ := hnf g k0 k1
        have q1 := p2_s l
        have q2 := p2_s (l + 1)
        have hN9 : nxs N l s c g = N l g (if g = c then 1 else 0) (s g) := rfl
        rw [blk_in k0 (by omega), show g - 0 = g by omega, x0, hN9]
        by_cases hgc : g = c
        · rw [if_pos hgc]
          exact ⟨2 * x + 1, by omega, by omega, by omega, by rw [tn_1, ← x3]⟩
        · rw [if_neg hgc]
          exact ⟨2 * x, by omega, by omega, by omega, by rw [tn_0, ← x3]⟩
      have hnb2 : ∀ g, 0 ≤ g → g < gd → 0 ≤ blk nf (fun x => 2 * nf x + (if x = c then 1 else 0)) 0 gd g ∧ blk nf (fun x => 2 * nf x + (if x = c then 1 else 0)) 0 gd g < 1000 := fun g k0 k1 => by
        have hp8 := p2_le (show l + 1 + 1 ≤ 8 by omega)
        obtain ⟨x, x0, x1, x2, x3⟩ := hnf2 g k0 k1
        omega
      have hcb := cst_b c
      refine pt_aload eP_choose_35 rfl ?_
      refine pt_iload eP_choose_36 rfl ?_
      refine pt_ic eP_choose_37 ?_
      refine pt_iadd eP_choose_38 ?_
      refine pt_iload eP_choose_39 rfl ?_
      refine pt_zge eP_choose_40 ⟨by omega, by omega⟩ (fun c40 => ?_) (fun c40 => ?_)
      · refine pt_iload eP_choose_47 rfl ?_
        refine pt_ic eP_choose_48 ?_
        refine pt_isub eP_choose_49 ?_
        refine pt_ste (st2 := [vi (t - cst c), vi ((l + 1 : Nat) : Int), vr 58]) (by unfold cst; first | (rw [if_pos (by omega), Int.sub_zero]; rfl) | (rw [if_neg (by omega)]; rfl)) ?_
        refine pt_ks3 eP_choose_50 (cP_choose_4 G sz _ (s := nxs N l s c) (l := l + 1) hP hCh hWa hNo ig0 ig4 hL6 (by omega) hwf hnf2 (by omega) (by omega)) (Nat.le_of_ble_eq_true rfl) (by decide) (Nat.le_refl _) (Nat.le_refl _) ?_
        rintro v2 sz2 hpy ⟨rfl, hz9, cf9, hy9, hc9⟩
        obtain rfl := hz9.symm
        have hP := pg_n hy9 (by decide) hP
        have hCh := pg_s hy9
        have hWa := pg_n hy9 (by decide) hWa
        have hNo := pg_n hy9 (by decide) hNo
        refine pt_istore4 eP_choose_53 rfl ?_
        refine pt_aload eP_choose_55 rfl ?_
        refine pt_kv0 eP_choose_56 (cP_ascend G sz _ hP hNo ig0 ig4 hnb2) hP rfl (Nat.le_of_ble_eq_true rfl) (by decide) (Nat.le_refl _) (Nat.le_refl _) ?_
        rintro v2 sz2 hpz ⟨rfl, hz9, hz8⟩
        obtain rfl := hz9.symm
        have hP := pg_n hz8 (by decide) hP
        have hCh := pg_n hz8 (by decide) hCh
        have hWa := pg_n hz8 (by decide) hWa
        have hNo := pg_s hz8
        have hww : hpz = va_up hp 59 (ia 6 cf9) := by
          rw [hz8, hy9, hx9, bx_3 (by decide), dn_up, ← pu_self hNo0, he0, bx_uu]
        refine pt_iload eP_choose_59 rfl ?_
        refine pt_zeq eP_choose_61 ⟨by split <;> omega, by split <;> omega⟩ (fun c61 => ?_) (fun c61 => ?_)
        · refine pt_inc3 eP_choose_82 rfl ?_
          refine pt_goto eP_choose_85 ?_
          have hge : lfc N gd 4 ((l + 1 : Nat) : Int) (nxs N l s c) (t - cst c) = 5 ^ 4 := by
            have hle := lfc_le (N := N) (gd := gd) (m := 4) (l := ((l + 1 : Nat) : Int)) (s := nxs N l s c) (t := t - cst c)
            rcases (show lfc N gd 4 ((l + 1 : Nat) : Int) (nxs N l s c) (t - cst c) < 5 ^ 4 ∨ lfc N gd 4 ((l + 1 : Nat) : Int) (nxs N l s c) (t - cst c) = 5 ^ 4 by omega) with h9 | h9
            · rw [if_pos h9] at c61; omega
            · exact h9
          exact ih (c + 1) cf9 _ hpz (by omega) (by omega) hww (fun c1 k1 k2 => by
            by_cases hcc : c1 = c
            · rw [hcc]; exact hge
            · exact hbef c1 k1 (by omega))
        · refine pt_aload eP_choose_64 rfl ?_
          refine pt_get eP_choose_65 hP rfl ?_
          refine pt_iload eP_choose_68 rfl ?_
          refine pt_iload eP_choose_69 rfl ?_
          refine pt_zge eP_choose_70 ⟨by omega, by omega⟩ (fun c70 => ?_) (fun c70 => ?_)
          · refine pt_iload eP_choose_78 rfl ?_
            refine pt_iast eP_choose_79 hCh (by omega) (by omega) (by decide) ?_
            refine pt_gen ?_
            intro hp4 ev4
            have hP := pg_n ev4 (by omega) hP
            have hCh := pg_s ev4
            have hWa := pg_n ev4 (by omega) hWa
            have hNo := pg_n ev4 (by omega) hNo
            refine pt_ic eP_choose_80 ?_
            refine pt_iret (eP_choose_81 (by omega)) (Nat.le_refl _) (Nat.le_refl _) ?_
            have hlt : lfc N gd 4 ((l + 1 : Nat) : Int) (nxs N l s c) (t - cst c) < 5 ^ 4 := by
              by_cases h9 : lfc N gd 4 ((l + 1 : Nat) : Int) (nxs N l s c) (t - cst c) < 5 ^ 4
              · exact h9
              · rw [if_neg h9] at c61; omega
            have hst : lfc N gd 5 l s t = (c + 1).toNat * 5 ^ 4 + lfc N gd 4 ((l + 1 : Nat) : Int) (nxs N l s c) (t - cst c) := lfc_step (m := 4) (l := (l : Int)) (s := s) (t := t) hc0 hcg ig4 hbef hlt
            have hc5 : (c + 1).toNat * 5 ^ 4 + 5 ^ 4 ≤ 5 ^ 5 := by
              have := Nat.mul_le_mul_right (5 ^ 4) (show (c + 1).toNat + 1 ≤ 5 by omega)
              rw [Nat.add_mul, Nat.one_mul] at this
              exact Nat.le_trans this (by decide)
            have hlt2 : lfc N gd 5 l s t < 5 ^ 5 := by rw [hst]; omega
            refine ⟨by rw [if_pos hlt2], rfl, _, by rw [ev4, hww, bx_uu], fun _ j hj => ?_⟩
            rw [hst]
            rcases (show j = 0 ∨ 1 ≤ j by omega) with hj0 | hj0
            · rw [hj0, Nat.add_zero, uI_s, show 5 - 1 - 0 = 4 from rfl, fdg_hi (by omega) hlt]
              first
              | (exfalso; omega)
              | (rw [if_pos (by omega)])
              | (rw [if_neg (by omega)]; omega)
            · rw [uI_n _ _ (by omega), fdg_lo (by omega)]
              have h8 := hc9 hlt (j - 1) (by omega)
              rw [show ((l + 1 + (j - 1) : Nat) : Int) = ((l + j : Nat) : Int) by omega, show 4 - 1 - (j - 1) = 5 - 1 - j by omega] at h8
              exact h8
          · refine pt_ic eP_choose_73 ?_
            refine pt_goto eP_choose_75 ?_
            refine pt_iast eP_choose_79 hCh (by omega) (by omega) (by decide) ?_
            refine pt_gen ?_
            intro hp5 ev5
            have hP := pg_n ev5 (by omega) hP
            have hCh := pg_s ev5
            have hWa := pg_n ev5 (by omega) hWa
            have hNo := pg_n ev5 (by omega) hNo
            refine pt_ic eP_choose_80 ?_
            refine pt_iret (eP_choose_81 (by omega)) (Nat.le_refl _) (Nat.le_refl _) ?_
            have hlt : lfc N gd 4 ((l + 1 : Nat) : Int) (nxs N l s c) (t - cst c) < 5 ^ 4 := by
              by_cases h9 : lfc N gd 4 ((l + 1 : Nat) : Int) (nxs N l s c) (t - cst c) < 5 ^ 4
              · exact h9
              · rw [if_neg h9] at c61; omega
            have hst : lfc N gd 5 l s t = (c + 1).toNat * 5 ^ 4 + lfc N gd 4 ((l + 1 : Nat) : Int) (nxs N l s c) (t - cst c) := lfc_step (m := 4) (l := (l : Int)) (s := s) (t := t) hc0 hcg ig4 hbef hlt
            have hc5 : (c + 1).toNat * 5 ^ 4 + 5 ^ 4 ≤ 5 ^ 5 := by
              have := Nat.mul_le_mul_right (5 ^ 4) (show (c + 1).toNat + 1 ≤ 5 by omega)
              rw [Nat.add_mul, Nat.one_mul] at this
              exact Nat.le_trans this (by decide)
            have hlt2 : lfc N gd 5 l s t < 5 ^ 5 := by rw [hst]; omega
            refine ⟨by rw [if_pos hlt2], rfl, _, by rw [ev5, hww, bx_uu], fun _ j hj => ?_⟩
            rw [hst]
            rcases (show j = 0 ∨ 1 ≤ j by omega) with hj0 | hj0
            · rw [hj0, Nat.add_zero, uI_s, show 5 - 1 - 0 = 4 from rfl, fdg_hi (by omega) hlt]
              first
              | (exfalso; omega)
              | (rw [if_pos (by omega)])
              | (rw [if_neg (by omega)]; omega)
            · rw [uI_n _ _ (by omega), fdg_lo (by omega)]
              have h8 := hc9 hlt (j - 1) (by omega)
              rw [show ((l + 1 + (j - 1) : Nat) : Int) = ((l + j : Nat) : Int) by omega, show 4 - 1 - (j - 1) = 5 - 1 - j by omega] at h8
              exact h8
      · refine pt_iload eP_choose_43 rfl ?_
        refine pt_goto eP_choose_44 ?_
        refine pt_ste (st2 := [vi (t - cst c), vi ((l + 1 : Nat) : Int), vr 58]) (by unfold cst; first | (rw [if_pos (by omega), Int.sub_zero]; rfl) | (rw [if_neg (by omega)]; rfl)) ?_
        refine pt_ks3 eP_choose_50 (cP_choose_4 G sz _ (s := nxs N l s c) (l := l + 1) hP hCh hWa hNo ig0 ig4 hL6 (by omega) hwf hnf2 (by omega) (by omega)) (Nat.le_of_ble_eq_true rfl) (by decide) (Nat.le_refl _) (Nat.le_refl _) ?_
        rintro v2 sz2 hpy ⟨rfl, hz9, cf9, hy9, hc9⟩
        obtain rfl := hz9.symm
        have hP := pg_n hy9 (by decide) hP
        have hCh := pg_s hy9
        have hWa := pg_n hy9 (by decide) hWa
        have hNo := pg_n hy9 (by decide) hNo
        refine pt_istore4 eP_choose_53 rfl ?_
        refine pt_aload eP_choose_55 rfl ?_
        refine pt_kv0 eP_choose_56 (cP_ascend G sz _ hP hNo ig0 ig4 hnb2) hP rfl (Nat.le_of_ble_eq_true rfl) (by decide) (Nat.le_refl _) (Nat.le_refl _) ?_
        rintro v2 sz2 hpz ⟨rfl, hz9, hz8⟩
        obtain rfl := hz9.symm
        have hP := pg_n hz8 (by decide) hP
        have hCh := pg_n hz8 (by decide) hCh
        have hWa := pg_n hz8 (by decide) hWa
        have hNo := pg_s hz8
        have hww : hpz = va_up hp 59 (ia 6 cf9) := by
          rw [hz8, hy9, hx9, bx_3 (by decide), dn_up, ← pu_self hNo0, he0, bx_uu]
        refine pt_iload eP_choose_59 rfl ?_
        refine pt_zeq eP_choose_61 ⟨by split <;> omega, by split <;> omega⟩ (fun c61 => ?_) (fun c61 => ?_)
        · refine pt_inc3 eP_choose_82 rfl ?_
          refine pt_goto eP_choose_85 ?_
          have hge : lfc N gd 4 ((l + 1 : Nat) : Int) (nxs N l s c) (t - cst c) = 5 ^ 4 := by
            have hle := lfc_le (N := N) (gd := gd) (m := 4) (l := ((l + 1 : Nat) : Int)) (s := nxs N l s c) (t := t - cst c)
            rcases (show lfc N gd 4 ((l + 1 : Nat) : Int) (nxs N l s c) (t - cst c) < 5 ^ 4 ∨ lfc N gd 4 ((l + 1 : Nat) : Int) (nxs N l s c) (t - cst c) = 5 ^ 4 by omega) with h9 | h9
            · rw [if_pos h9] at c61; omega
            · exact h9
          exact ih (c + 1) cf9 _ hpz (by omega) (by omega) hww (fun c1 k1 k2 => by
            by_cases hcc : c1 = c
            · rw [hcc]; exact hge
            · exact hbef c1 k1 (by omega))
        · refine pt_aload eP_choose_64 rfl ?_
          refine pt_get eP_choose_65 hP rfl ?_
          refine pt_iload eP_choose_68 rfl ?_
          refine pt_iload eP_choose_69 rfl ?_
          refine pt_zge eP_choose_70 ⟨by omega, by omega⟩ (fun c70 => ?_) (fun c70 => ?_)
          · refine pt_iload eP_choose_78 rfl ?_
            refine pt_iast eP_choose_79 hCh (by omega) (by omega) (by decide) ?_
            refine pt_gen ?_
            intro hp8 ev8
            have hP := pg_n ev8 (by omega) hP
            have hCh := pg_s ev8
            have hWa := pg_n ev8 (by omega) hWa
            have hNo := pg_n ev8 (by omega) hNo
            refine pt_ic eP_choose_80 ?_
            refine pt_iret (eP_choose_81 (by omega)) (Nat.le_refl _) (Nat.le_refl _) ?_
            have hlt : lfc N gd 4 ((l + 1 : Nat) : Int) (nxs N l s c) (t - cst c) < 5 ^ 4 := by
              by_cases h9 : lfc N gd 4 ((l + 1 : Nat) : Int) (nxs N l s c) (t - cst c) < 5 ^ 4
              · exact h9
              · rw [if_neg h9] at c61; omega
            have hst : lfc N gd 5 l s t = (c + 1).toNat * 5 ^ 4 + lfc N gd 4 ((l + 1 : Nat) : Int) (nxs N l s c) (t - cst c) := lfc_step (m := 4) (l := (l : Int)) (s := s) (t := t) hc0 hcg ig4 hbef hlt
            have hc5 : (c + 1).toNat * 5 ^ 4 + 5 ^ 4 ≤ 5 ^ 5 := by
              have := Nat.mul_le_mul_right (5 ^ 4) (show (c + 1).toNat + 1 ≤ 5 by omega)
              rw [Nat.add_mul, Nat.one_mul] at this
              exact Nat.le_trans this (by decide)
            have hlt2 : lfc N gd 5 l s t < 5 ^ 5 := by rw [hst]; omega
            refine ⟨by rw [if_pos hlt2], rfl, _, by rw [ev8, hww, bx_uu], fun _ j hj => ?_⟩
            rw [hst]
            rcases (show j = 0 ∨ 1 ≤ j by omega) with hj0 | hj0
            · rw [hj0, Nat.add_zero, uI_s, show 5 - 1 - 0 = 4 from rfl, fdg_hi (by omega) hlt]
              first
              | (exfalso; omega)
              | (rw [if_pos (by omega)])
              | (rw [if_neg (by omega)]; omega)
            · rw [uI_n _ _ (by omega), fdg_lo (by omega)]
              have h8 := hc9 hlt (j - 1) (by omega)
              rw [show ((l + 1 + (j - 1) : Nat) : Int) = ((l + j : Nat) : Int) by omega, show 4 - 1 - (j - 1) = 5 - 1 - j by omega] at h8
              exact h8
          · refine pt_ic eP_choose_73 ?_
            refine pt_goto eP_choose_75 ?_
            refine pt_iast eP_choose_79 hCh (by omega) (by omega) (by decide) ?_
            refine pt_gen ?_
            intro hp9 ev9
            have hP := pg_n ev9 (by omega) hP
            have hCh := pg_s ev9
            have hWa := pg_n ev9 (by omega) hWa
            have hNo := pg_n ev9 (by omega) hNo
            refine pt_ic eP_choose_80 ?_
            refine pt_iret (eP_choose_81 (by omega)) (Nat.le_refl _) (Nat.le_refl _) ?_
            have hlt : lfc N gd 4 ((l + 1 : Nat) : Int) (nxs N l s c) (t - cst c) < 5 ^ 4 := by
              by_cases h9 : lfc N gd 4 ((l + 1 : Nat) : Int) (nxs N l s c) (t - cst c) < 5 ^ 4
              · exact h9
              · rw [if_neg h9] at c61; omega
            have hst : lfc N gd 5 l s t = (c + 1).toNat * 5 ^ 4 + lfc N gd 4 ((l + 1 : Nat) : Int) (nxs N l s c) (t - cst c) := lfc_step (m := 4) (l := (l : Int)) (s := s) (t := t) hc0 hcg ig4 hbef hlt
            have hc5 : (c + 1).toNat * 5 ^ 4 + 5 ^ 4 ≤ 5 ^ 5 := by
              have := Nat.mul_le_mul_right (5 ^ 4) (show (c + 1).toNat + 1 ≤ 5 by omega)
              rw [Nat.add_mul, Nat.one_mul] at this
              exact Nat.le_trans this (by decide)
            have hlt2 : lfc N gd 5 l s t < 5 ^ 5 := by rw [hst]; omega
            refine ⟨by rw [if_pos hlt2], rfl, _, by rw [ev9, hww, bx_uu], fun _ j hj => ?_⟩
            rw [hst]
            rcases (show j = 0 ∨ 1 ≤ j by omega) with hj0 | hj0
            · rw [hj0, Nat.add_zero, uI_s, show 5 - 1 - 0 = 4 from rfl, fdg_hi (by omega) hlt]
              first
              | (exfalso; omega)
              | (rw [if_pos (by omega)])
              | (rw [if_neg (by omega)]; omega)
            · rw [uI_n _ _ (by omega), fdg_lo (by omega)]
              have h8 := hc9 hlt (j - 1) (by omega)
              rw [show ((l + 1 + (j - 1) : Nat) : Int) = ((l + j : Nat) : Int) by omega, show 4 - 1 - (j - 1) = 5 - 1 - j by omega] at h8
              exact h8
theorem cP_choose_5 (G : pd_G) (sz : Nat) (hp : pd_P) {gd : Int} {N : NX} {T wf nf cf s : Int → Int} {L l : Nat} {t : Int} (hP : hp 58 = PO (L : Int) gd) (hCh : hp 59 = ia 6 cf) (hWa : hp 61 = ia 512 wf) (hNo : hp 62 = ia 4 nf) (ig0 : 0 ≤ gd) (ig4 : gd ≤ 4) (hL6 : L ≤ 6) (hLl : L = l + 5) (hwf : ∀ (g : Int) (l x : Nat), 0 ≤ g → g < gd → l ≤ L → 2 ^ l ≤ x → x < 2 ^ (l + 1) → wf (128 * g + (x : Int)) = wn N g (L - l) l (tn N g (T g) l x)) (hnf : ∀ g : Int, 0 ≤ g → g < gd → ∃ x : Nat, nf g = (x : Int) ∧ 2 ^ l ≤ x ∧ x < 2 ^ (l + 1) ∧ s g = tn N g (T g) l x) (ht0 : -1 ≤ t) (ht6 : t ≤ 6) : pd_c G mP_choose 6 [vr 58, vi (l : Int), vi t] sz hp (fun v' sz' hp' => v' = some (vi (if lfc N gd 5 l s t < 5 ^ 5 then 1 else 0)) ∧ sz' = sz ∧ ∃ cf' : Int → Int, hp' = va_up hp 59 (ia 6 cf') ∧ (lfc N gd 5 l s t < 5 ^ 5 → ∀ j : Nat, j < 5 → cf' ((l + j : Nat) : Int) = fdg (lfc N gd 5 l s t) (5 - 1 - j))) := by
  refine pd_con kP_choose [some (vr 58), some (vi (l : Int)), some (vi t), none, none] rfl rfl (Nat.le_of_ble_eq_true rfl) ?_
  have hp7 := p2_le (show l + 1 ≤ 7 by omega)
  have hnb : ∀ g, 0 ≤ g → g < gd → 0 ≤ nf g ∧ nf g < 128 := fun g k0 k1 => by
    obtain ⟨x, x0, x1, x2, x3⟩ := hnf g k0 k1
    omega
  have hsm : sm (fun g => wf (128 * g + nf g)) gd.toNat = aw N 5 l s gd.toNat := by
    refine sm_congr _ (fun g hg => ?_)
    obtain ⟨x, x0, x1, x2, x3⟩ := hnf g (by omega) (by omega)
    show wf (128 * (g : Int) + nf g) = wn N g 5 l (s g)
    rw [x0, hwf g l x (by omega) (by omega) (by omega) x1 x2, x3, show L - l = 5 by omega]
  have hab := aw_b (N := N) (m := 5) (l := (l : Int)) (s := s) gd.toNat
  refine pt_aload eP_choose_0 rfl ?_
  refine pt_kv0r eP_choose_1 (cP_allWanted G sz _ hP hWa hNo ig0 ig4 hnb) hP rfl (Nat.le_of_ble_eq_true rfl) (by decide) (Nat.le_refl _) (Nat.le_refl _) ?_
  rw [hsm]
  refine pt_iload eP_choose_4 rfl ?_
  refine pt_cle eP_choose_5 ⟨by omega, by omega⟩ ⟨by omega, by omega⟩ (fun c5 => ?_) (fun c5 => ?_)
  · refine pt_iload eP_choose_10 rfl ?_
    refine pt_aload eP_choose_11 rfl ?_
    refine pt_get eP_choose_12 hP rfl ?_
    refine pt_clt eP_choose_15 ⟨by omega, by omega⟩ ⟨by omega, by omega⟩ (fun c15 => ?_) (fun c15 => ?_)
    · refine pt_ic eP_choose_20 ?_
      refine pt_istore3 eP_choose_21 rfl ?_
      exact lP_ch_5 G sz hp hP hCh hWa hNo ig0 ig4 hL6 hLl hwf hnf ht0 ht6 (by omega) (gd + 1).toNat (-1) cf none hp (by omega) (by omega) (pu_self hCh) (fun c1 k1 k2 => absurd k2 (by omega))
    · refine pt_ic eP_choose_18 ?_
      refine pt_iret (eP_choose_19 (by omega)) (Nat.le_refl _) (Nat.le_refl _) ?_
      exfalso; omega
  · refine pt_ic eP_choose_8 ?_
    refine pt_iret (eP_choose_9 (by omega)) (Nat.le_refl _) (Nat.le_refl _) ?_
    have h9 := lfc_aw (m := 5) (l := (l : Int)) (s := s) ig0 (show t < aw N 5 l s gd.toNat by omega)
    exact ⟨by rw [if_neg (by omega)], rfl, cf, pu_self hCh, fun h => absurd h (by omega)⟩
theorem lP_ch_6 (G : pd_G) (sz : Nat) (hp : pd_P) {gd : Int} {N : NX} {T wf nf cf s : Int → Int} {L l : Nat} {t : Int} (hP : hp 58 = PO (L : Int) gd) (hCh : hp 59 = ia 6 cf) (hWa : hp 61 = ia 512 wf) (hNo : hp 62 = ia 4 nf) (ig0 : 0 ≤ gd) (ig4 : gd ≤ 4) (hL6 : L ≤ 6) (hLl : L = l + 6) (hwf : ∀ (g : Int) (l x : Nat), 0 ≤ g → g < gd → l ≤ L → 2 ^ l ≤ x → x < 2 ^ (l + 1) → wf (128 * g + (x : Int)) = wn N g (L - l) l (tn N g (T g) l x)) (hnf : ∀ g : Int, 0 ≤ g → g < gd → ∃ x : Nat, nf g = (x : Int) ∧ 2 ^ l ≤ x ∧ x < 2 ^ (l + 1) ∧ s g = tn N g (T g) l x) (ht0 : -1 ≤ t) (ht6 : t ≤ 6) (ht00 : 0 ≤ t) : ∀ (n : Nat) (c : Int) (cf : Int → Int) (l4 : Option pv) (hp0 : pd_P), c + n = gd → -1 ≤ c → hp0 = va_up hp 59 (ia 6 cf) → (∀ c1, -1 ≤ c1 → c1 < c → lfc N gd 5 ((l + 1 : Nat) : Int) (nxs N l s c1) (t - cst c1) = 5 ^ 5) → pd_t G mP_choose 7 (fun v' sz' hp' => v' = some (vi (if lfc N gd 6 l s t < 5 ^ 6 then 1 else 0)) ∧ sz' = sz ∧ ∃ cf' : Int → Int, hp' = va_up hp 59 (ia 6 cf') ∧ (lfc N gd 6 l s t < 5 ^ 6 → ∀ j : Nat, j < 6 → cf' ((l + j : Nat) : Int) = fdg (lfc N gd 6 l s t) (6 - 1 - j))) 22 [some (vr 58), some (vi (l : Int)), some (vi t), some (vi c), l4] [] sz hp0 := by
  intro n
  induction n with
  | zero =>
    intro c cf l4 hp0 hcE hc0 he0 hbef
    have hce : c = gd := by omega
    have hP := pg_n he0 (by decide) hP
    have h9 : lfc N gd 6 l s t = 5 ^ 6 := lfc_fail (m := 5) (l := (l : Int)) (s := s) (t := t) ig4 (fun c1 k1 k2 => hbef c1 k1 (by omega))
    refine pt_iload eP_choose_22 rfl ?_
    refine pt_aload eP_choose_23 rfl ?_
    refine pt_get eP_choose_24 hP rfl ?_
    refine pt_cge eP_choose_27 ⟨by omega, by omega⟩ ⟨by omega, by omega⟩ (fun c27 => ?_) (fun c27 => ?_)
    · refine pt_ic eP_choose_88 ?_
      refine pt_iret (eP_choose_89 (by omega)) (Nat.le_refl _) (Nat.le_refl _) ?_
      exact ⟨by rw [if_neg (by omega)], rfl, cf, he0, fun h => absurd h (by omega)⟩
    · exfalso; omega
  | succ n ih =>
    intro c cf l4 hp0 hcE hc0 he0 hbef
    have hP := pg_n he0 (by decide) hP
    have hCh := pg_s he0
    have hWa := pg_n he0 (by decide) hWa
    have hNo := pg_n he0 (by decide) hNo
    refine pt_iload eP_choose_22 rfl ?_
    refine pt_aload eP_choose_23 rfl ?_
    refine pt_get eP_choose_24 hP rfl ?_
    refine pt_cge eP_choose_27 ⟨by omega, by omega⟩ ⟨by omega, by omega⟩ (fun c27 => ?_) (fun c27 => ?_)
    · exfalso; omega
    · have hcg : c < gd := by omega
      have hNo0 := hNo
      refine pt_aload eP_choose_30 rfl ?_
      refine pt_iload eP_choose_31 rfl ?_
      refine pt_kv1 eP_choose_32 (cP_descend G sz _ hP hNo ig0 ig4 hc0 (by omega)) hP rfl (Nat.le_of_ble_eq_true rfl) (by decide) (Nat.le_refl _) (Nat.le_refl _) ?_
      rintro v2 sz2 hpx ⟨rfl, hz9, hx9⟩
      obtain rfl := hz9.symm
      have hP := pg_n hx9 (by decide) hP
      have hCh := pg_n hx9 (by decide) hCh
      have hWa := pg_n hx9 (by decide) hWa
      have hNo := pg_s hx9
      have hnf2 : ∀ g : Int, 0 ≤ g → g < gd → ∃ x : Nat, blk nf (fun x => 2 * nf x + (if x = c then 1 else 0)) 0 gd g = (x : Int) ∧ 2 ^ (l + 1) ≤ x ∧ x < 2 ^ (l + 1 + 1) ∧ nxs N l s c g = tn N g (T g) (l + 1) x := fun g k0 k1 => by
        obtain ⟨x, x0, x1, x2, x3⟩ := hnf g k0 k1
        have q1 := p2_s l
        have q2 := p2_s (l + 1)
        have hN9 : nxs N l s c g = N l g (if g = c then 1 else 0) (s g) := rfl
        rw [blk_in k0 (by omega), show g - 0 = g by omega, x0, hN9]
        by_cases hgc : g = c
        · rw [if_pos hgc]
          exact ⟨2 * x + 1, by omega, by omega, by omega, by rw [tn_1, ← x3]⟩
        · rw [if_neg hgc]
          exact ⟨2 * x, by omega, by omega, by omega, by rw [tn_0, ← x3]⟩
      have hnb2 : ∀ g, 0 ≤ g → g < gd → 0 ≤ blk nf (fun x => 2 * nf x + (if x = c then 1 else 0)) 0 gd g ∧ blk nf (fun x => 2 * nf x + (if x = c then 1 else 0)) 0 gd g < 1000 := fun g k0 k1 => by
        have hp8 := p2_le (show l + 1 + 1 ≤ 8 by omega)
        obtain ⟨x, x0, x1, x2, x3⟩ := hnf2 g k0 k1
        omega
      have hcb := cst_b c
      refine pt_aload eP_choose_35 rfl ?_
      refine pt_iload eP_choose_36 rfl ?_
      refine pt_ic eP_choose_37 ?_
      refine pt_iadd eP_choose_38 ?_
      refine pt_iload eP_choose_39 rfl ?_
      refine pt_zge eP_choose_40 ⟨by omega, by omega⟩ (fun c40 => ?_) (fun c40 => ?_)
      · refine pt_iload eP_choose_47 rfl ?_
        refine pt_ic eP_choose_48 ?_
        refine pt_isub eP_choose_49 ?_
        refine pt_ste (st2 := [vi (t - cst c), vi ((l + 1 : Nat) : Int), vr 58]) (by unfold cst; first | (rw [if_pos (by omega), Int.sub_zero]; rfl) | (rw [if_neg (by omega)]; rfl)) ?_
        refine pt_ks3 eP_choose_50 (cP_choose_5 G sz _ (s := nxs N l s c) (l := l + 1) hP hCh hWa hNo ig0 ig4 hL6 (by omega) hwf hnf2 (by omega) (by omega)) (Nat.le_of_ble_eq_true rfl) (by decide) (Nat.le_refl _) (Nat.le_refl _) ?_
        rintro v2 sz2 hpy ⟨rfl, hz9, cf9, hy9, hc9⟩
        obtain rfl := hz9.symm
        have hP := pg_n hy9 (by decide) hP
        have hCh := pg_s hy9
        have hWa := pg_n hy9 (by decide) hWa
        have hNo := pg_n hy9 (by decide) hNo
        refine pt_istore4 eP_choose_53 rfl ?_
        refine pt_aload eP_choose_55 rfl ?_
        refine pt_kv0 eP_choose_56 (cP_ascend G sz _ hP hNo ig0 ig4 hnb2) hP rfl (Nat.le_of_ble_eq_true rfl) (by decide) (Nat.le_refl _) (Nat.le_refl _) ?_
        rintro v2 sz2 hpz ⟨rfl, hz9, hz8⟩
        obtain rfl := hz9.symm
        have hP := pg_n hz8 (by decide) hP
        have hCh := pg_n hz8 (by decide) hCh
        have hWa := pg_n hz8 (by decide) hWa
        have hNo := pg_s hz8
        have hww : hpz = va_up hp 59 (ia 6 cf9) := by
          rw [hz8, hy9, hx9, bx_3 (by decide), dn_up, ← pu_self hNo0, he0, bx_uu]
        refine pt_iload eP_choose_59 rfl ?_
        refine pt_zeq eP_choose_61 ⟨by split <;> omega, by split <;> omega⟩ (fun c61 => ?_) (fun c61 => ?_)
        · refine pt_inc3 eP_choose_82 rfl ?_
          refine pt_goto eP_choose_85 ?_
          have hge : lfc N gd 5 ((l + 1 : Nat) : Int) (nxs N l s c) (t - cst c) = 5 ^ 5 := by
            have hle := lfc_le (N := N) (gd := gd) (m := 5) (l := ((l + 1 : Nat) : Int)) (s := nxs N l s c) (t := t - cst c)
            rcases (show lfc N gd 5 ((l + 1 : Nat) : Int) (nxs N l s c) (t - cst c) < 5 ^ 5 ∨ lfc N gd 5 ((l + 1 : Nat) : Int) (nxs N l s c) (t - cst c) = 5 ^ 5 by omega) with h9 | h9
            · rw [if_pos h9] at c61; omega
            · exact h9
          exact ih (c + 1) cf9 _ hpz (by omega) (by omega) hww (fun c1 k1 k2 => by
            by_cases hcc : c1 = c
            · rw [hcc]; exact hge
            · exact hbef c1 k1 (by omega))
        · refine pt_aload eP_choose_64 rfl ?_
          refine pt_get eP_choose_65 hP rfl ?_
          refine pt_iload eP_choose_68 rfl ?_
          refine pt_iload eP_choose_69 rfl ?_
          refine pt_zge eP_choose_70 ⟨by omega, by omega⟩ (fun c70 => ?_) (fun c70 => ?_)
          · refine pt_iload eP_choose_78 rfl ?_
            refine pt_iast eP_choose_79 hCh (by omega) (by omega) (by decide) ?_
            refine pt_gen ?_
            intro hp4 ev4
            have hP := pg_n ev4 (by omega) hP
            have hCh := pg_s ev4
            have hWa := pg_n ev4 (by omega) hWa
            have hNo := pg_n ev4 (by omega) hNo
            refine pt_ic eP_choose_80 ?_
            refine pt_iret (eP_choose_81 (by omega)) (Nat.le_refl _) (Nat.le_refl _) ?_
            have hlt : lfc N gd 5 ((l + 1 : Nat) : Int) (nxs N l s c) (t - cst c) < 5 ^ 5 := by
              by_cases h9 : lfc N gd 5 ((l + 1 : Nat) : Int) (nxs N l s c) (t - cst c) < 5 ^ 5
              · exact h9
              · rw [if_neg h9] at c61; omega
            have hst : lfc N gd 6 l s t = (c + 1).toNat * 5 ^ 5 + lfc N gd 5 ((l + 1 : Nat) : Int) (nxs N l s c) (t - cst c) := lfc_step (m := 5) (l := (l : Int)) (s := s) (t := t) hc0 hcg ig4 hbef hlt
            have hc5 : (c + 1).toNat * 5 ^ 5 + 5 ^ 5 ≤ 5 ^ 6 := by
              have := Nat.mul_le_mul_right (5 ^ 5) (show (c + 1).toNat + 1 ≤ 5 by omega)
              rw [Nat.add_mul, Nat.one_mul] at this
              exact Nat.le_trans this (by decide)
            have hlt2 : lfc N gd 6 l s t < 5 ^ 6 := by rw [hst]; omega
            refine ⟨by rw [if_pos hlt2], rfl, _, by rw [ev4, hww, bx_uu], fun _ j hj => ?_⟩
            rw [hst]
            rcases (show j = 0 ∨ 1 ≤ j by omega) with hj0 | hj0
            · rw [hj0, Nat.add_zero, uI_s, show 6 - 1 - 0 = 5 from rfl, fdg_hi (by omega) hlt]
              first
              | (exfalso; omega)
              | (rw [if_pos (by omega)])
              | (rw [if_neg (by omega)]; omega)
            · rw [uI_n _ _ (by omega), fdg_lo (by omega)]
              have h8 := hc9 hlt (j - 1) (by omega)
              rw [show ((l + 1 + (j - 1) : Nat) : Int) = ((l + j : Nat) : Int) by omega, show 5 - 1 - (j - 1) = 6 - 1 - j by omega] at h8
              exact h8
          · refine pt_ic eP_choose_73 ?_
            refine pt_goto eP_choose_75 ?_
            refine pt_iast eP_choose_79 hCh (by omega) (by omega) (by decide) ?_
            refine pt_gen ?_
            intro hp5 ev5
            have hP := pg_n ev5 (by omega) hP
            have hCh := pg_s ev5
            have hWa := pg_n ev5 (by omega) hWa
            have hNo := pg_n ev5 (by omega) hNo
            refine pt_ic eP_choose_80 ?_
            refine pt_iret (eP_choose_81 (by omega)) (Nat.le_refl _) (Nat.le_refl _) ?_
            have hlt : lfc N gd 5 ((l + 1 : Nat) : Int) (nxs N l s c) (t - cst c) < 5 ^ 5 := by
              by_cases h9 : lfc N gd 5 ((l + 1 : Nat) : Int) (nxs N l s c) (t - cst c) < 5 ^ 5
              · exact h9
              · rw [if_neg h9] at c61; omega
            have hst : lfc N gd 6 l s t = (c + 1).toNat * 5 ^ 5 + lfc N gd 5 ((l + 1 : Nat) : Int) (nxs N l s c) (t - cst c) := lfc_step (m := 5) (l := (l : Int)) (s := s) (t := t) hc0 hcg ig4 hbef hlt
            have hc5 : (c + 1).toNat * 5 ^ 5 + 5 ^ 5 ≤ 5 ^ 6 := by
              have := Nat.mul_le_mul_right (5 ^ 5) (show (c + 1).toNat + 1 ≤ 5 by omega)
              rw [Nat.add_mul, Nat.one_mul] at this
              exact Nat.le_trans this (by decide)
            have hlt2 : lfc N gd 6 l s t < 5 ^ 6 := by rw [hst]; omega
            refine ⟨by rw [if_pos hlt2], rfl, _, by rw [ev5, hww, bx_uu], fun _ j hj => ?_⟩
            rw [hst]
            rcases (show j = 0 ∨ 1 ≤ j by omega) with hj0 | hj0
            · rw [hj0, Nat.add_zero, uI_s, show 6 - 1 - 0 = 5 from rfl, fdg_hi (by omega) hlt]
              first
              | (exfalso; omega)
              | (rw [if_pos (by omega)])
              | (rw [if_neg (by omega)]; omega)
            · rw [uI_n _ _ (by omega), fdg_lo (by omega)]
              have h8 := hc9 hlt (j - 1) (by omega)
              rw [show ((l + 1 + (j - 1) : Nat) : Int) = ((l + j : Nat) : Int) by omega, show 5 - 1 - (j - 1) = 6 - 1 - j by omega] at h8
              exact h8
      · refine pt_iload eP_choose_43 rfl ?_
        refine pt_goto eP_choose_44 ?_
        refine pt_ste (st2 := [vi (t - cst c), vi ((l + 1 : Nat) : Int), vr 58]) (by unfold cst; first | (rw [if_pos (by omega), Int.sub_zero]; rfl) | (rw [if_neg (by omega)]; rfl)) ?_
        refine pt_ks3 eP_choose_50 (cP_choose_5 G sz _ (s := nxs N l s c) (l := l + 1) hP hCh hWa hNo ig0 ig4 hL6 (by omega) hwf hnf2 (by omega) (by omega)) (Nat.le_of_ble_eq_true rfl) (by decide) (Nat.le_refl _) (Nat.le_refl _) ?_
        rintro v2 sz2 hpy ⟨rfl, hz9, cf9, hy9, hc9⟩
        obtain rfl := hz9.symm
        have hP := pg_n hy9 (by decide) hP
        have hCh := pg_s hy9
        have hWa := pg_n hy9 (by decide) hWa
        have hNo := pg_n hy9 (by decide) hNo
        refine pt_istore4 eP_choose_53 rfl ?_
        refine pt_aload eP_choose_55 rfl ?_
        refine pt_kv0 eP_choose_56 (cP_ascend G sz _ hP hNo ig0 ig4 hnb2) hP rfl (Nat.le_of_ble_eq_true rfl) (by decide) (Nat.le_refl _) (Nat.le_refl _) ?_
        rintro v2 sz2 hpz ⟨rfl, hz9, hz8⟩
        obtain rfl := hz9.symm
        have hP := pg_n hz8 (by decide) hP
        have hCh := pg_n hz8 (by decide) hCh
        have hWa := pg_n hz8 (by decide) hWa
        have hNo := pg_s hz8
        have hww : hpz = va_up hp 59 (ia 6 cf9) := by
          rw [hz8, hy9, hx9, bx_3 (by decide), dn_up, ← pu_self hNo0, he0, bx_uu]
        refine pt_iload eP_choose_59 rfl ?_
        refine pt_zeq eP_choose_61 ⟨by split <;> omega, by split <;> omega⟩ (fun c61 => ?_) (fun c61 => ?_)
        · refine pt_inc3 eP_choose_82 rfl ?_
          refine pt_goto eP_choose_85 ?_
          have hge : lfc N gd 5 ((l + 1 : Nat) : Int) (nxs N l s c) (t - cst c) = 5 ^ 5 := by
            have hle := lfc_le (N := N) (gd := gd) (m := 5) (l := ((l + 1 : Nat) : Int)) (s := nxs N l s c) (t := t - cst c)
            rcases (show lfc N gd 5 ((l + 1 : Nat) : Int) (nxs N l s c) (t - cst c) < 5 ^ 5 ∨ lfc N gd 5 ((l + 1 : Nat) : Int) (nxs N l s c) (t - cst c) = 5 ^ 5 by omega) with h9 | h9
            · rw [if_pos h9] at c61; omega
            · exact h9
          exact ih (c + 1) cf9 _ hpz (by omega) (by omega) hww (fun c1 k1 k2 => by
            by_cases hcc : c1 = c
            · rw [hcc]; exact hge
            · exact hbef c1 k1 (by omega))
        · refine pt_aload eP_choose_64 rfl ?_
          refine pt_get eP_choose_65 hP rfl ?_
          refine pt_iload eP_choose_68 rfl ?_
          refine pt_iload eP_choose_69 rfl ?_
          refine pt_zge eP_choose_70 ⟨by omega, by omega⟩ (fun c70 => ?_) (fun c70 => ?_)
          · refine pt_iload eP_choose_78 rfl ?_
            refine pt_iast eP_choose_79 hCh (by omega) (by omega) (by decide) ?_
            refine pt_gen ?_
            intro hp8 ev8
            have hP := pg_n ev8 (by omega) hP
            have hCh := pg_s ev8
            have hWa := pg_n ev8 (by omega) hWa
            have hNo := pg_n ev8 (by omega) hNo
            refine pt_ic eP_choose_80 ?_
            refine pt_iret (eP_choose_81 (by omega)) (Nat.le_refl _) (Nat.le_refl _) ?_
            have hlt : lfc N gd 5 ((l + 1 : Nat) : Int) (nxs N l s c) (t - cst c) < 5 ^ 5 := by
              by_cases h9 : lfc N gd 5 ((l + 1 : Nat) : Int) (nxs N l s c) (t - cst c) < 5 ^ 5
              · exact h9
              · rw [if_neg h9] at c61; omega
            have hst : lfc N gd 6 l s t = (c + 1).toNat * 5 ^ 5 + lfc N gd 5 ((l + 1 : Nat) : Int) (nxs N l s c) (t - cst c) := lfc_step (m := 5) (l := (l : Int)) (s := s) (t := t) hc0 hcg ig4 hbef hlt
            have hc5 : (c + 1).toNat * 5 ^ 5 + 5 ^ 5 ≤ 5 ^ 6 := by
              have := Nat.mul_le_mul_right (5 ^ 5) (show (c + 1).toNat + 1 ≤ 5 by omega)
              rw [Nat.add_mul, Nat.one_mul] at this
              exact Nat.le_trans this (by decide)
            have hlt2 : lfc N gd 6 l s t < 5 ^ 6 := by rw [hst]; omega
            refine ⟨by rw [if_pos hlt2], rfl, _, by rw [ev8, hww, bx_uu], fun _ j hj => ?_⟩
            rw [hst]
            rcases (show j = 0 ∨ 1 ≤ j by omega) with hj0 | hj0
            · rw [hj0, Nat.add_zero, uI_s, show 6 - 1 - 0 = 5 from rfl, fdg_hi (by omega) hlt]
              first
              | (exfalso; omega)
              | (rw [if_pos (by omega)])
              | (rw [if_neg (by omega)]; omega)
            · rw [uI_n _ _ (by omega), fdg_lo (by omega)]
              have h8 := hc9 hlt (j - 1) (by omega)
              rw [show ((l + 1 + (j - 1) : Nat) : Int) = ((l + j : Nat) : Int) by omega, show 5 - 1 - (j - 1) = 6 - 1 - j by omega] at h8
              exact h8
          · refine pt_ic eP_choose_73 ?_
            refine pt_goto eP_choose_75 ?_
            refine pt_iast eP_choose_79 hCh (by omega) (by omega) (by decide) ?_
            refine pt_gen ?_
            intro hp9 ev9
            have hP := pg_n ev9 (by omega) hP
            have hCh := pg_s ev9
            have hWa := pg_n ev9 (by omega) hWa
            have hNo := pg_n ev9 (by omega) hNo
            refine pt_ic eP_choose_80 ?_
            refine pt_iret (eP_choose_81 (by omega)) (Nat.le_refl _) (Nat.le_refl _) ?_
            have hlt : lfc N gd 5 ((l + 1 : Nat) : Int) (nxs N l s c) (t - cst c) < 5 ^ 5 := by
              by_cases h9 : lfc N gd 5 ((l + 1 : Nat) : Int) (nxs N l s c) (t - cst c) < 5 ^ 5
              · exact h9
              · rw [if_neg h9] at c61; omega
            have hst : lfc N gd 6 l s t = (c + 1).toNat * 5 ^ 5 + lfc N gd 5 ((l + 1 : Nat) : Int) (nxs N l s c) (t - cst c) := lfc_step (m := 5) (l := (l : Int)) (s := s) (t := t) hc0 hcg ig4 hbef hlt
            have hc5 : (c + 1).toNat * 5 ^ 5 + 5 ^ 5 ≤ 5 ^ 6 := by
              have := Nat.mul_le_mul_right (5 ^ 5) (show (c + 1).toNat + 1 ≤ 5 by omega)
              rw [Nat.add_mul, Nat.one_mul] at this
              exact Nat.le_trans this (by decide)
            have hlt2 : lfc N gd 6 l s t < 5 ^ 6 := by rw [hst]; omega
            refine ⟨by rw [if_pos hlt2], rfl, _, by rw [ev9, hww, bx_uu], fun _ j hj => ?_⟩
            rw [hst]
            rcases (show j = 0 ∨ 1 ≤ j by omega) with hj0 | hj0
            · rw [hj0, Nat.add_zero, uI_s, show 6 - 1 - 0 = 5 from rfl, fdg_hi (by omega) hlt]
              first
              | (exfalso; omega)
              | (rw [if_pos (by omega)])
              | (rw [if_neg (by omega)]; omega)
            · rw [uI_n _ _ (by omega), fdg_lo (by omega)]
              have h8 := hc9 hlt (j - 1) (by omega)
              rw [show ((l + 1 + (j - 1) : Nat) : Int) = ((l + j : Nat) : Int) by omega, show 5 - 1 - (j - 1) = 6 - 1 - j by omega] at h8
              exact h8
theorem cP_choose_6 (G : pd_G) (sz : Nat) (hp : pd_P) {gd : Int} {N : NX} {T wf nf cf s : Int → Int} {L l : Nat} {t : Int} (hP : hp 58 = PO (L : Int) gd) (hCh : hp 59 = ia 6 cf) (hWa : hp 61 = ia 512 wf) (hNo : hp 62 = ia 4 nf) (ig0 : 0 ≤ gd) (ig4 : gd ≤ 4) (hL6 : L ≤ 6) (hLl : L = l + 6) (hwf : ∀ (g : Int) (l x : Nat), 0 ≤ g → g < gd → l ≤ L → 2 ^ l ≤ x → x < 2 ^ (l + 1) → wf (128 * g + (x : Int)) = wn N g (L - l) l (tn N g (T g) l x)) (hnf : ∀ g : Int, 0 ≤ g → g < gd → ∃ x : Nat, nf g = (x : Int) ∧ 2 ^ l ≤ x ∧ x < 2 ^ (l + 1) ∧ s g = tn N g (T g) l x) (ht0 : -1 ≤ t) (ht6 : t ≤ 6) : pd_c G mP_choose 7 [vr 58, vi (l : Int), vi t] sz hp (fun v' sz' hp' => v' = some (vi (if lfc N gd 6 l s t < 5 ^ 6 then 1 else 0)) ∧ sz' = sz ∧ ∃ cf' : Int → Int, hp' = va_up hp 59 (ia 6 cf') ∧ (lfc N gd 6 l s t < 5 ^ 6 → ∀ j : Nat, j < 6 → cf' ((l + j : Nat) : Int) = fdg (lfc N gd 6 l s t) (6 - 1 - j))) := by
  refine pd_con kP_choose [some (vr 58), some (vi (l : Int)), some (vi t), none, none] rfl rfl (Nat.le_of_ble_eq_true rfl) ?_
  have hp7 := p2_le (show l + 1 ≤ 7 by omega)
  have hnb : ∀ g, 0 ≤ g → g < gd → 0 ≤ nf g ∧ nf g < 128 := fun g k0 k1 => by
    obtain ⟨x, x0, x1, x2, x3⟩ := hnf g k0 k1
    omega
  have hsm : sm (fun g => wf (128 * g + nf g)) gd.toNat = aw N 6 l s gd.toNat := by
    refine sm_congr _ (fun g hg => ?_)
    obtain ⟨x, x0, x1, x2, x3⟩ := hnf g (by omega) (by omega)
    show wf (128 * (g : Int) + nf g) = wn N g 6 l (s g)
    rw [x0, hwf g l x (by omega) (by omega) (by omega) x1 x2, x3, show L - l = 6 by omega]
  have hab := aw_b (N := N) (m := 6) (l := (l : Int)) (s := s) gd.toNat
  refine pt_aload eP_choose_0 rfl ?_
  refine pt_kv0r eP_choose_1 (cP_allWanted G sz _ hP hWa hNo ig0 ig4 hnb) hP rfl (Nat.le_of_ble_eq_true rfl) (by decide) (Nat.le_refl _) (Nat.le_refl _) ?_
  rw [hsm]
  refine pt_iload eP_choose_4 rfl ?_
  refine pt_cle eP_choose_5 ⟨by omega, by omega⟩ ⟨by omega, by omega⟩ (fun c5 => ?_) (fun c5 => ?_)
  · refine pt_iload eP_choose_10 rfl ?_
    refine pt_aload eP_choose_11 rfl ?_
    refine pt_get eP_choose_12 hP rfl ?_
    refine pt_clt eP_choose_15 ⟨by omega, by omega⟩ ⟨by omega, by omega⟩ (fun c15 => ?_) (fun c15 => ?_)
    · refine pt_ic eP_choose_20 ?_
      refine pt_istore3 eP_choose_21 rfl ?_
      exact lP_ch_6 G sz hp hP hCh hWa hNo ig0 ig4 hL6 hLl hwf hnf ht0 ht6 (by omega) (gd + 1).toNat (-1) cf none hp (by omega) (by omega) (pu_self hCh) (fun c1 k1 k2 => absurd k2 (by omega))
    · refine pt_ic eP_choose_18 ?_
      refine pt_iret (eP_choose_19 (by omega)) (Nat.le_refl _) (Nat.le_refl _) ?_
      exfalso; omega
  · refine pt_ic eP_choose_8 ?_
    refine pt_iret (eP_choose_9 (by omega)) (Nat.le_refl _) (Nat.le_refl _) ?_
    have h9 := lfc_aw (m := 6) (l := (l : Int)) (s := s) ig0 (show t < aw N 6 l s gd.toNat by omega)
    exact ⟨by rw [if_neg (by omega)], rfl, cf, pu_self hCh, fun h => absurd h (by omega)⟩
