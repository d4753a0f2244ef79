/-! the odds -/
def cfr (a b f : Nat) : Nat → Nat → Nat
  | 0, p => p
  | t + 1, p => if a % (p * f) = 0 ∧ b % (p * f) = 0 then cfr a b f t (p * f) else p
theorem cfr_gcd : ∀ (X : Fin 11) (N : Fin 10), cfr (10 ^ N.val - X.val ^ N.val) (10 ^ N.val) 2 N.val 1 * cfr (10 ^ N.val - X.val ^ N.val) (10 ^ N.val) 5 N.val 1 = Nat.gcd (10 ^ N.val) (10 ^ N.val - X.val ^ N.val) := by decide +kernel
def odv (X N : Nat) (w : Int) : Int := if w = 0 then (((10 ^ N - X ^ N) / Nat.gcd (10 ^ N) (10 ^ N - X ^ N) : Nat) : Int) else ((10 ^ N / Nat.gcd (10 ^ N) (10 ^ N - X ^ N) : Nat) : Int)
def rOdds (x n w : Int) : Int := if ¬ ((0 ≤ x ∧ x ≤ 10) ∧ (0 ≤ n ∧ n ≤ 9) ∧ (0 ≤ w ∧ w ≤ 1)) then -1 else odv x.toNat n.toNat w
theorem pow_si {X : Nat} {i : Int} (h : 0 ≤ i) : ((X ^ i.toNat : Nat) : Int) * (X : Int) = ((X ^ (i + 1).toNat : Nat) : Int) := by
  rw [show (i + 1).toNat = i.toNat + 1 by omega, Nat.pow_succ, Int.natCast_mul]
theorem pow_10 {i : Int} (h : 0 ≤ i) : ((10 ^ i.toNat : Nat) : Int) * 10 = ((10 ^ (i + 1).toNat : Nat) : Int) := pow_si (X := 10) h
theorem pow_b {X N : Nat} (h : X ≤ 10) (h2 : N ≤ 9) : X ^ N ≤ 10 ^ N ∧ 10 ^ N ≤ 1000000000 ∧ 1 ≤ 10 ^ N :=
  ⟨Nat.pow_le_pow_left h N, Nat.pow_le_pow_right (j := 9) (by decide) h2, Nat.pow_pos (by decide)⟩
theorem lR_pow (G : pd_G) (sz : Nat) (hp : pd_P) {X N : Nat} {w : Int} (hN : N ≤ 9) {R : pd_R} (hx : ∀  (hp0 : pd_P), hp0 = hp → pd_t G mR_odds 1 R 65 [some (vr 178), some (vi (X : Int)), some (vi (N : Int)), some (vi w), some (vi ((10 ^ ((N : Int) : Int).toNat : Nat) : Int)), some (vi ((X ^ ((N : Int) : Int).toNat : Nat) : Int)), some (vi ((N : Int))), none, none] [] sz hp0) : ∀ (n : Nat) (i : Int)  (hp0 : pd_P), 0 ≤ i → i + n = (N : Int) → hp0 = hp → pd_t G mR_odds 1 R 40 [some (vr 178), some (vi (X : Int)), some (vi (N : Int)), some (vi w), some (vi ((10 ^ (i : Int).toNat : Nat) : Int)), some (vi ((X ^ (i : Int).toNat : Nat) : Int)), some (vi (i)), none, none] [] sz hp0 := by
  intro n
  induction n with
  | zero =>
    intro i  hp0 hi0 hiE he0
    have hiE2 : (N : Int) = i := by omega
    subst hiE2
    have hx2 := hx  hp0 he0
    rw [he0] at hx2
    rw [he0]
    refine pt_iload eR_odds_40 rfl ?_
    refine pt_iload eR_odds_42 rfl ?_
    refine pt_cge eR_odds_43 ⟨by omega, by omega⟩ ⟨by omega, by omega⟩ (fun c43 => ?_) (fun c43 => ?_)
    · exact hx2
    · exfalso; omega
  | succ n ih =>
    intro i  hp0 hi0 hiE he0
    rw [he0]
    refine pt_iload eR_odds_40 rfl ?_
    refine pt_iload eR_odds_42 rfl ?_
    refine pt_cge eR_odds_43 ⟨by omega, by omega⟩ ⟨by omega, by omega⟩ (fun c43 => ?_) (fun c43 => ?_)
    · exfalso; omega
    · refine pt_iload eR_odds_46 rfl ?_
      refine pt_ic eR_odds_48 ?_
      refine pt_imul eR_odds_50 ?_
      refine pt_istore4 eR_odds_51 rfl ?_
      refine pt_iload eR_odds_53 rfl ?_
      refine pt_iload eR_odds_55 rfl ?_
      refine pt_imul eR_odds_56 ?_
      refine pt_istore5 eR_odds_57 rfl ?_
      refine pt_inc6 eR_odds_59 rfl ?_
      refine pt_goto eR_odds_62 ?_
      rw [pow_si hi0, pow_10 hi0]
      exact ih (i + 1)  hp (by omega) (by omega) rfl 
theorem lD_pow (G : pd_G) (sz : Nat) (hp : pd_P) {X N : Nat} {w : Int} (hN : N ≤ 9) {R : pd_R} (hx : ∀  (hp0 : pd_P), hp0 = hp → pd_t G mD_odds 1 R 65 [some (vr 1), some (vi (X : Int)), some (vi (N : Int)), some (vi w), some (vi ((10 ^ ((N : Int) : Int).toNat : Nat) : Int)), some (vi ((X ^ ((N : Int) : Int).toNat : Nat) : Int)), some (vi ((N : Int)))] [] sz hp0) : ∀ (n : Nat) (i : Int)  (hp0 : pd_P), 0 ≤ i → i + n = (N : Int) → hp0 = hp → pd_t G mD_odds 1 R 40 [some (vr 1), some (vi (X : Int)), some (vi (N : Int)), some (vi w), some (vi ((10 ^ (i : Int).toNat : Nat) : Int)), some (vi ((X ^ (i : Int).toNat : Nat) : Int)), some (vi (i))] [] sz hp0 := by
  intro n
  induction n with
  | zero =>
    intro i  hp0 hi0 hiE he0
    have hiE2 : (N : Int) = i := by omega
    subst hiE2
    have hx2 := hx  hp0 he0
    rw [he0] at hx2
    rw [he0]
    refine pt_iload eD_odds_40 rfl ?_
    refine pt_iload eD_odds_42 rfl ?_
    refine pt_cge eD_odds_43 ⟨by omega, by omega⟩ ⟨by omega, by omega⟩ (fun c43 => ?_) (fun c43 => ?_)
    · exact hx2
    · exfalso; omega
  | succ n ih =>
    intro i  hp0 hi0 hiE he0
    rw [he0]
    refine pt_iload eD_odds_40 rfl ?_
    refine pt_iload eD_odds_42 rfl ?_
    refine pt_cge eD_odds_43 ⟨by omega, by omega⟩ ⟨by omega, by omega⟩ (fun c43 => ?_) (fun c43 => ?_)
    · exfalso; omega
    · refine pt_iload eD_odds_46 rfl ?_
      refine pt_ic eD_odds_48 ?_
      refine pt_imul eD_odds_50 ?_
      refine pt_istore4 eD_odds_51 rfl ?_
      refine pt_iload eD_odds_53 rfl ?_
      refine pt_iload eD_odds_55 rfl ?_
      refine pt_imul eD_odds_56 ?_
      refine pt_istore5 eD_odds_57 rfl ?_
      refine pt_inc6 eD_odds_59 rfl ?_
      refine pt_goto eD_odds_62 ?_
      rw [pow_si hi0, pow_10 hi0]
      exact ih (i + 1)  hp (by omega) (by omega) rfl 
theorem lR_gcd (G : pd_G) (sz : Nat) (hp : pd_P) {x n0 w dn no : Int} {gg : Nat} {R : pd_R} (hx : ∀ l8, pd_t G mR_odds 1 R 99 [some (vr 178), some (vi x), some (vi n0), some (vi w), some (vi dn), some (vi no), some (vi (gg : Int)), some (vi 0), l8] [] sz hp) : ∀ (m a b : Nat) (l8 : Option pv), b ≤ m → a ≤ 1000000000 → b ≤ 1000000000 → Nat.gcd b a = gg → pd_t G mR_odds 1 R 76 [some (vr 178), some (vi x), some (vi n0), some (vi w), some (vi dn), some (vi no), some (vi (a : Int)), some (vi (b : Int)), l8] [] sz hp := by
  intro m
  induction m with
  | zero =>
    intro a b l8 hm ha hb hg
    have hb0 : b = 0 := by omega
    refine pt_iload eR_odds_76 rfl ?_
    refine pt_zeq eR_odds_78 ⟨by omega, by omega⟩ (fun c78 => ?_) (fun c78 => ?_)
    · have e9 : a = gg := by rw [← hg, hb0, Nat.gcd_zero_left]
      have hx2 := hx l8
      rw [← e9] at hx2
      rw [hb0]
      exact hx2
    · exfalso; omega
  | succ m ih =>
    intro a b l8 hm ha hb hg
    refine pt_iload eR_odds_76 rfl ?_
    refine pt_zeq eR_odds_78 ⟨by omega, by omega⟩ (fun c78 => ?_) (fun c78 => ?_)
    · have hb0 : b = 0 := by omega
      have e9 : a = gg := by rw [← hg, hb0, Nat.gcd_zero_left]
      have hx2 := hx l8
      rw [← e9] at hx2
      rw [hb0]
      exact hx2
    · refine pt_iload eR_odds_81 rfl ?_
      refine pt_iload eR_odds_83 rfl ?_
      refine pt_irem eR_odds_85 (by omega) (by omega) (by omega) (by omega) ?_
      have e9 : (a : Int) % (b : Int) = ((a % b : Nat) : Int) := rfl
      rw [e9]
      have hl := Nat.mod_lt a (show 0 < b by omega)
      have hg2 : Nat.gcd (a % b) b = gg := by rw [← hg, Nat.gcd_rec b a]
      refine pt_istore8 eR_odds_86 rfl ?_
      refine pt_iload eR_odds_88 rfl ?_
      refine pt_istore6 eR_odds_90 rfl ?_
      refine pt_iload eR_odds_92 rfl ?_
      refine pt_istore7 eR_odds_94 rfl ?_
      refine pt_goto eR_odds_96 ?_
      exact ih b (a % b) _ (by omega) (by omega) (by omega) hg2
theorem xR_odds (G : pd_G) (sz : Nat) (hp : pd_P) {q : Nat → Int → Int} {v : Nat → Int} (hM : MW hp q v) (hI : IN q v) {x : Int} (j_x : jR x) {n : Int} (j_n : jR n) {w : Int} (j_w : jR w) : pd_c G mR_odds 1 [vr 178, vi x, vi n, vi w] sz hp (mPost hp sz ((q, v, rOdds x n w))) := by
  refine pd_con kR_odds [some (vr 178), some (vi x), some (vi n), some (vi w), none, none, none, none, none] rfl rfl (Nat.le_of_ble_eq_true rfl) ?_
  obtain ⟨⟨ig0, ig4⟩, ⟨id0, id1, id2, id3⟩, iB, iM, iU, iF, iS, iP, iI, ⟨is0, is4, isx⟩, ⟨im0, im4, imx⟩, it0, it1⟩ := hI
  have k_x := j_x
  unfold jR at k_x
  have k_n := j_n
  unfold jR at k_n
  have k_w := j_w
  unfold jR at k_w
  have hR := hM.1
  refine pt_iload eR_odds_0 rfl ?_
  refine pt_ic eR_odds_1 ?_
  refine pt_ic eR_odds_2 ?_
  refine pt_ks3r eR_odds_4 (cR_in G sz _ (by unfold jR at *; omega) (by unfold jR at *; omega) (by unfold jR at *; omega)) (Nat.le_of_ble_eq_true rfl) (by decide) (Nat.le_refl _) (Nat.le_refl _) ?_
  refine pt_zeq eR_odds_7 (pwi_j _ _ _) (fun c7 => ?_) (fun c7 => ?_)
  · refine pt_ic eR_odds_29 ?_
    refine pt_iret eR_odds_30 (Nat.le_refl _) (Nat.le_refl _) ?_
    first
    | (have c7 := pwi_0 c7
       rw [show rOdds x n w = -1 by unfold rOdds; rw [if_pos (fun z => c7 z.1)]]
       exact ⟨rfl, rfl, hM, fr.rf⟩)
    | (have c17 := pwi_0 c17
       rw [show rOdds x n w = -1 by unfold rOdds; rw [if_pos (fun z => c17 z.2.1)]]
       exact ⟨rfl, rfl, hM, fr.rf⟩)
    | (have c26 := pwi_0 c26
       rw [show rOdds x n w = -1 by unfold rOdds; rw [if_pos (fun z => c26 z.2.2)]]
       exact ⟨rfl, rfl, hM, fr.rf⟩)
  · have c7 := pwi_1 c7
    refine pt_iload eR_odds_10 rfl ?_
    refine pt_ic eR_odds_11 ?_
    refine pt_ic eR_odds_12 ?_
    refine pt_ks3r eR_odds_14 (cR_in G sz _ (by unfold jR at *; omega) (by unfold jR at *; omega) (by unfold jR at *; omega)) (Nat.le_of_ble_eq_true rfl) (by decide) (Nat.le_refl _) (Nat.le_refl _) ?_
    refine pt_zeq eR_odds_17 (pwi_j _ _ _) (fun c17 => ?_) (fun c17 => ?_)
    · refine pt_ic eR_odds_29 ?_
      refine pt_iret eR_odds_30 (Nat.le_refl _) (Nat.le_refl _) ?_
      first
      | (have c7 := pwi_0 c7
         rw [show rOdds x n w = -1 by unfold rOdds; rw [if_pos (fun z => c7 z.1)]]
         exact ⟨rfl, rfl, hM, fr.rf⟩)
      | (have c17 := pwi_0 c17
         rw [show rOdds x n w = -1 by unfold rOdds; rw [if_pos (fun z => c17 z.2.1)]]
         exact ⟨rfl, rfl, hM, fr.rf⟩)
      | (have c26 := pwi_0 c26
         rw [show rOdds x n w = -1 by unfold rOdds; rw [if_pos (fun z => c26 z.2.2)]]
         exact ⟨rfl, rfl, hM, fr.rf⟩)
    · have c17 := pwi_1 c17
      refine pt_iload eR_odds_20 rfl ?_
      refine pt_ic eR_odds_21 ?_
      refine pt_ic eR_odds_22 ?_
      refine pt_ks3r eR_odds_23 (cR_in G sz _ (by unfold jR at *; omega) (by unfold jR at *; omega) (by unfold jR at *; omega)) (Nat.le_of_ble_eq_true rfl) (by decide) (Nat.le_refl _) (Nat.le_refl _) ?_
      refine pt_zne eR_odds_26 (pwi_j _ _ _) (fun c26 => ?_) (fun c26 => ?_)
      · have c26 := pwi_1 c26
        have hro : rOdds x n w = odv x.toNat n.toNat w := by unfold rOdds; rw [if_neg (fun z => z ⟨c7, c17, c26⟩)]
        obtain ⟨X, hX⟩ := Int.eq_ofNat_of_zero_le c7.1
        obtain ⟨N, hN⟩ := Int.eq_ofNat_of_zero_le c17.1
        subst hX
        subst hN
        rw [show ((X : Int)).toNat = X from rfl, show ((N : Int)).toNat = N from rfl] at hro
        unfold odv at hro
        obtain ⟨p1, p2, p3⟩ := pow_b (X := X) (N := N) (by omega) (by omega)
        refine pt_ic eR_odds_31 ?_
        refine pt_istore4 eR_odds_32 rfl ?_
        refine pt_ic eR_odds_34 ?_
        refine pt_istore5 eR_odds_35 rfl ?_
        refine pt_ic eR_odds_37 ?_
        refine pt_istore6 eR_odds_38 rfl ?_
        refine lR_pow G sz hp (X := X) (N := N) (w := w) (by omega) (fun hp5 he5 => ?_) N 0 hp (by omega) (by omega) rfl
        rw [he5]
        rw [show (((N : Int)).toNat) = N from rfl]
        have hsub : ((10 ^ N : Nat) : Int) - ((X ^ N : Nat) : Int) = ((10 ^ N - X ^ N : Nat) : Int) := (Int.ofNat_sub p1).symm
        refine pt_iload eR_odds_65 rfl ?_
        refine pt_iload eR_odds_67 rfl ?_
        refine pt_isub eR_odds_69 ?_
        rw [hsub]
        refine pt_istore6 eR_odds_70 rfl ?_
        refine pt_iload eR_odds_72 rfl ?_
        refine pt_istore7 eR_odds_74 rfl ?_
        refine lR_gcd G sz hp (gg := Nat.gcd (10 ^ N) (10 ^ N - X ^ N)) (fun l8 => ?_) (10 ^ N) (10 ^ N - X ^ N) (10 ^ N) none (Nat.le_refl _) (by omega) (by omega) rfl
        have hg1 : 0 < Nat.gcd (10 ^ N) (10 ^ N - X ^ N) := Nat.gcd_pos_of_pos_left _ (by omega)
        have hg2 : Nat.gcd (10 ^ N) (10 ^ N - X ^ N) ≤ 10 ^ N := Nat.gcd_le_left _ (by omega)
        generalize Nat.gcd (10 ^ N) (10 ^ N - X ^ N) = gg at hg1 hg2 hro ⊢
        refine pt_iload eR_odds_99 rfl ?_
        refine pt_zne eR_odds_100 ⟨by omega, by omega⟩ (fun c100 => ?_) (fun c100 => ?_)
        · refine pt_iload eR_odds_114 rfl ?_
          refine pt_iload eR_odds_116 rfl ?_
          refine pt_idiv eR_odds_118 (by omega) (by omega) (by omega) (by omega) ?_
          refine pt_iret eR_odds_119 (Nat.le_refl _) (Nat.le_refl _) ?_
          first
          | (rw [if_pos c100] at hro
             rw [hro]
             exact ⟨rfl, rfl, hM, fr.rf⟩)
          | (rw [if_neg c100] at hro
             rw [hro]
             exact ⟨rfl, rfl, hM, fr.rf⟩)
        · refine pt_iload eR_odds_103 rfl ?_
          refine pt_iload eR_odds_105 rfl ?_
          refine pt_isub eR_odds_107 ?_
          rw [hsub]
          refine pt_iload eR_odds_108 rfl ?_
          refine pt_idiv eR_odds_110 (by omega) (by omega) (by omega) (by omega) ?_
          refine pt_goto eR_odds_111 ?_
          refine pt_iret eR_odds_119 (Nat.le_refl _) (Nat.le_refl _) ?_
          first
          | (rw [if_pos c100] at hro
             rw [hro]
             exact ⟨rfl, rfl, hM, fr.rf⟩)
          | (rw [if_neg c100] at hro
             rw [hro]
             exact ⟨rfl, rfl, hM, fr.rf⟩)
      · refine pt_ic eR_odds_29 ?_
        refine pt_iret eR_odds_30 (Nat.le_refl _) (Nat.le_refl _) ?_
        first
        | (have c7 := pwi_0 c7
           rw [show rOdds x n w = -1 by unfold rOdds; rw [if_pos (fun z => c7 z.1)]]
           exact ⟨rfl, rfl, hM, fr.rf⟩)
        | (have c17 := pwi_0 c17
           rw [show rOdds x n w = -1 by unfold rOdds; rw [if_pos (fun z => c17 z.2.1)]]
           exact ⟨rfl, rfl, hM, fr.rf⟩)
        | (have c26 := pwi_0 c26
           rw [show rOdds x n w = -1 by unfold rOdds; rw [if_pos (fun z => c26 z.2.2)]]
           exact ⟨rfl, rfl, hM, fr.rf⟩)
theorem lD_cf (G : pd_G) (sz : Nat) (hp : pd_P) {a b f t : Nat} (ha : a ≤ 1000000000) (hb : b ≤ 1000000000) (hf1 : 1 ≤ f) (hf5 : f ≤ 5) (ht : t ≤ 9) : ∀ (n : Nat) (i : Int) (p : Nat) (l6 : Option pv), 0 ≤ i → i + n = t → 1 ≤ p → p * f ^ n ≤ 2000000 → pd_t G mD_commonFactors 0 (pd_pure (vi ((cfr a b f n p : Nat) : Int)) sz hp) 6 [some (vi (a : Int)), some (vi (b : Int)), some (vi (f : Int)), some (vi (t : Int)), some (vi (p : Int)), some (vi i), l6] [] sz hp := by
  intro n
  induction n with
  | zero =>
    intro i p l6 hi0 hiE hp1 hp2
    refine pt_iload eD_commonFactors_6 rfl ?_
    refine pt_iload eD_commonFactors_8 rfl ?_
    refine pt_cge eD_commonFactors_9 ⟨by omega, by omega⟩ ⟨by omega, by omega⟩ (fun c9 => ?_) (fun c9 => ?_)
    · refine pt_iload eD_commonFactors_51 rfl ?_
      refine pt_iret eD_commonFactors_53 (Nat.le_refl _) (Nat.le_refl _) ?_
      exact ⟨rfl, rfl, rfl⟩
    · exfalso; omega
  | succ n ih =>
    intro i p l6 hi0 hiE hp1 hp2
    have hfn : 1 ≤ f ^ n := Nat.pow_pos hf1
    have hm2 : p * f * f ^ n ≤ 2000000 := by rw [Nat.pow_succ, Nat.mul_comm (f ^ n) f, ← Nat.mul_assoc] at hp2; exact hp2
    have hm1 : 1 ≤ p * f := Nat.mul_pos hp1 hf1
    have hm3 : p * f ≤ 2000000 := Nat.le_trans (Nat.le_mul_of_pos_right _ hfn) hm2
    have hc : (p : Int) * (f : Int) = ((p * f : Nat) : Int) := (Int.natCast_mul p f).symm
    have hcf : cfr a b f (n + 1) p = if a % (p * f) = 0 ∧ b % (p * f) = 0 then cfr a b f n (p * f) else p := rfl
    rw [hcf]
    have ihm := ih (i + 1) (p * f)
    refine pt_iload eD_commonFactors_6 rfl ?_
    refine pt_iload eD_commonFactors_8 rfl ?_
    refine pt_cge eD_commonFactors_9 ⟨by omega, by omega⟩ ⟨by omega, by omega⟩ (fun c9 => ?_) (fun c9 => ?_)
    · refine pt_iload eD_commonFactors_51 rfl ?_
      refine pt_iret eD_commonFactors_53 (Nat.le_refl _) (Nat.le_refl _) ?_
      exfalso; omega
    · refine pt_iload eD_commonFactors_12 rfl ?_
      refine pt_iload eD_commonFactors_14 rfl ?_
      refine pt_imul eD_commonFactors_15 ?_
      rw [hc]
      generalize p * f = m at hm1 hm2 hm3 ihm ⊢
      have l1 := Nat.mod_lt a hm1
      have l2 := Nat.mod_lt b hm1
      refine pt_istore6 eD_commonFactors_16 rfl ?_
      refine pt_iload eD_commonFactors_18 rfl ?_
      refine pt_ic eD_commonFactors_20 ?_
      refine pt_clt eD_commonFactors_21 ⟨by omega, by omega⟩ ⟨by omega, by omega⟩ (fun c21 => ?_) (fun c21 => ?_)
      · refine pt_iload eD_commonFactors_38 rfl ?_
        refine pt_iret eD_commonFactors_40 (Nat.le_refl _) (Nat.le_refl _) ?_
        first
        | (exfalso; omega)
        | (rw [if_neg (by omega)]
           exact ⟨rfl, rfl, rfl⟩)
      · refine pt_iload eD_commonFactors_24 rfl ?_
        refine pt_iload eD_commonFactors_25 rfl ?_
        refine pt_irem eD_commonFactors_27 (by omega) (by omega) (by omega) (by omega) ?_
        rw [show (a : Int) % (m : Int) = ((a % m : Nat) : Int) from rfl]
        refine pt_zne eD_commonFactors_28 ⟨by omega, by omega⟩ (fun c28 => ?_) (fun c28 => ?_)
        · refine pt_iload eD_commonFactors_38 rfl ?_
          refine pt_iret eD_commonFactors_40 (Nat.le_refl _) (Nat.le_refl _) ?_
          first
          | (exfalso; omega)
          | (rw [if_neg (by omega)]
             exact ⟨rfl, rfl, rfl⟩)
        · refine pt_iload eD_commonFactors_31 rfl ?_
          refine pt_iload eD_commonFactors_32 rfl ?_
          refine pt_irem eD_commonFactors_34 (by omega) (by omega) (by omega) (by omega) ?_
          rw [show (b : Int) % (m : Int) = ((b % m : Nat) : Int) from rfl]
          refine pt_zeq eD_commonFactors_35 ⟨by omega, by omega⟩ (fun c35 => ?_) (fun c35 => ?_)
          · refine pt_iload eD_commonFactors_41 rfl ?_
            refine pt_istore4 eD_commonFactors_43 rfl ?_
            refine pt_inc5 eD_commonFactors_45 rfl ?_
            refine pt_goto eD_commonFactors_48 ?_
            rw [if_pos ⟨by omega, by omega⟩]
            exact ihm _ (by omega) (by omega) hm1 hm2
          · refine pt_iload eD_commonFactors_38 rfl ?_
            refine pt_iret eD_commonFactors_40 (Nat.le_refl _) (Nat.le_refl _) ?_
            first
            | (exfalso; omega)
            | (rw [if_neg (by omega)]
               exact ⟨rfl, rfl, rfl⟩)
theorem cD_cf (G : pd_G) (sz : Nat) (hp : pd_P) {a b f t : Nat} (ha : a ≤ 1000000000) (hb : b ≤ 1000000000) (hf1 : 1 ≤ f) (hf5 : f ≤ 5) (ht : t ≤ 9) (hft : f ^ t ≤ 2000000) : pd_c G mD_commonFactors 0 [vi (a : Int), vi (b : Int), vi (f : Int), vi (t : Int)] sz hp (pd_pure (vi ((cfr a b f t 1 : Nat) : Int)) sz hp) := by
  refine pd_con kD_commonFactors [some (vi (a : Int)), some (vi (b : Int)), some (vi (f : Int)), some (vi (t : Int)), none, none, none] rfl rfl (Nat.le_of_ble_eq_true rfl) ?_
  refine pt_ic eD_commonFactors_0 ?_
  refine pt_istore4 eD_commonFactors_1 rfl ?_
  refine pt_ic eD_commonFactors_3 ?_
  refine pt_istore5 eD_commonFactors_4 rfl ?_
  exact lD_cf G sz hp ha hb hf1 hf5 ht t 0 1 none (by omega) (by omega) (by omega) (by rw [Nat.one_mul]; exact hft)
theorem xD_odds (G : pd_G) (sz : Nat) (hp : pd_P) {to dr : Nat} {q : Nat → Int → Int} {v : Nat → Int} (hC : CW hp to dr q v) (hI : IN q v) {x : Int} (j_x : jR x) {n : Int} (j_n : jR n) {w : Int} (j_w : jR w) : pd_c G mD_odds 1 [vr 1, vi x, vi n, vi w] sz hp (cPost hp sz ((q, v, rOdds x n w))) := by
  refine pd_con kD_odds [some (vr 1), some (vi x), some (vi n), some (vi w), none, none, none] rfl rfl (Nat.le_of_ble_eq_true rfl) ?_
  obtain ⟨⟨ig0, ig4⟩, ⟨id0, id1, id2, id3⟩, iB, iM, iU, iF, iS, iP, iI, ⟨is0, is4, isx⟩, ⟨im0, im4, imx⟩, it0, it1⟩ := hI
  have k_x := j_x
  unfold jR at k_x
  have k_n := j_n
  unfold jR at k_n
  have k_w := j_w
  unfold jR at k_w
  have hC0 := hC
  obtain ⟨hto, hDo, hTx, hHs, hHd, hLf, hI0, hI1, hGo, hPl⟩ := hC
  have hDo2 := hDo
  obtain ⟨hD, ⟨imf, hIm, him0, him1⟩, hKp, hSg, hSt, hGd, hGt⟩ := hDo2
  refine pt_iload eD_odds_0 rfl ?_
  refine pt_ic eD_odds_1 ?_
  refine pt_ic eD_odds_2 ?_
  refine pt_ks3r eD_odds_4 (cD_within G sz _ (by unfold jR at *; omega) (by unfold jR at *; omega) (by unfold jR at *; omega)) (Nat.le_of_ble_eq_true rfl) (by decide) (Nat.le_refl _) (Nat.le_refl _) ?_
  refine pt_zeq eD_odds_7 (pwi_j _ _ _) (fun c7 => ?_) (fun c7 => ?_)
  · refine pt_ic eD_odds_29 ?_
    refine pt_iret eD_odds_30 (Nat.le_refl _) (Nat.le_refl _) ?_
    first
    | (have c7 := pwi_0 c7
       rw [show rOdds x n w = -1 by unfold rOdds; rw [if_pos (fun z => c7 z.1)]]
       exact ⟨rfl, rfl, ⟨to, dr, hC0⟩, fr.rf⟩)
    | (have c17 := pwi_0 c17
       rw [show rOdds x n w = -1 by unfold rOdds; rw [if_pos (fun z => c17 z.2.1)]]
       exact ⟨rfl, rfl, ⟨to, dr, hC0⟩, fr.rf⟩)
    | (have c26 := pwi_0 c26
       rw [show rOdds x n w = -1 by unfold rOdds; rw [if_pos (fun z => c26 z.2.2)]]
       exact ⟨rfl, rfl, ⟨to, dr, hC0⟩, fr.rf⟩)
  · have c7 := pwi_1 c7
    refine pt_iload eD_odds_10 rfl ?_
    refine pt_ic eD_odds_11 ?_
    refine pt_ic eD_odds_12 ?_
    refine pt_ks3r eD_odds_14 (cD_within G sz _ (by unfold jR at *; omega) (by unfold jR at *; omega) (by unfold jR at *; omega)) (Nat.le_of_ble_eq_true rfl) (by decide) (Nat.le_refl _) (Nat.le_refl _) ?_
    refine pt_zeq eD_odds_17 (pwi_j _ _ _) (fun c17 => ?_) (fun c17 => ?_)
    · refine pt_ic eD_odds_29 ?_
      refine pt_iret eD_odds_30 (Nat.le_refl _) (Nat.le_refl _) ?_
      first
      | (have c7 := pwi_0 c7
         rw [show rOdds x n w = -1 by unfold rOdds; rw [if_pos (fun z => c7 z.1)]]
         exact ⟨rfl, rfl, ⟨to, dr, hC0⟩, fr.rf⟩)
      | (have c17 := pwi_0 c17
         rw [show rOdds x n w = -1 by unfold rOdds; rw [if_pos (fun z => c17 z.2.1)]]
         exact ⟨rfl, rfl, ⟨to, dr, hC0⟩, fr.rf⟩)
      | (have c26 := pwi_0 c26
         rw [show rOdds x n w = -1 by unfold rOdds; rw [if_pos (fun z => c26 z.2.2)]]
         exact ⟨rfl, rfl, ⟨to, dr, hC0⟩, fr.rf⟩)
    · have c17 := pwi_1 c17
      refine pt_iload eD_odds_20 rfl ?_
      refine pt_ic eD_odds_21 ?_
      refine pt_ic eD_odds_22 ?_
      refine pt_ks3r eD_odds_23 (cD_within G sz _ (by unfold jR at *; omega) (by unfold jR at *; omega) (by unfold jR at *; omega)) (Nat.le_of_ble_eq_true rfl) (by decide) (Nat.le_refl _) (Nat.le_refl _) ?_
      refine pt_zne eD_odds_26 (pwi_j _ _ _) (fun c26 => ?_) (fun c26 => ?_)
      · have c26 := pwi_1 c26
        have hro : rOdds x n w = odv x.toNat n.toNat w := by unfold rOdds; rw [if_neg (fun z => z ⟨c7, c17, c26⟩)]
        obtain ⟨X, hX⟩ := Int.eq_ofNat_of_zero_le c7.1
        obtain ⟨N, hN⟩ := Int.eq_ofNat_of_zero_le c17.1
        subst hX
        subst hN
        rw [show ((X : Int)).toNat = X from rfl, show ((N : Int)).toNat = N from rfl] at hro
        unfold odv at hro
        obtain ⟨p1, p2, p3⟩ := pow_b (X := X) (N := N) (by omega) (by omega)
        refine pt_ic eD_odds_31 ?_
        refine pt_istore4 eD_odds_32 rfl ?_
        refine pt_ic eD_odds_34 ?_
        refine pt_istore5 eD_odds_35 rfl ?_
        refine pt_ic eD_odds_37 ?_
        refine pt_istore6 eD_odds_38 rfl ?_
        refine lD_pow G sz hp (X := X) (N := N) (w := w) (by omega) (fun hp5 he5 => ?_) N 0 hp (by omega) (by omega) rfl
        rw [he5]
        rw [show (((N : Int)).toNat) = N from rfl]
        have hsub : ((10 ^ N : Nat) : Int) - ((X ^ N : Nat) : Int) = ((10 ^ N - X ^ N : Nat) : Int) := (Int.ofNat_sub p1).symm
        have hg1 : 0 < Nat.gcd (10 ^ N) (10 ^ N - X ^ N) := Nat.gcd_pos_of_pos_left _ (by omega)
        have hg2 : Nat.gcd (10 ^ N) (10 ^ N - X ^ N) ≤ 10 ^ N := Nat.gcd_le_left _ (by omega)
        have hcg := cfr_gcd ⟨X, by omega⟩ ⟨N, by omega⟩
        have hcm : ((cfr (10 ^ N - X ^ N) (10 ^ N) 2 N 1 : Nat) : Int) * ((cfr (10 ^ N - X ^ N) (10 ^ N) 5 N 1 : Nat) : Int) = ((Nat.gcd (10 ^ N) (10 ^ N - X ^ N) : Nat) : Int) := by rw [← Int.natCast_mul]; exact congrArg Nat.cast hcg
        have hf2 : 2 ^ N ≤ 2000000 := Nat.le_trans (Nat.pow_le_pow_right (j := 9) (by decide) (by omega)) (by decide)
        have hf5 : 5 ^ N ≤ 2000000 := Nat.le_trans (Nat.pow_le_pow_right (j := 9) (by decide) (by omega)) (by decide)
        refine pt_iload eD_odds_65 rfl ?_
        refine pt_iload eD_odds_67 rfl ?_
        refine pt_isub eD_odds_69 ?_
        rw [hsub]
        refine pt_iload eD_odds_70 rfl ?_
        refine pt_ic eD_odds_72 ?_
        refine pt_iload eD_odds_73 rfl ?_
        refine pt_ks4r eD_odds_74 (cD_cf G sz _ (a := 10 ^ N - X ^ N) (b := 10 ^ N) (f := 2) (t := N) (by omega) (by omega) (by decide) (by decide) (by omega) hf2) (Nat.le_of_ble_eq_true rfl) (by decide) (Nat.le_refl _) (Nat.le_refl _) ?_
        refine pt_iload eD_odds_77 rfl ?_
        refine pt_iload eD_odds_79 rfl ?_
        refine pt_isub eD_odds_81 ?_
        rw [hsub]
        refine pt_iload eD_odds_82 rfl ?_
        refine pt_ic eD_odds_84 ?_
        refine pt_iload eD_odds_85 rfl ?_
        refine pt_ks4r eD_odds_86 (cD_cf G sz _ (a := 10 ^ N - X ^ N) (b := 10 ^ N) (f := 5) (t := N) (by omega) (by omega) (by decide) (by decide) (by omega) hf5) (Nat.le_of_ble_eq_true rfl) (by decide) (Nat.le_refl _) (Nat.le_refl _) ?_
        refine pt_imul eD_odds_89 ?_
        rw [hcm]
        generalize Nat.gcd (10 ^ N) (10 ^ N - X ^ N) = gg at hg1 hg2 hro ⊢
        refine pt_istore6 eD_odds_90 rfl ?_
        refine pt_iload eD_odds_92 rfl ?_
        refine pt_ic eD_odds_94 ?_
        refine pt_cge eD_odds_95 ⟨by omega, by omega⟩ ⟨by omega, by omega⟩ (fun c95 => ?_) (fun c95 => ?_)
        · refine pt_iload eD_odds_100 rfl ?_
          refine pt_zne eD_odds_101 ⟨by omega, by omega⟩ (fun c101 => ?_) (fun c101 => ?_)
          · refine pt_iload eD_odds_112 rfl ?_
            try rw [hsub]
            refine pt_iload eD_odds_114 rfl ?_
            refine pt_idiv eD_odds_116 (by omega) (by omega) (by omega) (by omega) ?_
            refine pt_iret eD_odds_117 (Nat.le_refl _) (Nat.le_refl _) ?_
            first
            | (rw [if_pos c101] at hro
               rw [hro]
               exact ⟨rfl, rfl, ⟨to, dr, hC0⟩, fr.rf⟩)
            | (rw [if_neg c101] at hro
               rw [hro]
               exact ⟨rfl, rfl, ⟨to, dr, hC0⟩, fr.rf⟩)
          · refine pt_iload eD_odds_104 rfl ?_
            refine pt_iload eD_odds_106 rfl ?_
            refine pt_isub eD_odds_108 ?_
            refine pt_goto eD_odds_109 ?_
            try rw [hsub]
            refine pt_iload eD_odds_114 rfl ?_
            refine pt_idiv eD_odds_116 (by omega) (by omega) (by omega) (by omega) ?_
            refine pt_iret eD_odds_117 (Nat.le_refl _) (Nat.le_refl _) ?_
            first
            | (rw [if_pos c101] at hro
               rw [hro]
               exact ⟨rfl, rfl, ⟨to, dr, hC0⟩, fr.rf⟩)
            | (rw [if_neg c101] at hro
               rw [hro]
               exact ⟨rfl, rfl, ⟨to, dr, hC0⟩, fr.rf⟩)
        · refine pt_ic eD_odds_98 ?_
          refine pt_iret eD_odds_99 (Nat.le_refl _) (Nat.le_refl _) ?_
          exfalso; omega
      · refine pt_ic eD_odds_29 ?_
        refine pt_iret eD_odds_30 (Nat.le_refl _) (Nat.le_refl _) ?_
        first
        | (have c7 := pwi_0 c7
           rw [show rOdds x n w = -1 by unfold rOdds; rw [if_pos (fun z => c7 z.1)]]
           exact ⟨rfl, rfl, ⟨to, dr, hC0⟩, fr.rf⟩)
        | (have c17 := pwi_0 c17
           rw [show rOdds x n w = -1 by unfold rOdds; rw [if_pos (fun z => c17 z.2.1)]]
           exact ⟨rfl, rfl, ⟨to, dr, hC0⟩, fr.rf⟩)
        | (have c26 := pwi_0 c26
           rw [show rOdds x n w = -1 by unfold rOdds; rw [if_pos (fun z => c26 z.2.2)]]
           exact ⟨rfl, rfl, ⟨to, dr, hC0⟩, fr.rf⟩)
