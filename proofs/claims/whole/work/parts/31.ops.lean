theorem pt_lve {G : pd_G} {M : pd_M} {d mc ms : Nat} {X : Option (Nat × (Nat → Int))} {R : pd_R} {pc : Nat} {lv : List (Option pv)} (lv2 : List (Option pv)) {st : List pv} {sz ce sl : Nat} {hp : pd_P} (h : lv = lv2) (k : pd_T G M d mc ms X R pc lv2 st sz ce sl hp) : pd_T G M d mc ms X R pc lv st sz ce sl hp := by rw [h]; exact k
/-! on which day it gives, how often back, how often one meets oneself -/
def stp (ev bk : Int) : Nat → Int → Int
  | 0, _ => 0
  | n + 1, x => if x = -9 then 0 else 1 + stp ev bk n (lawf x ev bk)
def mt (ev bk d : Int) : Nat → Int
  | 0 => 0
  | n + 1 => mt ev bk d n + (if lawf n ev bk = d then 1 else 0)
theorem mt_s {ev bk d i : Int} (h : 0 ≤ i) : mt ev bk d (i + 1).toNat = mt ev bk d i.toNat + (if lawf i ev bk = d then 1 else 0) := by
  rw [show (i + 1).toNat = i.toNat + 1 by omega, mt, Int.toNat_of_nonneg h]
def mtc (ev bk d i : Int) : Int := mt ev bk d i.toNat + (if 0 ≤ lawf d ev bk ∧ lawf d ev bk < i then 1 else 0)
theorem mtc_s {ev bk d i : Int} (h : 0 ≤ i) : mtc ev bk d (i + 1) = mtc ev bk d i + (if lawf i ev bk = d then 1 else 0) + (if lawf d ev bk = i then 1 else 0) := by
  unfold mtc
  rw [mt_s h]
  by_cases h1 : lawf d ev bk = i
  · rw [if_pos h1, if_pos (show 0 ≤ lawf d ev bk ∧ lawf d ev bk < i + 1 by omega), if_neg (show ¬ (0 ≤ lawf d ev bk ∧ lawf d ev bk < i) by omega)]
    omega
  · rw [if_neg h1]
    by_cases h2 : 0 ≤ lawf d ev bk ∧ lawf d ev bk < i
    · rw [if_pos h2, if_pos (show 0 ≤ lawf d ev bk ∧ lawf d ev bk < i + 1 by omega)]
      omega
    · rw [if_neg h2, if_neg (show ¬ (0 ≤ lawf d ev bk ∧ lawf d ev bk < i + 1) by omega)]
      omega
theorem lawf_jr {ev bk d : Int} (h1 : 1 ≤ bk) (h5 : 0 ≤ d) (h6 : d ≤ 20) : jR (lawf d ev bk) := by
  have := lawf_r (ev := ev) h1 h5
  exact ⟨by omega, by omega⟩
def fGives (q : Nat → Int → Int) (v : Nat → Int) (d w : Int) : Sg := (q, v, if ¬ (0 ≤ d ∧ d ≤ 19) then -1 else if w = 0 then lawf d (q 2 0) (q 2 1) else if w = 1 then stp (q 2 0) (q 2 1) 20 (lawf d (q 2 0) (q 2 1)) else if w = 2 then (if lawf d (q 2 0) (q 2 1) = -9 then 0 else 1) + mt (q 2 0) (q 2 1) d 20 else -1)
theorem mtc_20 {ev bk d : Int} (h1 : 1 ≤ bk) (h5 : 0 ≤ d) : mtc ev bk d 20 = (if lawf d ev bk = -9 then 0 else 1) + mt ev bk d 20 := by
  have := lawf_r (ev := ev) h1 h5
  unfold mtc
  by_cases h : lawf d ev bk = -9
  · rw [if_pos h, if_neg (by omega)]; show mt ev bk d 20 + 0 = _; omega
  · rw [if_neg h, if_pos (by omega)]; show mt ev bk d 20 + 1 = _; omega
theorem lR_gives1 (G : pd_G) (sz : Nat) (hp : pd_P) {v : Nat → Int} {df : Int → Int} (hR : hp 178 = RO v) (h_door : hp 180 = ia 4 df) (h1 : 1 ≤ df 0) (h2 : df 0 ≤ 9) (h3 : 1 ≤ df 1) (h4 : df 1 ≤ 9) {d w : Int} {R : pd_R} : ∀ (n : Nat) (x c : Int), (x = -9 ∨ (0 ≤ x ∧ x < n)) → n ≤ 20 → R (some (vi (c + stp (df 0) (df 1) n x))) sz hp → pd_t G mR_gives 2 R 42 [some (vr 178), some (vi d), some (vi w), some (vi c), some (vi x)] [] sz hp := by
  intro n
  induction n with
  | zero =>
    intro x c hx hn hR9
    have hx9 : x = -9 := by omega
    subst hx9
    refine pt_iload eR_gives_42 rfl ?_
    refine pt_ic eR_gives_44 ?_
    refine pt_ceq eR_gives_46 ⟨by omega, by omega⟩ ⟨by omega, by omega⟩ (fun c46 => ?_) (fun c46 => ?_)
    · refine pt_iload eR_gives_63 rfl ?_
      refine pt_iret eR_gives_64 (Nat.le_refl _) (Nat.le_refl _) ?_
      have hz : c + stp (df 0) (df 1) 0 (-9) = c := by show c + 0 = c; omega
      rw [hz] at hR9
      exact hR9
    · exact absurd rfl c46
  | succ n ih =>
    intro x c hx hn hR9
    refine pt_iload eR_gives_42 rfl ?_
    refine pt_ic eR_gives_44 ?_
    refine pt_ceq eR_gives_46 ⟨by omega, by omega⟩ ⟨by omega, by omega⟩ (fun c46 => ?_) (fun c46 => ?_)
    · refine pt_iload eR_gives_63 rfl ?_
      refine pt_iret eR_gives_64 (Nat.le_refl _) (Nat.le_refl _) ?_
      rw [stp, if_pos c46, Int.add_zero] at hR9
      exact hR9
    · refine pt_inc3 eR_gives_49 rfl ?_
      refine pt_aload eR_gives_52 rfl ?_
      refine pt_iload eR_gives_53 rfl ?_
      refine pt_kv1r eR_gives_55 (cR_givesOn G sz _ hR h_door h1 h2 h3 h4 (by omega) (by omega)) hR rfl (Nat.le_of_ble_eq_true rfl) (by decide) (Nat.le_refl _) (Nat.le_refl _) ?_
      refine pt_istore4 eR_gives_58 rfl ?_
      refine pt_goto eR_gives_60 ?_
      have hr := lawf_r (ev := df 0) (bk := df 1) (d := x) h3 (by omega)
      refine ih _ _ (by omega) (by omega) ?_
      rw [stp, if_neg c46, ← Int.add_assoc] at hR9
      exact hR9
theorem lR_gives2 (G : pd_G) (sz : Nat) (hp : pd_P) {v : Nat → Int} {df : Int → Int} (hR : hp 178 = RO v) (h_door : hp 180 = ia 4 df) (h1 : 1 ≤ df 0) (h2 : df 0 ≤ 9) (h3 : 1 ≤ df 1) (h4 : df 1 ≤ 9) {d w : Int} (hd0 : 0 ≤ d) (hd1 : d ≤ 19) {R : pd_R} (hx : ∀  (hp0 : pd_P), hp0 = hp → pd_t G mR_gives 2 R 117 [some (vr 178), some (vi d), some (vi w), some (vi (mtc (df 0) (df 1) d (20))), some (vi (20))] [] sz hp0) : ∀ (n : Nat) (i : Int)  (hp0 : pd_P), 0 ≤ i → i + n = 20 → hp0 = hp → pd_t G mR_gives 2 R 68 [some (vr 178), some (vi d), some (vi w), some (vi (mtc (df 0) (df 1) d (i))), some (vi (i))] [] sz hp0 := by
  intro n
  induction n with
  | zero =>
    intro i  hp0 hi0 hiE he0
    have hiE2 : 20 = i := by omega
    subst hiE2
    have hx2 := hx  hp0 he0
    rw [he0] at hx2
    rw [he0]
    refine pt_iload eR_gives_68 rfl ?_
    refine pt_ic eR_gives_70 ?_
    refine pt_cge eR_gives_72 ⟨by omega, by omega⟩ ⟨by omega, by omega⟩ (fun c72 => ?_) (fun c72 => ?_)
    · exact hx2
    · exfalso; omega
  | succ n ih =>
    intro i  hp0 hi0 hiE he0
    rw [he0]
    refine pt_iload eR_gives_68 rfl ?_
    refine pt_ic eR_gives_70 ?_
    refine pt_cge eR_gives_72 ⟨by omega, by omega⟩ ⟨by omega, by omega⟩ (fun c72 => ?_) (fun c72 => ?_)
    · exfalso; omega
    · refine pt_iload eR_gives_75 rfl ?_
      refine pt_aload eR_gives_76 rfl ?_
      refine pt_iload eR_gives_77 rfl ?_
      refine pt_kv1r eR_gives_79 (cR_givesOn G sz _ hR h_door h1 h2 h3 h4 (by omega) (by omega)) hR rfl (Nat.le_of_ble_eq_true rfl) (by decide) (Nat.le_refl _) (Nat.le_refl _) ?_
      refine pt_iload eR_gives_82 rfl ?_
      refine pt_cne eR_gives_83 (lawf_jr h3 (by omega) (by omega)) ⟨by omega, by omega⟩ (fun c83 => ?_) (fun c83 => ?_)
      · refine pt_ic eR_gives_90 ?_
        refine pt_iadd eR_gives_91 ?_
        refine pt_istore3 eR_gives_92 rfl ?_
        refine pt_iload eR_gives_93 rfl ?_
        refine pt_aload eR_gives_94 rfl ?_
        refine pt_iload eR_gives_95 rfl ?_
        refine pt_kv1r eR_gives_96 (cR_givesOn G sz _ hR h_door h1 h2 h3 h4 (by omega) (by omega)) hR rfl (Nat.le_of_ble_eq_true rfl) (by decide) (Nat.le_refl _) (Nat.le_refl _) ?_
        refine pt_iload eR_gives_99 rfl ?_
        refine pt_cne eR_gives_101 (lawf_jr h3 (by omega) (by omega)) ⟨by omega, by omega⟩ (fun c101 => ?_) (fun c101 => ?_)
        · refine pt_ic eR_gives_108 ?_
          refine pt_iadd eR_gives_109 ?_
          refine pt_istore3 eR_gives_110 rfl ?_
          refine pt_inc4 eR_gives_111 rfl ?_
          refine pt_goto eR_gives_114 ?_
          have hs9 := mtc_s (ev := df 0) (bk := df 1) (d := d) (i := i) hi0
          first
          | rw [if_neg c83, if_neg c101] at hs9
          | rw [if_neg c83, if_pos c101] at hs9
          | rw [if_pos c83, if_neg c101] at hs9
          | rw [if_pos c83, if_pos c101] at hs9
          rw [← hs9]
          exact ih (i + 1)  hp (by omega) (by omega) rfl 
        · refine pt_ic eR_gives_104 ?_
          refine pt_goto eR_gives_105 ?_
          refine pt_iadd eR_gives_109 ?_
          refine pt_istore3 eR_gives_110 rfl ?_
          refine pt_inc4 eR_gives_111 rfl ?_
          refine pt_goto eR_gives_114 ?_
          have hs9 := mtc_s (ev := df 0) (bk := df 1) (d := d) (i := i) hi0
          first
          | rw [if_neg c83, if_neg c101] at hs9
          | rw [if_neg c83, if_pos c101] at hs9
          | rw [if_pos c83, if_neg c101] at hs9
          | rw [if_pos c83, if_pos c101] at hs9
          rw [← hs9]
          exact ih (i + 1)  hp (by omega) (by omega) rfl 
      · refine pt_ic eR_gives_86 ?_
        refine pt_goto eR_gives_87 ?_
        refine pt_iadd eR_gives_91 ?_
        refine pt_istore3 eR_gives_92 rfl ?_
        refine pt_iload eR_gives_93 rfl ?_
        refine pt_aload eR_gives_94 rfl ?_
        refine pt_iload eR_gives_95 rfl ?_
        refine pt_kv1r eR_gives_96 (cR_givesOn G sz _ hR h_door h1 h2 h3 h4 (by omega) (by omega)) hR rfl (Nat.le_of_ble_eq_true rfl) (by decide) (Nat.le_refl _) (Nat.le_refl _) ?_
        refine pt_iload eR_gives_99 rfl ?_
        refine pt_cne eR_gives_101 (lawf_jr h3 (by omega) (by omega)) ⟨by omega, by omega⟩ (fun c101 => ?_) (fun c101 => ?_)
        · refine pt_ic eR_gives_108 ?_
          refine pt_iadd eR_gives_109 ?_
          refine pt_istore3 eR_gives_110 rfl ?_
          refine pt_inc4 eR_gives_111 rfl ?_
          refine pt_goto eR_gives_114 ?_
          have hs9 := mtc_s (ev := df 0) (bk := df 1) (d := d) (i := i) hi0
          first
          | rw [if_neg c83, if_neg c101] at hs9
          | rw [if_neg c83, if_pos c101] at hs9
          | rw [if_pos c83, if_neg c101] at hs9
          | rw [if_pos c83, if_pos c101] at hs9
          rw [← hs9]
          exact ih (i + 1)  hp (by omega) (by omega) rfl 
        · refine pt_ic eR_gives_104 ?_
          refine pt_goto eR_gives_105 ?_
          refine pt_iadd eR_gives_109 ?_
          refine pt_istore3 eR_gives_110 rfl ?_
          refine pt_inc4 eR_gives_111 rfl ?_
          refine pt_goto eR_gives_114 ?_
          have hs9 := mtc_s (ev := df 0) (bk := df 1) (d := d) (i := i) hi0
          first
          | rw [if_neg c83, if_neg c101] at hs9
          | rw [if_neg c83, if_pos c101] at hs9
          | rw [if_pos c83, if_neg c101] at hs9
          | rw [if_pos c83, if_pos c101] at hs9
          rw [← hs9]
          exact ih (i + 1)  hp (by omega) (by omega) rfl 
theorem xR_gives (G : pd_G) (sz : Nat) (hp : pd_P) {q : Nat → Int → Int} {v : Nat → Int} (hM : MW hp q v) (hI : IN q v) {d : Int} (j_d : jR d) {w : Int} (j_w : jR w) : pd_c G mR_gives 2 [vr 178, vi d, vi w] sz hp (mPost hp sz (fGives q v d w)) := by
  refine pd_con kR_gives [some (vr 178), some (vi d), some (vi w), none, none] rfl rfl (Nat.le_of_ble_eq_true rfl) ?_
  obtain ⟨⟨ig0, ig4⟩, ⟨id0, id1, id2, id3⟩, iB, iM, iU, iF, iS, iP, iI, ⟨is0, is4, isx⟩, ⟨im0, im4, imx⟩, it0, it1⟩ := hI
  have k_d := j_d
  unfold jR at k_d
  have k_w := j_w
  unfold jR at k_w
  have hR := hM.1
  have h_door := hM.w_door
  refine pt_iload eR_gives_0 rfl ?_
  refine pt_ks1r eR_gives_1 (cR_isDay G sz _ j_d) (Nat.le_of_ble_eq_true rfl) (by decide) (Nat.le_refl _) (Nat.le_refl _) ?_
  refine pt_zeq eR_gives_4 (pwi_j _ _ _) (fun c4 => ?_) (fun c4 => ?_)
  · refine pt_ic eR_gives_16 ?_
    refine pt_iret eR_gives_17 (Nat.le_refl _) (Nat.le_refl _) ?_
    first
    | (have c4 := pwi_0 c4
       rw [show fGives q v d w = (q, v, -1) by unfold fGives; rw [if_pos c4]]
       exact ⟨rfl, rfl, hM, fr.rf⟩)
    | (have c13 := pwi_0 c13
       rw [show fGives q v d w = (q, v, -1) by unfold fGives; rw [if_neg (fun z => z c4), if_neg (by omega), if_neg (by omega), if_neg (by omega)]]
       exact ⟨rfl, rfl, hM, fr.rf⟩)
  · have c4 := pwi_1 c4
    refine pt_iload eR_gives_7 rfl ?_
    refine pt_ic eR_gives_8 ?_
    refine pt_ic eR_gives_9 ?_
    refine pt_ks3r eR_gives_10 (cR_in G sz _ (by unfold jR at *; omega) (by unfold jR at *; omega) (by unfold jR at *; omega)) (Nat.le_of_ble_eq_true rfl) (by decide) (Nat.le_refl _) (Nat.le_refl _) ?_
    refine pt_zne eR_gives_13 (pwi_j _ _ _) (fun c13 => ?_) (fun c13 => ?_)
    · have c13 := pwi_1 c13
      refine pt_iload eR_gives_18 rfl ?_
      refine pt_zne eR_gives_19 ⟨by omega, by omega⟩ (fun c19 => ?_) (fun c19 => ?_)
      · refine pt_ic eR_gives_28 ?_
        refine pt_istore3 eR_gives_29 rfl ?_
        refine pt_iload eR_gives_30 rfl ?_
        refine pt_ic eR_gives_31 ?_
        refine pt_cne eR_gives_32 ⟨by omega, by omega⟩ ⟨by omega, by omega⟩ (fun c32 => ?_) (fun c32 => ?_)
        · refine pt_ic eR_gives_65 ?_
          refine pt_istore4 eR_gives_66 rfl ?_
          have hz9 : mtc (q 2 0) (q 2 1) d 0 = 0 := by
            unfold mtc
            rw [if_neg (by omega)]
            rfl
          refine pt_lve [some (vr 178), some (vi d), some (vi w), some (vi (mtc (q 2 0) (q 2 1) d 0)), some (vi 0)] (by rw [hz9]) ?_
          refine lR_gives2 G sz hp hR h_door id0 id1 id2 id3 c4.1 c4.2 (fun hp5 he5 => ?_) 20 0 hp (by omega) (by omega) rfl
          rw [he5]
          refine pt_iload eR_gives_117 rfl ?_
          refine pt_iret eR_gives_118 (Nat.le_refl _) (Nat.le_refl _) ?_
          rw [show fGives q v d w = (q, v, _) by unfold fGives; rw [if_neg (fun z => z c4), if_neg c19, if_neg c32, if_pos (show w = 2 by omega)]]
          rw [mtc_20 id2 c4.1]
          exact ⟨rfl, rfl, hM, fr.rf⟩
        · refine pt_aload eR_gives_35 rfl ?_
          refine pt_iload eR_gives_36 rfl ?_
          refine pt_kv1r eR_gives_37 (cR_givesOn G sz _ hR h_door id0 id1 id2 id3 (by omega) (by omega)) hR rfl (Nat.le_of_ble_eq_true rfl) (by decide) (Nat.le_refl _) (Nat.le_refl _) ?_
          refine pt_istore4 eR_gives_40 rfl ?_
          have hr := lawf_r (ev := q 2 0) (bk := q 2 1) (d := d) id2 c4.1
          refine lR_gives1 G sz hp hR h_door id0 id1 id2 id3 20 _ 0 (by omega) (by omega) ?_
          rw [show fGives q v d w = (q, v, _) by unfold fGives; rw [if_neg (fun z => z c4), if_neg c19, if_pos c32]]
          rw [Int.zero_add]
          exact ⟨rfl, rfl, hM, fr.rf⟩
      · refine pt_aload eR_gives_22 rfl ?_
        refine pt_iload eR_gives_23 rfl ?_
        refine pt_kv1r eR_gives_24 (cR_givesOn G sz _ hR h_door id0 id1 id2 id3 (by omega) (by omega)) hR rfl (Nat.le_of_ble_eq_true rfl) (by decide) (Nat.le_refl _) (Nat.le_refl _) ?_
        refine pt_iret eR_gives_27 (Nat.le_refl _) (Nat.le_refl _) ?_
        rw [show fGives q v d w = (q, v, _) by unfold fGives; rw [if_neg (fun z => z c4), if_pos c19]]
        exact ⟨rfl, rfl, hM, fr.rf⟩
    · refine pt_ic eR_gives_16 ?_
      refine pt_iret eR_gives_17 (Nat.le_refl _) (Nat.le_refl _) ?_
      first
      | (have c4 := pwi_0 c4
         rw [show fGives q v d w = (q, v, -1) by unfold fGives; rw [if_pos c4]]
         exact ⟨rfl, rfl, hM, fr.rf⟩)
      | (have c13 := pwi_0 c13
         rw [show fGives q v d w = (q, v, -1) by unfold fGives; rw [if_neg (fun z => z c4), if_neg (by omega), if_neg (by omega), if_neg (by omega)]]
         exact ⟨rfl, rfl, hM, fr.rf⟩)
theorem lD_steps (G : pd_G) (sz : Nat) (hp : pd_P) {to dr : Nat} {se ga gd ev bk : Int} (hD : hp 1 = DO to dr se ga) (hH : hp to = HO to gd ev bk) (h1 : 1 ≤ ev) (h2 : ev ≤ 9) (h3 : 1 ≤ bk) (h4 : bk ≤ 9) {d : Int} {R : pd_R} : ∀ (n : Nat) (x c : Int), (x = -9 ∨ (0 ≤ x ∧ x < n ∧ x + c < 20)) → n ≤ 20 → 0 ≤ c → c ≤ 20 → R (some (vi (c + stp ev bk n x))) sz hp → pd_t G mD_steps 3 R 11 [some (vr 1), some (vi d), some (vi x), some (vi c)] [] sz hp := by
  intro n
  induction n with
  | zero =>
    intro x c hx hn hc0 hc1 hR9
    have hx9 : x = -9 := by omega
    subst hx9
    refine pt_iload eD_steps_11 rfl ?_
    refine pt_ic eD_steps_12 ?_
    refine pt_ceq eD_steps_14 ⟨by omega, by omega⟩ ⟨by omega, by omega⟩ (fun c14 => ?_) (fun c14 => ?_)
    · refine pt_iload eD_steps_38 rfl ?_
      refine pt_iret eD_steps_39 (Nat.le_refl _) (Nat.le_refl _) ?_
      have hz : c + stp ev bk 0 (-9) = c := by show c + 0 = c; omega
      rw [hz] at hR9
      exact hR9
    · exact absurd rfl c14
  | succ n ih =>
    intro x c hx hn hc0 hc1 hR9
    refine pt_iload eD_steps_11 rfl ?_
    refine pt_ic eD_steps_12 ?_
    refine pt_ceq eD_steps_14 ⟨by omega, by omega⟩ ⟨by omega, by omega⟩ (fun c14 => ?_) (fun c14 => ?_)
    · refine pt_iload eD_steps_38 rfl ?_
      refine pt_iret eD_steps_39 (Nat.le_refl _) (Nat.le_refl _) ?_
      first
      | (exfalso; omega)
      | (rw [stp, if_pos c14, Int.add_zero] at hR9
         exact hR9)
    · refine pt_iload eD_steps_17 rfl ?_
      refine pt_ic eD_steps_18 ?_
      refine pt_cge eD_steps_20 ⟨by omega, by omega⟩ ⟨by omega, by omega⟩ (fun c20 => ?_) (fun c20 => ?_)
      · refine pt_iload eD_steps_38 rfl ?_
        refine pt_iret eD_steps_39 (Nat.le_refl _) (Nat.le_refl _) ?_
        first
        | (exfalso; omega)
        | (rw [stp, if_pos c14, Int.add_zero] at hR9
           exact hR9)
      · refine pt_inc3 eD_steps_23 rfl ?_
        refine pt_aload eD_steps_26 rfl ?_
        refine pt_get eD_steps_27 hD rfl ?_
        refine pt_iload eD_steps_30 rfl ?_
        refine pt_kv1r eD_steps_31 (cH_leads G sz _ hH h1 h2 h3 h4 (by omega) (by omega)) hH rfl (Nat.le_of_ble_eq_true rfl) (by decide) (Nat.le_refl _) (Nat.le_refl _) ?_
        refine pt_istore2 eD_steps_34 rfl ?_
        refine pt_goto eD_steps_35 ?_
        have hr := lawf_r (ev := ev) (bk := bk) (d := x) h3 (by omega)
        refine ih _ _ (by omega) (by omega) (by omega) (by omega) ?_
        rw [stp, if_neg c14, ← Int.add_assoc] at hR9
        exact hR9
theorem cD_steps (G : pd_G) (sz : Nat) (hp : pd_P) {to dr : Nat} {se ga gd ev bk : Int} (hD : hp 1 = DO to dr se ga) (hH : hp to = HO to gd ev bk) (h1 : 1 ≤ ev) (h2 : ev ≤ 9) (h3 : 1 ≤ bk) (h4 : bk ≤ 9) {d : Int} (hd0 : 0 ≤ d) (hd1 : d ≤ 19) : pd_c G mD_steps 3 [vr 1, vi d] sz hp (pd_pure (vi (stp ev bk 20 (lawf d ev bk))) sz hp) := by
  refine pd_con kD_steps [some (vr 1), some (vi d), none, none] rfl rfl (Nat.le_of_ble_eq_true rfl) ?_
  have hr := lawf_r (ev := ev) (bk := bk) (d := d) h3 hd0
  refine pt_aload eD_steps_0 rfl ?_
  refine pt_get eD_steps_1 hD rfl ?_
  refine pt_iload eD_steps_4 rfl ?_
  refine pt_kv1r eD_steps_5 (cH_leads G sz _ hH h1 h2 h3 h4 (by omega) (by omega)) hH rfl (Nat.le_of_ble_eq_true rfl) (by decide) (Nat.le_refl _) (Nat.le_refl _) ?_
  refine pt_istore2 eD_steps_8 rfl ?_
  refine pt_ic eD_steps_9 ?_
  refine pt_istore3 eD_steps_10 rfl ?_
  refine lD_steps G sz hp hD hH h1 h2 h3 h4 20 _ 0 (by omega) (by omega) (by omega) (by omega) ?_
  rw [Int.zero_add]
  exact ⟨rfl, rfl, rfl⟩
theorem lD_meet (G : pd_G) (sz : Nat) (hp : pd_P) {to dr : Nat} {se ga gd ev bk : Int} (hD : hp 1 = DO to dr se ga) (hH : hp to = HO to gd ev bk) (h1 : 1 ≤ ev) (h2 : ev ≤ 9) (h3 : 1 ≤ bk) (h4 : bk ≤ 9) {d : Int} (hd0 : 0 ≤ d) (hd1 : d ≤ 19) {R : pd_R} (hx : ∀  (hp0 : pd_P), hp0 = hp → pd_t G mD_meetings 3 R 48 [some (vr 1), some (vi d), some (vi ((if lawf d ev bk = -9 then 0 else 1) + mt ev bk d (20 : Int).toNat)), some (vi (20))] [] sz hp0) : ∀ (n : Nat) (i : Int)  (hp0 : pd_P), 0 ≤ i → i + n = 20 → hp0 = hp → pd_t G mD_meetings 3 R 21 [some (vr 1), some (vi d), some (vi ((if lawf d ev bk = -9 then 0 else 1) + mt ev bk d (i : Int).toNat)), some (vi (i))] [] sz hp0 := by
  intro n
  induction n with
  | zero =>
    intro i  hp0 hi0 hiE he0
    have hiE2 : 20 = i := by omega
    subst hiE2
    have hx2 := hx  hp0 he0
    rw [he0] at hx2
    rw [he0]
    refine pt_iload eD_meetings_21 rfl ?_
    refine pt_ic eD_meetings_22 ?_
    refine pt_cge eD_meetings_24 ⟨by omega, by omega⟩ ⟨by omega, by omega⟩ (fun c24 => ?_) (fun c24 => ?_)
    · exact hx2
    · exfalso; omega
  | succ n ih =>
    intro i  hp0 hi0 hiE he0
    rw [he0]
    refine pt_iload eD_meetings_21 rfl ?_
    refine pt_ic eD_meetings_22 ?_
    refine pt_cge eD_meetings_24 ⟨by omega, by omega⟩ ⟨by omega, by omega⟩ (fun c24 => ?_) (fun c24 => ?_)
    · exfalso; omega
    · refine pt_aload eD_meetings_27 rfl ?_
      refine pt_get eD_meetings_28 hD rfl ?_
      refine pt_iload eD_meetings_31 rfl ?_
      refine pt_kv1r eD_meetings_32 (cH_leads G sz _ hH h1 h2 h3 h4 (by omega) (by omega)) hH rfl (Nat.le_of_ble_eq_true rfl) (by decide) (Nat.le_refl _) (Nat.le_refl _) ?_
      refine pt_iload eD_meetings_35 rfl ?_
      refine pt_cne eD_meetings_36 (lawf_jr h3 (by omega) (by omega)) ⟨by omega, by omega⟩ (fun c36 => ?_) (fun c36 => ?_)
      · refine pt_inc3 eD_meetings_42 rfl ?_
        refine pt_goto eD_meetings_45 ?_
        have hs9 := mt_s (ev := ev) (bk := bk) (d := d) (i := i) hi0
        first
        | (rw [if_neg c36, Int.add_zero] at hs9
           rw [← hs9])
        | (rw [if_pos c36] at hs9
           rw [Int.add_assoc, ← hs9])
        exact ih (i + 1)  hp (by omega) (by omega) rfl 
      · refine pt_inc2 eD_meetings_39 rfl ?_
        refine pt_inc3 eD_meetings_42 rfl ?_
        refine pt_goto eD_meetings_45 ?_
        have hs9 := mt_s (ev := ev) (bk := bk) (d := d) (i := i) hi0
        first
        | (rw [if_neg c36, Int.add_zero] at hs9
           rw [← hs9])
        | (rw [if_pos c36] at hs9
           rw [Int.add_assoc, ← hs9])
        exact ih (i + 1)  hp (by omega) (by omega) rfl 
theorem cD_meetings (G : pd_G) (sz : Nat) (hp : pd_P) {to dr : Nat} {se ga gd ev bk : Int} (hD : hp 1 = DO to dr se ga) (hH : hp to = HO to gd ev bk) (h1 : 1 ≤ ev) (h2 : ev ≤ 9) (h3 : 1 ≤ bk) (h4 : bk ≤ 9) {d : Int} (hd0 : 0 ≤ d) (hd1 : d ≤ 19) : pd_c G mD_meetings 3 [vr 1, vi d] sz hp (pd_pure (vi ((if lawf d ev bk = -9 then 0 else 1) + mt ev bk d 20)) sz hp) := by
  refine pd_con kD_meetings [some (vr 1), some (vi d), none, none] rfl rfl (Nat.le_of_ble_eq_true rfl) ?_
  refine pt_aload eD_meetings_0 rfl ?_
  refine pt_get eD_meetings_1 hD rfl ?_
  refine pt_iload eD_meetings_4 rfl ?_
  refine pt_kv1r eD_meetings_5 (cH_leads G sz _ hH h1 h2 h3 h4 (by omega) (by omega)) hH rfl (Nat.le_of_ble_eq_true rfl) (by decide) (Nat.le_refl _) (Nat.le_refl _) ?_
  refine pt_ic eD_meetings_8 ?_
  refine pt_cne eD_meetings_10 (lawf_jr h3 (by omega) (by omega)) ⟨by decide, by decide⟩ (fun c10 => ?_) (fun c10 => ?_)
  · refine pt_ic eD_meetings_17 ?_
    refine pt_istore2 eD_meetings_18 rfl ?_
    refine pt_ic eD_meetings_19 ?_
    refine pt_istore3 eD_meetings_20 rfl ?_
    refine pt_lve [some (vr 1), some (vi d), some (vi ((if lawf d ev bk = -9 then 0 else 1) + mt ev bk d (0 : Int).toNat)), some (vi 0)] (by first | (rw [if_pos c10]; rfl) | (rw [if_neg c10]; rfl)) ?_
    refine lD_meet G sz hp hD hH h1 h2 h3 h4 hd0 hd1 (fun hp5 he5 => ?_) 20 0 hp (by omega) (by omega) rfl
    rw [he5]
    refine pt_iload eD_meetings_48 rfl ?_
    refine pt_iret eD_meetings_49 (Nat.le_refl _) (Nat.le_refl _) ?_
    exact ⟨rfl, rfl, rfl⟩
  · refine pt_ic eD_meetings_13 ?_
    refine pt_goto eD_meetings_14 ?_
    refine pt_istore2 eD_meetings_18 rfl ?_
    refine pt_ic eD_meetings_19 ?_
    refine pt_istore3 eD_meetings_20 rfl ?_
    refine pt_lve [some (vr 1), some (vi d), some (vi ((if lawf d ev bk = -9 then 0 else 1) + mt ev bk d (0 : Int).toNat)), some (vi 0)] (by first | (rw [if_pos c10]; rfl) | (rw [if_neg c10]; rfl)) ?_
    refine lD_meet G sz hp hD hH h1 h2 h3 h4 hd0 hd1 (fun hp5 he5 => ?_) 20 0 hp (by omega) (by omega) rfl
    rw [he5]
    refine pt_iload eD_meetings_48 rfl ?_
    refine pt_iret eD_meetings_49 (Nat.le_refl _) (Nat.le_refl _) ?_
    exact ⟨rfl, rfl, rfl⟩
theorem xD_gives (G : pd_G) (sz : Nat) (hp : pd_P) {to dr : Nat} {q : Nat → Int → Int} {v : Nat → Int} (hC : CW hp to dr q v) (hI : IN q v) {d : Int} (j_d : jR d) {w : Int} (j_w : jR w) : pd_c G mD_gives 4 [vr 1, vi d, vi w] sz hp (cPost hp sz (fGives q v d w)) := by
  refine pd_con kD_gives [some (vr 1), some (vi d), some (vi w)] rfl rfl (Nat.le_of_ble_eq_true rfl) ?_
  obtain ⟨⟨ig0, ig4⟩, ⟨id0, id1, id2, id3⟩, iB, iM, iU, iF, iS, iP, iI, ⟨is0, is4, isx⟩, ⟨im0, im4, imx⟩, it0, it1⟩ := hI
  have k_d := j_d
  unfold jR at k_d
  have k_w := j_w
  unfold jR at k_w
  have hC0 := hC
  obtain ⟨hto, hDo, hTx, hHs, hHd, hLf, hI0, hI1, hGo, hPl⟩ := hC
  have hDo2 := hDo
  obtain ⟨hD, ⟨imf, hIm, him0, him1⟩, hKp, hSg, hSt, hGd, hGt⟩ := hDo2
  have hHs2 := hHs
  obtain ⟨fi, us, we, wo, stt, hHo, hag, hstt⟩ := hHs2
  have hHo2 := hHo
  obtain ⟨hH, hH1, hH2, hH3, hH4, hH5, hH6, hH7⟩ := hHo2
  refine pt_iload eD_gives_0 rfl ?_
  refine pt_ic eD_gives_1 ?_
  refine pt_ic eD_gives_2 ?_
  refine pt_ks3r eD_gives_4 (cD_within G sz _ (by unfold jR at *; omega) (by unfold jR at *; omega) (by unfold jR at *; omega)) (Nat.le_of_ble_eq_true rfl) (by decide) (Nat.le_refl _) (Nat.le_refl _) ?_
  refine pt_zne eD_gives_7 (pwi_j _ _ _) (fun c7 => ?_) (fun c7 => ?_)
  · have c7 := pwi_1 c7
    refine pt_iload eD_gives_12 rfl ?_
    rcases (show w = 0 ∨ w = 1 ∨ w = 2 ∨ (w < 0 ∨ 2 < w) by omega) with rfl | rfl | rfl | hsw
    · refine pt_tin (t := 40) (off := 27) eD_gives_13 ⟨by decide, by decide⟩ (by decide) (by decide) rfl (by decide) ?_
      refine pt_aload eD_gives_40 rfl ?_
      refine pt_get eD_gives_41 hD rfl ?_
      refine pt_iload eD_gives_44 rfl ?_
      refine pt_kv1r eD_gives_45 (cH_leads G sz _ hH id0 id1 id2 id3 (by omega) (by omega)) hH rfl (Nat.le_of_ble_eq_true rfl) (by decide) (Nat.le_refl _) (Nat.le_refl _) ?_
      refine pt_iret eD_gives_48 (Nat.le_refl _) (Nat.le_refl _) ?_
      rw [show fGives q v d _ = (q, v, _) by unfold fGives; rw [if_neg (fun z => z c7)]]
      exact ⟨rfl, rfl, ⟨to, dr, hC0⟩, fr.rf⟩
    · refine pt_tin (t := 49) (off := 36) eD_gives_13 ⟨by decide, by decide⟩ (by decide) (by decide) rfl (by decide) ?_
      refine pt_aload eD_gives_49 rfl ?_
      refine pt_iload eD_gives_50 rfl ?_
      refine pt_kv1r eD_gives_51 (cD_steps G sz _ hD hH id0 id1 id2 id3 c7.1 c7.2) hD rfl (Nat.le_of_ble_eq_true rfl) (by decide) (Nat.le_refl _) (Nat.le_refl _) ?_
      refine pt_iret eD_gives_54 (Nat.le_refl _) (Nat.le_refl _) ?_
      rw [show fGives q v d _ = (q, v, _) by unfold fGives; rw [if_neg (fun z => z c7)]]
      exact ⟨rfl, rfl, ⟨to, dr, hC0⟩, fr.rf⟩
    · refine pt_tin (t := 55) (off := 42) eD_gives_13 ⟨by decide, by decide⟩ (by decide) (by decide) rfl (by decide) ?_
      refine pt_aload eD_gives_55 rfl ?_
      refine pt_iload eD_gives_56 rfl ?_
      refine pt_kv1r eD_gives_57 (cD_meetings G sz _ hD hH id0 id1 id2 id3 c7.1 c7.2) hD rfl (Nat.le_of_ble_eq_true rfl) (by decide) (Nat.le_refl _) (Nat.le_refl _) ?_
      refine pt_iret eD_gives_60 (Nat.le_refl _) (Nat.le_refl _) ?_
      rw [show fGives q v d _ = (q, v, _) by unfold fGives; rw [if_neg (fun z => z c7)]]
      exact ⟨rfl, rfl, ⟨to, dr, hC0⟩, fr.rf⟩
    · refine pt_tout (t := 61) eD_gives_13 ⟨by omega, by omega⟩ hsw (by decide) ?_
      refine pt_ic eD_gives_61 ?_
      refine pt_iret eD_gives_62 (Nat.le_refl _) (Nat.le_refl _) ?_
      rw [show fGives q v d w = (q, v, -1) by unfold fGives; rw [if_neg (fun z => z c7), if_neg (by omega), if_neg (by omega), if_neg (by omega)]]
      exact ⟨rfl, rfl, ⟨to, dr, hC0⟩, fr.rf⟩
  · refine pt_ic eD_gives_10 ?_
    refine pt_iret eD_gives_11 (Nat.le_refl _) (Nat.le_refl _) ?_
    have c7 := pwi_0 c7
    rw [show fGives q v d w = (q, v, -1) by unfold fGives; rw [if_pos c7]]
    exact ⟨rfl, rfl, ⟨to, dr, hC0⟩, fr.rf⟩
