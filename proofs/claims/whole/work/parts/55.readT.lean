/-! the class's tokens -/
theorem cT_isLetter (G : pd_G) (sz : Nat) (hp : pd_P) {c : Int} (h1 : jR c) : pd_c G mT_isLetter 1 [vi c] sz hp (pd_pure (vi (pwi c 97 122)) sz hp) := by
  refine pd_con kT_isLetter [some (vi c)] rfl rfl (Nat.le_of_ble_eq_true rfl) ?_
  refine pt_iload eT_isLetter_0 rfl ?_
  refine pt_ic eT_isLetter_1 ?_
  refine pt_ic eT_isLetter_3 ?_
  refine pt_ks3r eT_isLetter_5 (cD_within G sz _ h1 ⟨by decide, by decide⟩ ⟨by decide, by decide⟩) (Nat.le_of_ble_eq_true rfl) (by decide) (Nat.le_refl _) (Nat.le_refl _) ?_
  refine pt_iret (eT_isLetter_8 (pwi_01 _ _ _)) (Nat.le_refl _) (Nat.le_refl _) ?_
  exact ⟨rfl, rfl, rfl⟩
theorem cT_isDigit (G : pd_G) (sz : Nat) (hp : pd_P) {c : Int} (h1 : jR c) : pd_c G mT_isDigit 1 [vi c] sz hp (pd_pure (vi (pwi c 48 57)) sz hp) := by
  refine pd_con kT_isDigit [some (vi c)] rfl rfl (Nat.le_of_ble_eq_true rfl) ?_
  refine pt_iload eT_isDigit_0 rfl ?_
  refine pt_ic eT_isDigit_1 ?_
  refine pt_ic eT_isDigit_3 ?_
  refine pt_ks3r eT_isDigit_5 (cD_within G sz _ h1 ⟨by decide, by decide⟩ ⟨by decide, by decide⟩) (Nat.le_of_ble_eq_true rfl) (by decide) (Nat.le_refl _) (Nat.le_refl _) ?_
  refine pt_iret (eT_isDigit_8 (pwi_01 _ _ _)) (Nat.le_refl _) (Nat.le_refl _) ?_
  exact ⟨rfl, rfl, rfl⟩
theorem lT_sp (G : pd_G) (sz : Nat) (hp : pd_P) {b tx : Int → Int} {n dt : Int} (hTb : hp 3 = ia 150 tx) (hX : okX b n) (hb : ∀ i, 0 ≤ i → i < n → tx i = b i) {p pl tok val : Int} {R : pd_R} (hx : pd_t G mT_next 3 R 38 [some (vr 2)] [] sz (va_up hp 2 (TO n p pl tok val dt))) : ∀ (f : Nat) (a : Int) (hp0 : pd_P), 0 ≤ a → a + f = n → ren b n 32 32 a = p → hp0 = va_up hp 2 (TO n a pl tok val dt) → pd_t G mT_next 3 R 0 [some (vr 2)] [] sz hp0 := by
  intro f
  induction f with
  | zero =>
    intro a hp0 ha0 haE hp9 he0
    have hX0 := hX.1
    have hT := pg_s he0
    have hTb := pg_n he0 (by decide) hTb
    have hq9 : p = a := by rw [← hp9, ren_n (by omega)]
    refine pt_aload eT_next_0 rfl ?_
    refine pt_get eT_next_1 hT rfl ?_
    refine pt_aload eT_next_4 rfl ?_
    refine pt_get eT_next_5 hT rfl ?_
    refine pt_cge eT_next_8 ⟨by omega, by omega⟩ ⟨by omega, by omega⟩ (fun c8 => ?_) (fun c8 => ?_)
    · rw [he0, ← hq9]
      exact hx
    · exfalso; omega
  | succ f ih =>
    intro a hp0 ha0 haE hp9 he0
    have hX0 := hX.1
    have hT := pg_s he0
    have hTb := pg_n he0 (by decide) hTb
    refine pt_aload eT_next_0 rfl ?_
    refine pt_get eT_next_1 hT rfl ?_
    refine pt_aload eT_next_4 rfl ?_
    refine pt_get eT_next_5 hT rfl ?_
    refine pt_cge eT_next_8 ⟨by omega, by omega⟩ ⟨by omega, by omega⟩ (fun c8 => ?_) (fun c8 => ?_)
    · first
      | (exfalso; omega)
      | (have hq9 : p = a := by rw [← hp9, ren_e (by omega) (by omega)]
         rw [he0, ← hq9]
         exact hx)
    · refine pt_aload eT_next_11 rfl ?_
      refine pt_get eT_next_12 hT rfl ?_
      refine pt_aload eT_next_15 rfl ?_
      refine pt_get eT_next_16 hT rfl ?_
      refine pt_iald eT_next_19 hTb (by omega) (by omega) (by decide) ?_
      rw [hb a (by omega) (by omega)]
      have hbr := hX.2 a (by omega) (by omega)
      generalize hgc : b a = cc at hbr
      refine pt_ic eT_next_20 ?_
      refine pt_cne eT_next_22 ⟨by omega, by omega⟩ ⟨by omega, by omega⟩ (fun c22 => ?_) (fun c22 => ?_)
      · first
        | (exfalso; omega)
        | (have hq9 : p = a := by rw [← hp9, ren_e (by omega) (by omega)]
           rw [he0, ← hq9]
           exact hx)
      · refine pt_aload eT_next_25 rfl ?_
        refine pt_dupr eT_next_26 ?_
        refine pt_get eT_next_27 hT rfl ?_
        refine pt_ic eT_next_30 ?_
        refine pt_iadd eT_next_31 ?_
        refine pt_put3 eT_next_32 hT trivial ?_
        refine pt_gen ?_
        intro hp1 ev1
        have hT := pg_s ev1
        have hTb := pg_n ev1 (by omega) hTb
        refine pt_goto eT_next_35 ?_
        refine ih (a + 1) hp1 (by omega) (by omega) ?_ (by rw [ev1, he0, bx_uu])
        exact (ren_s (by omega) (by omega)).symm.trans hp9
theorem lT_le (G : pd_G) (sz : Nat) (hp : pd_P) {b tx : Int → Int} {n dt : Int} (hTb : hp 3 = ia 150 tx) (hX : okX b n) (hb : ∀ i, 0 ≤ i → i < n → tx i = b i) {p e : Int} {R : pd_R} (hx : pd_t G mT_nextLetters 2 R 44 [some (vr 2)] [] sz (va_up hp 2 (TO n e p 1 0 dt))) : ∀ (f : Nat) (a : Int) (hp0 : pd_P), 0 ≤ a → a + f = n → ren b n 97 122 a = e → hp0 = va_up hp 2 (TO n a p 1 0 dt) → pd_t G mT_nextLetters 2 R 5 [some (vr 2)] [] sz hp0 := by
  intro f
  induction f with
  | zero =>
    intro a hp0 ha0 haE hp9 he0
    have hX0 := hX.1
    have hT := pg_s he0
    have hTb := pg_n he0 (by decide) hTb
    have hq9 : e = a := by rw [← hp9, ren_n (by omega)]
    refine pt_aload eT_nextLetters_5 rfl ?_
    refine pt_get eT_nextLetters_6 hT rfl ?_
    refine pt_aload eT_nextLetters_9 rfl ?_
    refine pt_get eT_nextLetters_10 hT rfl ?_
    refine pt_cge eT_nextLetters_13 ⟨by omega, by omega⟩ ⟨by omega, by omega⟩ (fun c13 => ?_) (fun c13 => ?_)
    · rw [he0, ← hq9]
      exact hx
    · exfalso; omega
  | succ f ih =>
    intro a hp0 ha0 haE hp9 he0
    have hX0 := hX.1
    have hT := pg_s he0
    have hTb := pg_n he0 (by decide) hTb
    refine pt_aload eT_nextLetters_5 rfl ?_
    refine pt_get eT_nextLetters_6 hT rfl ?_
    refine pt_aload eT_nextLetters_9 rfl ?_
    refine pt_get eT_nextLetters_10 hT rfl ?_
    refine pt_cge eT_nextLetters_13 ⟨by omega, by omega⟩ ⟨by omega, by omega⟩ (fun c13 => ?_) (fun c13 => ?_)
    · first
      | (exfalso; omega)
      | (have c28 := pwi_0 c28
         have hq9 : e = a := by rw [← hp9, ren_e (by omega) (by omega)]
         rw [he0, ← hq9]
         exact hx)
    · refine pt_aload eT_nextLetters_16 rfl ?_
      refine pt_get eT_nextLetters_17 hT rfl ?_
      refine pt_aload eT_nextLetters_20 rfl ?_
      refine pt_get eT_nextLetters_21 hT rfl ?_
      refine pt_iald eT_nextLetters_24 hTb (by omega) (by omega) (by decide) ?_
      rw [hb a (by omega) (by omega)]
      have hbr := hX.2 a (by omega) (by omega)
      generalize hgc : b a = cc at hbr
      refine pt_ks1r eT_nextLetters_25 (cT_isLetter G sz _ ⟨by omega, by omega⟩) (Nat.le_of_ble_eq_true rfl) (by decide) (Nat.le_refl _) (Nat.le_refl _) ?_
      refine pt_zeq eT_nextLetters_28 (pwi_j _ _ _) (fun c28 => ?_) (fun c28 => ?_)
      · first
        | (exfalso; omega)
        | (have c28 := pwi_0 c28
           have hq9 : e = a := by rw [← hp9, ren_e (by omega) (by omega)]
           rw [he0, ← hq9]
           exact hx)
      · have c28 := pwi_1 c28
        refine pt_aload eT_nextLetters_31 rfl ?_
        refine pt_dupr eT_nextLetters_32 ?_
        refine pt_get eT_nextLetters_33 hT rfl ?_
        refine pt_ic eT_nextLetters_36 ?_
        refine pt_iadd eT_nextLetters_37 ?_
        refine pt_put3 eT_nextLetters_38 hT trivial ?_
        refine pt_gen ?_
        intro hp1 ev1
        have hT := pg_s ev1
        have hTb := pg_n ev1 (by omega) hTb
        refine pt_goto eT_nextLetters_41 ?_
        refine ih (a + 1) hp1 (by omega) (by omega) ?_ (by rw [ev1, he0, bx_uu])
        exact (ren_s (by omega) (by omega)).symm.trans hp9
theorem cT_nextLetters (G : pd_G) (sz : Nat) (hp : pd_P) {b tx : Int → Int} {n dt : Int} (hTb : hp 3 = ia 150 tx) (hX : okX b n) (hb : ∀ i, 0 ≤ i → i < n → tx i = b i) {p tok : Int} (hT : hp 2 = TO n p p tok 0 dt) (h0 : 0 ≤ p) (h1 : p < n) : pd_c G mT_nextLetters 2 [vr 2] sz hp (fun v' sz' hp' => v' = none ∧ sz' = sz ∧ hp' = va_up hp 2 (TO n (ren b n 97 122 p) p 1 (if ren b n 97 122 p - p = 1 then b p else 0) dt)) := by
  refine pd_con kT_nextLetters [some (vr 2)] rfl rfl (Nat.le_of_ble_eq_true rfl) ?_
  have hX0 := hX.1
  have hTb0 := hTb
  obtain ⟨e, he⟩ : ∃ e, ren b n 97 122 p = e := ⟨_, rfl⟩
  have her := ren_r (b := b) (lo := 97) (hi := 122) (show p ≤ n by omega)
  rw [he] at her
  rw [he]
  refine pt_aload eT_nextLetters_0 rfl ?_
  refine pt_ic eT_nextLetters_1 ?_
  refine pt_put5 eT_nextLetters_2 hT trivial ?_
  refine pt_gen ?_
  intro hp1 ev1
  have hT := pg_s ev1
  have hTb := pg_n ev1 (by omega) hTb
  refine lT_le G sz hp (p := p) (e := e) (tx := tx) hTb0 hX hb ?_ (n - p).toNat p hp1 h0 (by omega) he ev1
  refine pt_gen ?_
  intro hp5 ev5
  have hT := pg_s ev5
  have hTb := pg_n ev5 (by decide) hTb0
  refine pt_aload eT_nextLetters_44 rfl ?_
  refine pt_aload eT_nextLetters_45 rfl ?_
  refine pt_get eT_nextLetters_46 hT rfl ?_
  refine pt_aload eT_nextLetters_49 rfl ?_
  refine pt_get eT_nextLetters_50 hT rfl ?_
  refine pt_ic eT_nextLetters_53 ?_
  refine pt_iadd eT_nextLetters_54 ?_
  refine pt_cne eT_nextLetters_55 ⟨by omega, by omega⟩ ⟨by omega, by omega⟩ (fun c55 => ?_) (fun c55 => ?_)
  · refine pt_ic eT_nextLetters_70 ?_
    refine pt_put6 eT_nextLetters_71 hT trivial ?_
    refine pt_gen ?_
    intro hp11 ev11
    have hT := pg_s ev11
    have hTb := pg_n ev11 (by omega) hTb
    refine pt_vret eT_nextLetters_74 (Nat.le_refl _) (Nat.le_refl _) ?_
    refine ⟨rfl, rfl, ?_⟩
    rw [ev11, ev5, bx_uu]
    first | rw [if_pos (by omega)] | rw [if_neg (by omega)]
  · refine pt_aload eT_nextLetters_58 rfl ?_
    refine pt_get eT_nextLetters_59 hT rfl ?_
    refine pt_aload eT_nextLetters_62 rfl ?_
    refine pt_get eT_nextLetters_63 hT rfl ?_
    refine pt_iald eT_nextLetters_66 hTb (by omega) (by omega) (by decide) ?_
    rw [hb p (by omega) (by omega)]
    refine pt_goto eT_nextLetters_67 ?_
    refine pt_put6 eT_nextLetters_71 hT trivial ?_
    refine pt_gen ?_
    intro hp12 ev12
    have hT := pg_s ev12
    have hTb := pg_n ev12 (by omega) hTb
    refine pt_vret eT_nextLetters_74 (Nat.le_refl _) (Nat.le_refl _) ?_
    refine ⟨rfl, rfl, ?_⟩
    rw [ev12, ev5, bx_uu]
    first | rw [if_pos (by omega)] | rw [if_neg (by omega)]
theorem lT_di (G : pd_G) (sz : Nat) (hp : pd_P) {b tx : Int → Int} {n dt : Int} (hTb : hp 3 = ia 150 tx) (hX : okX b n) (hb : ∀ i, 0 ≤ i → i < n → tx i = b i) {p e tok : Int} (hp0 : 0 ≤ p) {R : pd_R} (hx : pd_t G mT_nextNumber 2 R 68 [some (vr 2), none] [] sz (va_up hp 2 (TO n e p tok (min 100 (rvl b p (e - p).toNat)) dt))) : ∀ (f : Nat) (a : Int) (hpa0 : pd_P), p ≤ a → a + f = n → ren b n 48 57 a = e → (∀ y, p ≤ y → y < a → 48 ≤ b y ∧ b y ≤ 57) → hpa0 = va_up hp 2 (TO n a p tok (min 100 (rvl b p (a - p).toNat)) dt) → pd_t G mT_nextNumber 2 R 0 [some (vr 2), none] [] sz hpa0 := by
  intro f
  induction f with
  | zero =>
    intro a hpa0 hpa haE hp9 hdg he0
    have hX0 := hX.1
    have hT := pg_s he0
    have hTb := pg_n he0 (by decide) hTb
    have hq9 : e = a := by rw [← hp9, ren_n (by omega)]
    refine pt_aload eT_nextNumber_0 rfl ?_
    refine pt_get eT_nextNumber_1 hT rfl ?_
    refine pt_aload eT_nextNumber_4 rfl ?_
    refine pt_get eT_nextNumber_5 hT rfl ?_
    refine pt_cge eT_nextNumber_8 ⟨by omega, by omega⟩ ⟨by omega, by omega⟩ (fun c8 => ?_) (fun c8 => ?_)
    · rw [he0, ← hq9]
      exact hx
    · exfalso; omega
  | succ f ih =>
    intro a hpa0 hpa haE hp9 hdg he0
    have hX0 := hX.1
    have hT := pg_s he0
    have hTb := pg_n he0 (by decide) hTb
    have rb9 := rvl_c (b := b) (n := n) hpa hdg
    have rs9 := rvl_s (b := b) hpa
    obtain ⟨xx, hgx⟩ : ∃ xx, rvl b p (a - p).toNat = xx := ⟨_, rfl⟩
    rw [hgx] at rb9 rs9 hT
    have hbr := hX.2 a (by omega) (by omega)
    have hba := hb a (by omega) (by omega)
    obtain ⟨cc, hcc⟩ : ∃ cc, b a = cc := ⟨_, rfl⟩
    rw [hcc] at rs9 hbr hba
    refine pt_aload eT_nextNumber_0 rfl ?_
    refine pt_get eT_nextNumber_1 hT rfl ?_
    refine pt_aload eT_nextNumber_4 rfl ?_
    refine pt_get eT_nextNumber_5 hT rfl ?_
    refine pt_cge eT_nextNumber_8 ⟨by omega, by omega⟩ ⟨by omega, by omega⟩ (fun c8 => ?_) (fun c8 => ?_)
    · first
      | (exfalso; omega)
      | (have c23 := pwi_0 c23
         have hq9 : e = a := by rw [← hp9, ren_e (by omega) (by omega)]
         rw [he0, ← hq9]
         exact hx)
    · refine pt_aload eT_nextNumber_11 rfl ?_
      refine pt_get eT_nextNumber_12 hT rfl ?_
      refine pt_aload eT_nextNumber_15 rfl ?_
      refine pt_get eT_nextNumber_16 hT rfl ?_
      refine pt_iald eT_nextNumber_19 hTb (by omega) (by omega) (by decide) ?_
      rw [hba]
      refine pt_ks1r eT_nextNumber_20 (cT_isDigit G sz _ ⟨by omega, by omega⟩) (Nat.le_of_ble_eq_true rfl) (by decide) (Nat.le_refl _) (Nat.le_refl _) ?_
      refine pt_zeq eT_nextNumber_23 (pwi_j _ _ _) (fun c23 => ?_) (fun c23 => ?_)
      · first
        | (exfalso; omega)
        | (have c23 := pwi_0 c23
           have hq9 : e = a := by rw [← hp9, ren_e (by omega) (by omega)]
           rw [he0, ← hq9]
           exact hx)
      · have c23 := pwi_1 c23
        refine pt_aload eT_nextNumber_26 rfl ?_
        refine pt_ic eT_nextNumber_27 ?_
        refine pt_aload eT_nextNumber_29 rfl ?_
        refine pt_get eT_nextNumber_30 hT rfl ?_
        refine pt_ic eT_nextNumber_33 ?_
        refine pt_imul eT_nextNumber_35 ?_
        refine pt_aload eT_nextNumber_36 rfl ?_
        refine pt_get eT_nextNumber_37 hT rfl ?_
        refine pt_aload eT_nextNumber_40 rfl ?_
        refine pt_get eT_nextNumber_41 hT rfl ?_
        refine pt_iald eT_nextNumber_44 hTb (by omega) (by omega) (by decide) ?_
        rw [hba]
        refine pt_iadd eT_nextNumber_45 ?_
        refine pt_ic eT_nextNumber_46 ?_
        refine pt_isub eT_nextNumber_48 ?_
        refine pt_min eT_nextNumber_49 ⟨by omega, by omega⟩ ⟨by omega, by omega⟩ (by decide) (Nat.le_of_ble_eq_true rfl) (Nat.le_refl _) (Nat.le_refl _) ?_
        refine pt_put6 eT_nextNumber_52 hT trivial ?_
        refine pt_gen ?_
        intro hp1 ev1
        have hT := pg_s ev1
        have hTb := pg_n ev1 (by omega) hTb
        refine pt_aload eT_nextNumber_55 rfl ?_
        refine pt_dupr eT_nextNumber_56 ?_
        refine pt_get eT_nextNumber_57 hT rfl ?_
        refine pt_ic eT_nextNumber_60 ?_
        refine pt_iadd eT_nextNumber_61 ?_
        refine pt_put3 eT_nextNumber_62 hT trivial ?_
        refine pt_gen ?_
        intro hp2 ev2
        have hT := pg_s ev2
        have hTb := pg_n ev2 (by omega) hTb
        refine pt_goto eT_nextNumber_65 ?_
        refine ih (a + 1) hp2 (by omega) (by omega) ((ren_s (by omega) (by omega)).symm.trans hp9) (fun y h1 h2 => ?_) ?_
        · by_cases hy : y = a
          · rw [hy]; omega
          · exact hdg y h1 (by omega)
        · have hv9 : min 100 (min 100 xx * 10 + cc - 48) = min 100 (rvl b p (a + 1 - p).toNat) := by rw [rs9]; split <;> omega
          rw [ev2, ev1, he0, bx_uu, bx_uu, hv9]
theorem cT_nextNumber (G : pd_G) (sz : Nat) (hp : pd_P) {b tx : Int → Int} {n dt : Int} (hTb : hp 3 = ia 150 tx) (hX : okX b n) (hb : ∀ i, 0 ≤ i → i < n → tx i = b i) {p tok : Int} (hT : hp 2 = TO n p p tok 0 dt) (h0 : 0 ≤ p) (h1 : p < n) : pd_c G mT_nextNumber 2 [vr 2] sz hp (fun v' sz' hp' => v' = none ∧ sz' = sz ∧ hp' = va_up hp 2 (TO n (ren b n 48 57 p) p (if 99 < rvl b p (ren b n 48 57 p - p).toNat ∨ (b p = 48 ∧ 1 < ren b n 48 57 p - p) then 4 else 2) (min 100 (rvl b p (ren b n 48 57 p - p).toNat)) dt)) := by
  refine pd_con kT_nextNumber [some (vr 2), none] rfl rfl (Nat.le_of_ble_eq_true rfl) ?_
  have hX0 := hX.1
  obtain ⟨e, he⟩ : ∃ e, ren b n 48 57 p = e := ⟨_, rfl⟩
  have her := ren_r (b := b) (lo := 48) (hi := 57) (show p ≤ n by omega)
  have hin := ren_in (b := b) (lo := 48) (hi := 57) (show p ≤ n by omega)
  rw [he] at her hin
  have hxr := rvl_c (b := b) (n := n) her.1 hin
  rw [he]
  refine lT_di G sz hp (p := p) (e := e) (tok := tok) (dt := dt) hTb hX hb h0 ?_ (n - p).toNat p hp (by omega) (by omega) he (fun y h1 h2 => absurd h2 (by omega)) ?_
  rotate_left
  · rw [show (p - p).toNat = 0 by omega]
    exact pu_self hT
  obtain ⟨x, hx9⟩ : ∃ x, rvl b p (e - p).toNat = x := ⟨_, rfl⟩
  rw [hx9] at hxr ⊢
  refine pt_gen ?_
  intro hp5 ev5
  have hT := pg_s ev5
  have hTb := pg_n ev5 (by decide) hTb
  have hbr := hX.2 p (by omega) (by omega)
  refine pt_aload eT_nextNumber_68 rfl ?_
  refine pt_get eT_nextNumber_69 hT rfl ?_
  refine pt_aload eT_nextNumber_72 rfl ?_
  refine pt_get eT_nextNumber_73 hT rfl ?_
  refine pt_iald eT_nextNumber_76 hTb (by omega) (by omega) (by decide) ?_
  rw [hb p (by omega) (by omega)]
  refine pt_ic eT_nextNumber_77 ?_
  refine pt_cne eT_nextNumber_79 ⟨by omega, by omega⟩ ⟨by omega, by omega⟩ (fun c79 => ?_) (fun c79 => ?_)
  · refine pt_ic eT_nextNumber_99 ?_
    refine pt_istore1 eT_nextNumber_100 rfl ?_
    refine pt_aload eT_nextNumber_101 rfl ?_
    refine pt_iload eT_nextNumber_102 rfl ?_
    refine pt_zne eT_nextNumber_103 ⟨by omega, by omega⟩ (fun c103 => ?_) (fun c103 => ?_)
    · refine pt_ic eT_nextNumber_115 ?_
      refine pt_goto eT_nextNumber_116 ?_
      refine pt_put5 eT_nextNumber_120 hT trivial ?_
      refine pt_gen ?_
      intro hp11 ev11
      have hT := pg_s ev11
      have hTb := pg_n ev11 (by omega) hTb
      refine pt_vret eT_nextNumber_123 (Nat.le_refl _) (Nat.le_refl _) ?_
      first
      | (exfalso; omega)
      | (refine ⟨rfl, rfl, ?_⟩
         rw [ev11, ev5, bx_uu]
         first | rw [if_pos (by omega)] | rw [if_neg (by omega)])
    · refine pt_aload eT_nextNumber_106 rfl ?_
      refine pt_get eT_nextNumber_107 hT rfl ?_
      refine pt_ic eT_nextNumber_110 ?_
      refine pt_cle eT_nextNumber_112 ⟨by omega, by omega⟩ ⟨by omega, by omega⟩ (fun c112 => ?_) (fun c112 => ?_)
      · refine pt_ic eT_nextNumber_119 ?_
        refine pt_put5 eT_nextNumber_120 hT trivial ?_
        refine pt_gen ?_
        intro hp12 ev12
        have hT := pg_s ev12
        have hTb := pg_n ev12 (by omega) hTb
        refine pt_vret eT_nextNumber_123 (Nat.le_refl _) (Nat.le_refl _) ?_
        first
        | (exfalso; omega)
        | (refine ⟨rfl, rfl, ?_⟩
           rw [ev12, ev5, bx_uu]
           first | rw [if_pos (by omega)] | rw [if_neg (by omega)])
      · refine pt_ic eT_nextNumber_115 ?_
        refine pt_goto eT_nextNumber_116 ?_
        refine pt_put5 eT_nextNumber_120 hT trivial ?_
        refine pt_gen ?_
        intro hp13 ev13
        have hT := pg_s ev13
        have hTb := pg_n ev13 (by omega) hTb
        refine pt_vret eT_nextNumber_123 (Nat.le_refl _) (Nat.le_refl _) ?_
        first
        | (exfalso; omega)
        | (refine ⟨rfl, rfl, ?_⟩
           rw [ev13, ev5, bx_uu]
           first | rw [if_pos (by omega)] | rw [if_neg (by omega)])
  · refine pt_aload eT_nextNumber_82 rfl ?_
    refine pt_get eT_nextNumber_83 hT rfl ?_
    refine pt_aload eT_nextNumber_86 rfl ?_
    refine pt_get eT_nextNumber_87 hT rfl ?_
    refine pt_ic eT_nextNumber_90 ?_
    refine pt_iadd eT_nextNumber_91 ?_
    refine pt_cle eT_nextNumber_92 ⟨by omega, by omega⟩ ⟨by omega, by omega⟩ (fun c92 => ?_) (fun c92 => ?_)
    · refine pt_ic eT_nextNumber_99 ?_
      refine pt_istore1 eT_nextNumber_100 rfl ?_
      refine pt_aload eT_nextNumber_101 rfl ?_
      refine pt_iload eT_nextNumber_102 rfl ?_
      refine pt_zne eT_nextNumber_103 ⟨by omega, by omega⟩ (fun c103 => ?_) (fun c103 => ?_)
      · refine pt_ic eT_nextNumber_115 ?_
        refine pt_goto eT_nextNumber_116 ?_
        refine pt_put5 eT_nextNumber_120 hT trivial ?_
        refine pt_gen ?_
        intro hp14 ev14
        have hT := pg_s ev14
        have hTb := pg_n ev14 (by omega) hTb
        refine pt_vret eT_nextNumber_123 (Nat.le_refl _) (Nat.le_refl _) ?_
        first
        | (exfalso; omega)
        | (refine ⟨rfl, rfl, ?_⟩
           rw [ev14, ev5, bx_uu]
           first | rw [if_pos (by omega)] | rw [if_neg (by omega)])
      · refine pt_aload eT_nextNumber_106 rfl ?_
        refine pt_get eT_nextNumber_107 hT rfl ?_
        refine pt_ic eT_nextNumber_110 ?_
        refine pt_cle eT_nextNumber_112 ⟨by omega, by omega⟩ ⟨by omega, by omega⟩ (fun c112 => ?_) (fun c112 => ?_)
        · refine pt_ic eT_nextNumber_119 ?_
          refine pt_put5 eT_nextNumber_120 hT trivial ?_
          refine pt_gen ?_
          intro hp15 ev15
          have hT := pg_s ev15
          have hTb := pg_n ev15 (by omega) hTb
          refine pt_vret eT_nextNumber_123 (Nat.le_refl _) (Nat.le_refl _) ?_
          first
          | (exfalso; omega)
          | (refine ⟨rfl, rfl, ?_⟩
             rw [ev15, ev5, bx_uu]
             first | rw [if_pos (by omega)] | rw [if_neg (by omega)])
        · refine pt_ic eT_nextNumber_115 ?_
          refine pt_goto eT_nextNumber_116 ?_
          refine pt_put5 eT_nextNumber_120 hT trivial ?_
          refine pt_gen ?_
          intro hp16 ev16
          have hT := pg_s ev16
          have hTb := pg_n ev16 (by omega) hTb
          refine pt_vret eT_nextNumber_123 (Nat.le_refl _) (Nat.le_refl _) ?_
          first
          | (exfalso; omega)
          | (refine ⟨rfl, rfl, ?_⟩
             rw [ev16, ev5, bx_uu]
             first | rw [if_pos (by omega)] | rw [if_neg (by omega)])
    · refine pt_ic eT_nextNumber_95 ?_
      refine pt_goto eT_nextNumber_96 ?_
      refine pt_istore1 eT_nextNumber_100 rfl ?_
      refine pt_aload eT_nextNumber_101 rfl ?_
      refine pt_iload eT_nextNumber_102 rfl ?_
      refine pt_zne eT_nextNumber_103 ⟨by omega, by omega⟩ (fun c103 => ?_) (fun c103 => ?_)
      · refine pt_ic eT_nextNumber_115 ?_
        refine pt_goto eT_nextNumber_116 ?_
        refine pt_put5 eT_nextNumber_120 hT trivial ?_
        refine pt_gen ?_
        intro hp17 ev17
        have hT := pg_s ev17
        have hTb := pg_n ev17 (by omega) hTb
        refine pt_vret eT_nextNumber_123 (Nat.le_refl _) (Nat.le_refl _) ?_
        first
        | (exfalso; omega)
        | (refine ⟨rfl, rfl, ?_⟩
           rw [ev17, ev5, bx_uu]
           first | rw [if_pos (by omega)] | rw [if_neg (by omega)])
      · refine pt_aload eT_nextNumber_106 rfl ?_
        refine pt_get eT_nextNumber_107 hT rfl ?_
        refine pt_ic eT_nextNumber_110 ?_
        refine pt_cle eT_nextNumber_112 ⟨by omega, by omega⟩ ⟨by omega, by omega⟩ (fun c112 => ?_) (fun c112 => ?_)
        · refine pt_ic eT_nextNumber_119 ?_
          refine pt_put5 eT_nextNumber_120 hT trivial ?_
          refine pt_gen ?_
          intro hp18 ev18
          have hT := pg_s ev18
          have hTb := pg_n ev18 (by omega) hTb
          refine pt_vret eT_nextNumber_123 (Nat.le_refl _) (Nat.le_refl _) ?_
          first
          | (exfalso; omega)
          | (refine ⟨rfl, rfl, ?_⟩
             rw [ev18, ev5, bx_uu]
             first | rw [if_pos (by omega)] | rw [if_neg (by omega)])
        · refine pt_ic eT_nextNumber_115 ?_
          refine pt_goto eT_nextNumber_116 ?_
          refine pt_put5 eT_nextNumber_120 hT trivial ?_
          refine pt_gen ?_
          intro hp19 ev19
          have hT := pg_s ev19
          have hTb := pg_n ev19 (by omega) hTb
          refine pt_vret eT_nextNumber_123 (Nat.le_refl _) (Nat.le_refl _) ?_
          first
          | (exfalso; omega)
          | (refine ⟨rfl, rfl, ?_⟩
             rw [ev19, ev5, bx_uu]
             first | rw [if_pos (by omega)] | rw [if_neg (by omega)])
def ctk (s : Int) : Int := if s = 4 then 0 else if s = 5 then 4 else s
def tPost (hp : pd_P) (sz : Nat) (b : Int → Int) (n a dt : Int) : pd_R := fun v' sz' hp' => v' = none ∧ sz' = sz ∧ ∃ x, hp' = va_up hp 2 (TO n (te b n a) (tkp b n a) (ctk (ts b n a)) x dt) ∧ (ts b n a = 1 ∨ ts b n a = 2 → x = tv b n a) ∧ 0 ≤ x ∧ x ≤ 999
theorem cT_next (G : pd_G) (sz : Nat) (hp : pd_P) {b tx : Int → Int} {n dt : Int} (hTb : hp 3 = ia 150 tx) (hX : okX b n) (hb : ∀ i, 0 ≤ i → i < n → tx i = b i) {a pl tok val : Int} (hT : hp 2 = TO n a pl tok val dt) (h0 : 0 ≤ a) (h1 : a ≤ n) : pd_c G mT_next 3 [vr 2] sz hp (tPost hp sz b n a dt) := by
  refine pd_con kT_next [some (vr 2)] rfl rfl (Nat.le_of_ble_eq_true rfl) ?_
  have hX0 := hX.1
  obtain ⟨p, hpp⟩ : ∃ p, ren b n 32 32 a = p := ⟨_, rfl⟩
  have hpr := ren_r (b := b) (lo := 32) (hi := 32) h1
  rw [hpp] at hpr
  have hp0 : 0 ≤ p := by omega
  refine lT_sp G sz hp (p := p) (pl := pl) (tok := tok) (val := val) hTb hX hb ?_ (n - a).toNat a hp h0 (by omega) hpp (pu_self hT)
  refine pt_gen ?_
  intro hpa eva
  have hT := pg_s eva
  have hTb := pg_n eva (by decide) hTb
  refine pt_aload eT_next_38 rfl ?_
  refine pt_aload eT_next_39 rfl ?_
  refine pt_get eT_next_40 hT rfl ?_
  refine pt_put4 eT_next_43 hT trivial ?_
  refine pt_gen ?_
  intro hp1 ev1
  have hT := pg_s ev1
  have hTb := pg_n ev1 (by omega) hTb
  refine pt_aload eT_next_46 rfl ?_
  refine pt_ic eT_next_47 ?_
  refine pt_put6 eT_next_48 hT trivial ?_
  refine pt_gen ?_
  intro hp2 ev2
  have hT := pg_s ev2
  have hTb := pg_n ev2 (by omega) hTb
  refine pt_aload eT_next_51 rfl ?_
  refine pt_get eT_next_52 hT rfl ?_
  refine pt_aload eT_next_55 rfl ?_
  refine pt_get eT_next_56 hT rfl ?_
  refine pt_clt eT_next_59 ⟨by omega, by omega⟩ ⟨by omega, by omega⟩ (fun c59 => ?_) (fun c59 => ?_)
  · have hbb := hb p (by omega) (by omega)
    have hbr := hX.2 p (by omega) (by omega)
    have hc : hr b n p = b p := by unfold hr; rw [if_pos (by omega)]
    obtain ⟨c, hcc⟩ : ∃ c, b p = c := ⟨_, rfl⟩
    rw [hcc] at hbb hbr hc
    refine pt_aload eT_next_70 rfl ?_
    refine pt_get eT_next_71 hT rfl ?_
    refine pt_aload eT_next_74 rfl ?_
    refine pt_get eT_next_75 hT rfl ?_
    refine pt_iald eT_next_78 hTb (by omega) (by omega) (by decide) ?_
    rw [hbb]
    refine pt_ks1r eT_next_79 (cT_isLetter G sz _ ⟨by omega, by omega⟩) (Nat.le_of_ble_eq_true rfl) (by decide) (Nat.le_refl _) (Nat.le_refl _) ?_
    refine pt_zeq eT_next_82 (pwi_j _ _ _) (fun c82 => ?_) (fun c82 => ?_)
    · have c82 := pwi_0 c82
      refine pt_aload eT_next_92 rfl ?_
      refine pt_get eT_next_93 hT rfl ?_
      refine pt_aload eT_next_96 rfl ?_
      refine pt_get eT_next_97 hT rfl ?_
      refine pt_iald eT_next_100 hTb (by omega) (by omega) (by decide) ?_
      rw [hbb]
      refine pt_ks1r eT_next_101 (cT_isDigit G sz _ ⟨by omega, by omega⟩) (Nat.le_of_ble_eq_true rfl) (by decide) (Nat.le_refl _) (Nat.le_refl _) ?_
      refine pt_zeq eT_next_104 (pwi_j _ _ _) (fun c104 => ?_) (fun c104 => ?_)
      · have c104 := pwi_0 c104
        have n1 : ¬ c = -9 := by omega
        have hE0 : te b n a = p + 1 := by unfold te tE tkp; rw [hpp, hc, if_neg n1, if_neg c104, if_neg c82]
        have hS0 : ts b n a = if c = 59 then 3 else 5 := by unfold ts tS tkp; rw [hpp, hc, if_neg n1, if_neg c104, if_neg c82]
        have hV0 : tv b n a = 0 := by unfold tv tV tkp; rw [hpp, hc, if_neg n1, if_neg c104, if_neg c82]
        have hP0 : tkp b n a = p := hpp
        refine pt_aload eT_next_114 rfl ?_
        refine pt_aload eT_next_115 rfl ?_
        refine pt_get eT_next_116 hT rfl ?_
        refine pt_aload eT_next_119 rfl ?_
        refine pt_get eT_next_120 hT rfl ?_
        refine pt_iald eT_next_123 hTb (by omega) (by omega) (by decide) ?_
        rw [hbb]
        refine pt_ic eT_next_124 ?_
        refine pt_cne eT_next_126 ⟨by omega, by omega⟩ ⟨by omega, by omega⟩ (fun c126 => ?_) (fun c126 => ?_)
        · refine pt_ic eT_next_133 ?_
          refine pt_put5 eT_next_134 hT trivial ?_
          refine pt_gen ?_
          intro hp11 ev11
          have hT := pg_s ev11
          have hTb := pg_n ev11 (by omega) hTb
          refine pt_aload eT_next_137 rfl ?_
          refine pt_dupr eT_next_138 ?_
          refine pt_get eT_next_139 hT rfl ?_
          refine pt_ic eT_next_142 ?_
          refine pt_iadd eT_next_143 ?_
          refine pt_put3 eT_next_144 hT trivial ?_
          refine pt_gen ?_
          intro hp12 ev12
          have hT := pg_s ev12
          have hTb := pg_n ev12 (by omega) hTb
          refine pt_vret eT_next_147 (Nat.le_refl _) (Nat.le_refl _) ?_
          refine ⟨rfl, rfl, 0, ?_, fun _ => hV0.symm, by decide, by decide⟩
          first
          | rw [if_pos c126] at hS0
          | rw [if_neg c126] at hS0
          rw [hE0, hP0, hS0, ev12, ev11, ev2, ev1, eva, bx_uu, bx_uu, bx_uu, bx_uu]
          rfl
        · refine pt_ic eT_next_129 ?_
          refine pt_goto eT_next_130 ?_
          refine pt_put5 eT_next_134 hT trivial ?_
          refine pt_gen ?_
          intro hp13 ev13
          have hT := pg_s ev13
          have hTb := pg_n ev13 (by omega) hTb
          refine pt_aload eT_next_137 rfl ?_
          refine pt_dupr eT_next_138 ?_
          refine pt_get eT_next_139 hT rfl ?_
          refine pt_ic eT_next_142 ?_
          refine pt_iadd eT_next_143 ?_
          refine pt_put3 eT_next_144 hT trivial ?_
          refine pt_gen ?_
          intro hp14 ev14
          have hT := pg_s ev14
          have hTb := pg_n ev14 (by omega) hTb
          refine pt_vret eT_next_147 (Nat.le_refl _) (Nat.le_refl _) ?_
          refine ⟨rfl, rfl, 0, ?_, fun _ => hV0.symm, by decide, by decide⟩
          first
          | rw [if_pos c126] at hS0
          | rw [if_neg c126] at hS0
          rw [hE0, hP0, hS0, ev14, ev13, ev2, ev1, eva, bx_uu, bx_uu, bx_uu, bx_uu]
          rfl
      · have c104 := pwi_1 c104
        have n1 : ¬ c = -9 := by omega
        have her := ren_r (b := b) (lo := 48) (hi := 57) (show p ≤ n by omega)
        have hin := ren_in (b := b) (lo := 48) (hi := 57) (show p ≤ n by omega)
        have hxr := rvl_c (b := b) (n := n) her.1 hin
        have hE0 : te b n a = ren b n 48 57 p := by unfold te tE tkp; rw [hpp, hc, if_neg n1, if_pos c104]
        have hS0 : ts b n a = if 99 < rvl b p (ren b n 48 57 p - p).toNat ∨ (c = 48 ∧ 1 < ren b n 48 57 p - p) then 5 else 2 := by unfold ts tS tkp; rw [hpp, hc, if_neg n1, if_pos c104]
        have hV0 : tv b n a = rvl b p (ren b n 48 57 p - p).toNat := by unfold tv tV tkp; rw [hpp, hc, if_neg n1, if_pos c104]
        have hP0 : tkp b n a = p := hpp
        refine pt_aload eT_next_107 rfl ?_
        refine pt_kv0 eT_next_108 (cT_nextNumber G sz _ hTb hX hb hT hp0 (by omega)) hT rfl (Nat.le_of_ble_eq_true rfl) (by decide) (Nat.le_refl _) (Nat.le_refl _) ?_
        rintro v2 sz2 hpx ⟨rfl, hz9, hx9⟩
        obtain rfl := hz9.symm
        refine pt_goto eT_next_111 ?_
        refine pt_vret eT_next_147 (Nat.le_refl _) (Nat.le_refl _) ?_
        rw [hcc] at hx9
        refine ⟨rfl, rfl, min 100 (rvl b p (ren b n 48 57 p - p).toNat), ?_, fun hk => ?_, by omega, by omega⟩
        · have hct : ctk (ts b n a) = if 99 < rvl b p (ren b n 48 57 p - p).toNat ∨ (c = 48 ∧ 1 < ren b n 48 57 p - p) then 4 else 2 := by
            rw [hS0]
            by_cases hq : 99 < rvl b p (ren b n 48 57 p - p).toNat ∨ (c = 48 ∧ 1 < ren b n 48 57 p - p)
            · rw [if_pos hq, if_pos hq]; rfl
            · rw [if_neg hq, if_neg hq]; rfl
          rw [hE0, hP0, hct, hx9, ev2, ev1, eva, bx_uu, bx_uu, bx_uu]
        · rw [hV0]
          rw [hS0] at hk
          split at hk
          · omega
          · omega
    · have c82 := pwi_1 c82
      have n1 : ¬ c = -9 := by omega
      have n2 : ¬ isD c := by omega
      have hE0 : te b n a = ren b n 97 122 p := by unfold te tE tkp; rw [hpp, hc, if_neg n1, if_neg n2, if_pos c82]
      have hS0 : ts b n a = 1 := by unfold ts tS tkp; rw [hpp, hc, if_neg n1, if_neg n2, if_pos c82]
      have hV0 : tv b n a = if ren b n 97 122 p - p = 1 then c else 0 := by unfold tv tV tkp; rw [hpp, hc, if_neg n1, if_neg n2, if_pos c82]
      have hP0 : tkp b n a = p := hpp
      refine pt_aload eT_next_85 rfl ?_
      refine pt_kv0 eT_next_86 (cT_nextLetters G sz _ hTb hX hb hT hp0 (by omega)) hT rfl (Nat.le_of_ble_eq_true rfl) (by decide) (Nat.le_refl _) (Nat.le_refl _) ?_
      rintro v2 sz2 hpx ⟨rfl, hz9, hx9⟩
      obtain rfl := hz9.symm
      refine pt_goto eT_next_89 ?_
      refine pt_vret eT_next_147 (Nat.le_refl _) (Nat.le_refl _) ?_
      rw [hcc] at hx9
      refine ⟨rfl, rfl, _, ?_, fun _ => hV0.symm, ?_, ?_⟩
      · rw [hE0, hP0, hS0, hx9, ev2, ev1, eva, bx_uu, bx_uu, bx_uu]
        rfl
      · split <;> omega
      · split <;> omega
  · have hc : hr b n p = -9 := by unfold hr; rw [if_neg (by omega)]
    have hE0 : te b n a = p := by unfold te tE tkp; rw [hpp, hc, if_pos rfl]
    have hS0 : ts b n a = 4 := by unfold ts tS tkp; rw [hpp, hc, if_pos rfl]
    have hV0 : tv b n a = 0 := by unfold tv tV tkp; rw [hpp, hc, if_pos rfl]
    have hP0 : tkp b n a = p := hpp
    refine pt_aload eT_next_62 rfl ?_
    refine pt_ic eT_next_63 ?_
    refine pt_put5 eT_next_64 hT trivial ?_
    refine pt_gen ?_
    intro hp11 ev11
    have hT := pg_s ev11
    have hTb := pg_n ev11 (by omega) hTb
    refine pt_goto eT_next_67 ?_
    refine pt_vret eT_next_147 (Nat.le_refl _) (Nat.le_refl _) ?_
    refine ⟨rfl, rfl, 0, ?_, fun _ => hV0.symm, by decide, by decide⟩
    rw [hE0, hP0, hS0, ev11, ev2, ev1, eva, bx_uu, bx_uu, bx_uu]
    rfl
