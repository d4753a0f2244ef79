/-! the Life: back, copy, begin -/
theorem StA.eq {hp hp1 : pd_P} {a : Nat} {σ : Int → Int} (h : StA hp a σ) (e0 : hp1 a = hp a) (e1 : hp1 (a + 1) = hp (a + 1)) (e2 : hp1 (a + 2) = hp (a + 2)) (e3 : hp1 (a + 3) = hp (a + 3)) : StA hp1 a σ := ⟨e0.trans h.1, e1.trans h.2.1, e2.trans h.2.2.1, e3.trans h.2.2.2⟩
/-- the head of a Life is written: known -/
theorem LiA.head {hp hp1 : pd_P} {a : Nat} {ρ : Int → Int} {k k1 : Int} {Q : Int → Int → Int} (h : LiA hp a ρ k Q) (he : hp1 = va_up hp a (LO a k1)) : LiA hp1 a ρ k1 Q := by
  have e1 : ∀ j, j ≠ a → hp1 j = hp j := fun j hj => by rw [he, va_up_ne _ _ hj]
  obtain ⟨h1, h2, pf, π, h3, h4, h5, h6⟩ := h
  exact ⟨by rw [he]; exact va_up_self _ _ _, h2.eq (e1 _ (by omega)) (e1 _ (by omega)) (e1 _ (by omega)) (e1 _ (by omega)), pf, π, (e1 _ (by omega)).trans h3, h4, h5, fun i hi0 hi1 => (h6 i hi0 hi1).eq (e1 _ (by omega)) (e1 _ (by omega)) (e1 _ (by omega)) (e1 _ (by omega))⟩
/-- its State is written -/
theorem LiA.now {hp hp1 : pd_P} {a : Nat} {ρ τ : Int → Int} {k : Int} {Q : Int → Int → Int} (h : LiA hp a ρ k Q) (hf : _root_.Jvm.Pilot.@@N@@.fr hp hp1 (a + 1) (a + 5)) (hs : StA hp1 (a + 1) τ) : LiA hp1 a τ k Q := by
  obtain ⟨h1, h2, pf, π, h3, h4, h5, h6⟩ := h
  exact ⟨hf.at (by omega) h1, hs, pf, π, hf.at (by omega) h3, h4, h5, fun i hi0 hi1 => (h6 i hi0 hi1).fr hf (by omega)⟩
/-- the j-th older state is written -/
theorem LiA.old {hp hp1 : pd_P} {a : Nat} {ρ τ : Int → Int} {k j : Int} {Q : Int → Int → Int} {pf : Int → Option Nat} {π : Int → Nat} (h : hp a = LO a k ∧ StA hp (a + 1) ρ ∧ hp (a + 5) = ra 4 10 pf ∧ (∀ i, 0 ≤ i → i < 10 → pf i = some (a + 6 + 4 * π i) ∧ π i < 10) ∧ (∀ i j, 0 ≤ i → i < 10 → 0 ≤ j → j < 10 → π i = π j → i = j) ∧ ∀ i, 0 ≤ i → i < 10 → StA hp (a + 6 + 4 * π i) (Q i)) (hj0 : 0 ≤ j) (hj1 : j < 10) (hf : _root_.Jvm.Pilot.@@N@@.fr hp hp1 (a + 6 + 4 * π j) (a + 6 + 4 * π j + 4)) (hs : StA hp1 (a + 6 + 4 * π j) τ) : LiA hp1 a ρ k (uI Q j τ) := by
  obtain ⟨h1, h2, h3, h4, h5, h6⟩ := h
  have hj := (h4 j hj0 hj1).2
  refine ⟨hf.at (by omega) h1, h2.fr hf (by omega), pf, π, hf.at (by omega) h3, h4, h5, fun i hi0 hi1 => ?_⟩
  by_cases hij : i = j
  · subst hij; rw [uI_s]; exact hs
  · rw [uI_n _ _ hij]
    have hne : π i ≠ π j := fun q => hij (h5 i j hi0 hi1 hj0 hj1 q)
    have hpi := (h4 i hi0 hi1).2
    exact (h6 i hi0 hi1).fr hf (by omega)
theorem cL_recall (G : pd_G) (sz : Nat) (hp : pd_P) {a : Nat} {ρ : Int → Int} {k : Int} {Q : Int → Int → Int} (hA : LiA hp a ρ k Q) (hk : 0 < k) (hkk : k ≤ 10) (hh : Q (k - 1) 1 = 0 ∨ Q (k - 1) 1 = 1) : pd_c G mL_recall 2 [vr a] sz hp (fun v sz' hp' => v = none ∧ sz' = sz ∧ LiA hp' a (Q (k - 1)) (k - 1) Q ∧ fr hp hp' a (a + 46)) := by
  refine pd_con kL_recall [some (vr a)] rfl rfl (Nat.le_of_ble_eq_true rfl) ?_
  have hL := hA.1
  refine pt_aload eL_recall_0 rfl ?_
  refine pt_get eL_recall_1 hL rfl ?_
  refine pt_zle eL_recall_4 ⟨by omega, by omega⟩ (fun c4 => ?_) (fun c4 => ?_)
  · exfalso; omega
  · refine pt_aload eL_recall_7 rfl ?_
    refine pt_dupr eL_recall_8 ?_
    refine pt_get eL_recall_9 hL rfl ?_
    refine pt_ic eL_recall_12 ?_
    refine pt_isub eL_recall_13 ?_
    refine pt_put2 eL_recall_14 hL trivial ?_
    refine pt_gen ?_
    intro hp1 ev1
    have hL := pg_s ev1
    have hA1 := hA.head ev1
    have hA2 := hA1
    obtain ⟨hL, hN, pf, π, hLp, h4, h5, h6⟩ := hA1
    have hpk := (h4 (k - 1) (by omega) (by omega)).2
    refine pt_aload eL_recall_17 rfl ?_
    refine pt_get eL_recall_18 hL rfl ?_
    refine pt_aload eL_recall_21 rfl ?_
    refine pt_get eL_recall_22 hL rfl ?_
    refine pt_aload eL_recall_25 rfl ?_
    refine pt_get eL_recall_26 hL rfl ?_
    refine pt_aald eL_recall_29 hLp rfl (by omega) (by omega) (by decide) (h4 (k - 1) (by omega) (by omega)).1 ?_
    refine pt_kv1 eL_recall_30 (cS_copy G sz _ hN (h6 (k - 1) (by omega) (by omega)) (by omega) hh) hN.1 rfl (Nat.le_of_ble_eq_true rfl) (by decide) (Nat.le_refl _) (Nat.le_refl _) ?_
    rintro v2 sz2 hpx ⟨rfl, hz9, hs2, hf2⟩
    obtain rfl := hz9.symm
    refine pt_vret eL_recall_33 (Nat.le_refl _) (Nat.le_refl _) ?_
    exact ⟨rfl, rfl, hA2.now hf2 hs2, (fr.rf.up ev1 (by omega) (by omega)).tr hf2 (by omega) (by omega)⟩
theorem cL_begin (G : pd_G) (sz : Nat) (hp : pd_P) {a h : Nat} {gd ev bk k : Int} {fi ρ : Int → Int} {Q : Int → Int → Int} (hah : h + 8 ≤ a ∨ a + 46 ≤ h) (hA : LiA hp a ρ k Q) (hH : hp h = HO h gd ev bk) (hH1 : hp (h + 1) = ia 4 fi) (hg0 : 0 ≤ gd) (hg4 : gd ≤ 4) : pd_c G mL_begin 3 [vr a, vr h] sz hp (fun v sz' hp' => v = none ∧ sz' = sz ∧ LiA hp' a (beg fi gd) 0 Q ∧ fr hp hp' a (a + 46)) := by
  refine pd_con kL_begin [some (vr a), some (vr h)] rfl rfl (Nat.le_of_ble_eq_true rfl) ?_
  have hL := hA.1
  refine pt_aload eL_begin_0 rfl ?_
  refine pt_get eL_begin_1 hL rfl ?_
  refine pt_aload eL_begin_4 rfl ?_
  refine pt_kv1 eL_begin_5 (cS_begin G sz _ (by omega) hA.2.1 hH hH1 hg0 hg4) hA.2.1.1 rfl (Nat.le_of_ble_eq_true rfl) (by decide) (Nat.le_refl _) (Nat.le_refl _) ?_
  rintro v2 sz2 hpx ⟨rfl, hz9, hs2, hf2⟩
  obtain rfl := hz9.symm
  have hA2 := hA.now hf2 hs2
  have hL := hA2.1
  refine pt_aload eL_begin_8 rfl ?_
  refine pt_ic eL_begin_9 ?_
  refine pt_put2 eL_begin_10 hL trivial ?_
  refine pt_gen ?_
  intro hp1 ev1
  have hL := pg_s ev1
  refine pt_vret eL_begin_13 (Nat.le_refl _) (Nat.le_refl _) ?_
  exact ⟨rfl, rfl, hA2.head ev1, (fr.tr (fr.rf (lo := a) (hi := a + 46)) hf2 (by omega) (by omega)).up ev1 (by omega) (by omega)⟩
theorem lL_copy (G : pd_G) (sz : Nat) {hp : pd_P} {a b : Nat} {kb : Int} {ρb : Int → Int} {Qa Qb : Int → Int → Int} (hab : a + 46 ≤ b ∨ b + 46 ≤ a) (hk0 : 0 ≤ kb) (hk1 : kb ≤ 10) (hh : ∀ j, 0 ≤ j → j < kb → Qb j 1 = 0 ∨ Qb j 1 = 1) {R : pd_R} (hx : ∀  (hp0 : pd_P), LiA hp0 a ρb kb (fun j => if 0 ≤ j ∧ j < kb then Qb j else Qa j) ∧ LiA hp0 b ρb kb Qb ∧ fr hp hp0 a (a + 46) → pd_t G mL_copy 2 R 50 [some (vr a), some (vr b), some (vi (kb))] [] sz hp0) : ∀ (n : Nat) (i : Int)  (hp0 : pd_P), 0 ≤ i → i + n = kb → LiA hp0 a ρb kb (fun j => if 0 ≤ j ∧ j < i then Qb j else Qa j) ∧ LiA hp0 b ρb kb Qb ∧ fr hp hp0 a (a + 46) → pd_t G mL_copy 2 R 21 [some (vr a), some (vr b), some (vi (i))] [] sz hp0 := by
  intro n
  induction n with
  | zero =>
    intro i  hp0 hi0 hiE hI
    have hiE2 : kb = i := by omega
    subst hiE2
    have hx2 := hx  hp0 hI
    obtain ⟨hA1, hB1, hf0⟩ := hI
    have hB2 := hB1
    obtain ⟨hL, hN, pf, π, hLp, h4, h5, h6⟩ := hA1
    obtain ⟨hB, hBN, pb, πb, hBp, g4, g5, g6⟩ := hB1
    refine pt_iload eL_copy_21 rfl ?_
    refine pt_aload eL_copy_22 rfl ?_
    refine pt_get eL_copy_23 hL rfl ?_
    refine pt_cge eL_copy_26 ⟨by omega, by omega⟩ ⟨by omega, by omega⟩ (fun c26 => ?_) (fun c26 => ?_)
    · exact hx2
    · exfalso; omega
  | succ n ih =>
    intro i  hp0 hi0 hiE hI
    obtain ⟨hA1, hB1, hf0⟩ := hI
    have hB2 := hB1
    obtain ⟨hL, hN, pf, π, hLp, h4, h5, h6⟩ := hA1
    obtain ⟨hB, hBN, pb, πb, hBp, g4, g5, g6⟩ := hB1
    refine pt_iload eL_copy_21 rfl ?_
    refine pt_aload eL_copy_22 rfl ?_
    refine pt_get eL_copy_23 hL rfl ?_
    refine pt_cge eL_copy_26 ⟨by omega, by omega⟩ ⟨by omega, by omega⟩ (fun c26 => ?_) (fun c26 => ?_)
    · exfalso; omega
    · have hpi := (h4 i (by omega) (by omega)).2
      have hpb := (g4 i (by omega) (by omega)).2
      refine pt_aload eL_copy_29 rfl ?_
      refine pt_get eL_copy_30 hL rfl ?_
      refine pt_iload eL_copy_33 rfl ?_
      refine pt_aald eL_copy_34 hLp rfl (by omega) (by omega) (by decide) (h4 i (by omega) (by omega)).1 ?_
      refine pt_aload eL_copy_35 rfl ?_
      refine pt_get eL_copy_36 hB rfl ?_
      refine pt_iload eL_copy_39 rfl ?_
      refine pt_aald eL_copy_40 hBp rfl (by omega) (by omega) (by decide) (g4 i (by omega) (by omega)).1 ?_
      refine pt_kv1 eL_copy_41 (cS_copy G sz _ (h6 i (by omega) (by omega)) (g6 i (by omega) (by omega)) (by omega) (hh i (by omega) (by omega))) (h6 i (by omega) (by omega)).1 rfl (Nat.le_of_ble_eq_true rfl) (by decide) (Nat.le_refl _) (Nat.le_refl _) ?_
      rintro v2 sz2 hpx ⟨rfl, hz9, hs2, hf2⟩
      obtain rfl := hz9.symm
      refine pt_inc2 eL_copy_44 rfl ?_
      refine pt_goto eL_copy_47 ?_
      refine ih (i + 1)  _ (by omega) (by omega) ?_
      have hA9 := LiA.old ⟨hL, hN, hLp, h4, h5, h6⟩ (by omega) (by omega) hf2 hs2
      have hqe : uI (fun j => if 0 ≤ j ∧ j < i then Qb j else Qa j) i (Qb i) = fun j => if 0 ≤ j ∧ j < i + 1 then Qb j else Qa j := by
        funext j
        unfold uI
        dsimp only
        by_cases hj : j = i
        · subst hj; rw [if_pos rfl, if_pos (by omega)]
        · rw [if_neg hj]
          by_cases hj2 : 0 ≤ j ∧ j < i
          · rw [if_pos hj2, if_pos (by omega)]
          · rw [if_neg hj2, if_neg (by omega)]
      rw [hqe] at hA9
      exact ⟨hA9, hB2.fr hf2 (by omega), hf0.tr hf2 (by omega) (by omega)⟩
theorem cL_copy (G : pd_G) (sz : Nat) (hp : pd_P) {a b : Nat} {ka kb : Int} {ρa ρb : Int → Int} {Qa Qb : Int → Int → Int} (hab : a + 46 ≤ b ∨ b + 46 ≤ a) (hA : LiA hp a ρa ka Qa) (hB : LiA hp b ρb kb Qb) (hk0 : 0 ≤ kb) (hk1 : kb ≤ 10) (hh0 : ρb 1 = 0 ∨ ρb 1 = 1) (hh : ∀ j, 0 ≤ j → j < kb → Qb j 1 = 0 ∨ Qb j 1 = 1) : pd_c G mL_copy 2 [vr a, vr b] sz hp (fun v sz' hp' => v = none ∧ sz' = sz ∧ LiA hp' a ρb kb (fun j => if 0 ≤ j ∧ j < kb then Qb j else Qa j) ∧ fr hp hp' a (a + 46)) := by
  refine pd_con kL_copy [some (vr a), some (vr b), none] rfl rfl (Nat.le_of_ble_eq_true rfl) ?_
  have hL := hA.1
  have hB0 := hB.1
  refine pt_aload eL_copy_0 rfl ?_
  refine pt_get eL_copy_1 hL rfl ?_
  refine pt_aload eL_copy_4 rfl ?_
  refine pt_get eL_copy_5 hB0 rfl ?_
  refine pt_kv1 eL_copy_8 (cS_copy G sz _ hA.2.1 hB.2.1 (by omega) hh0) hA.2.1.1 rfl (Nat.le_of_ble_eq_true rfl) (by decide) (Nat.le_refl _) (Nat.le_refl _) ?_
  rintro v2 sz2 hpx ⟨rfl, hz9, hs2, hf2⟩
  obtain rfl := hz9.symm
  have hA2 := hA.now hf2 hs2
  have hB2 := hB.fr hf2 (by omega)
  have hL := hA2.1
  have hB0 := hB2.1
  refine pt_aload eL_copy_11 rfl ?_
  refine pt_aload eL_copy_12 rfl ?_
  refine pt_get eL_copy_13 hB0 rfl ?_
  refine pt_put2 eL_copy_16 hL trivial ?_
  refine pt_gen ?_
  intro hp1 ev1
  have hL := pg_s ev1
  have hB0 := pg_n ev1 (by omega) hB0
  refine pt_ic eL_copy_19 ?_
  refine pt_istore2 eL_copy_20 rfl ?_
  have hA3 := hA2.head ev1
  have hf1 : fr hpx hp1 a (a + 1) := fr.rf.up ev1 (by omega) (by omega)
  have hB3 := hB2.fr hf1 (by omega)
  refine lL_copy G sz (hp := hp) (Qa := Qa) hab hk0 hk1 hh (fun hp0 hI => ?_) kb.toNat 0 hp1 (by omega) (by omega) ⟨?_, hB3, (fr.tr (fr.rf (lo := a) (hi := a + 46)) hf2 (by omega) (by omega)).tr hf1 (by omega) (by omega)⟩
  · refine pt_vret eL_copy_50 (Nat.le_refl _) (Nat.le_refl _) ?_
    exact ⟨rfl, rfl, hI.1, hI.2.2⟩
  · have hqe : (fun j => if 0 ≤ j ∧ j < 0 then Qb j else Qa j) = Qa := by funext j; rw [if_neg (by omega)]
    rw [hqe]
    exact hA3
