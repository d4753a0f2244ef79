/-! the class's fed -/
def fRs (N : NX) (gd : Int) (m : Nat) (s : Int → Int) (r : Int) (cf : Int → Int) : Prop := (r = -9 ∧ ∀ t, 0 ≤ t → t ≤ (m : Int) → lfc N gd m 0 s t = 5 ^ m) ∨ (0 ≤ r ∧ r ≤ (m : Int) ∧ lfc N gd m 0 s r < 5 ^ m ∧ (∀ t, 0 ≤ t → t < r → lfc N gd m 0 s t = 5 ^ m) ∧ ∀ j : Nat, j < m → cf (j : Int) = fdg (lfc N gd m 0 s r) (m - 1 - j))
theorem fRs_fo {N : NX} {gd : Int} {m : Nat} {s cf : Int → Int} {r : Int} (h : fRs N gd m s r cf) : (fo N gd m s (5 ^ m)).1 = r ∧ (r ≠ -9 → ∀ j : Nat, j < m → cf (j : Int) = fdg (fo N gd m s (5 ^ m)).2.toNat (m - 1 - j)) := by
  rcases fo_sp (N := N) (gd := gd) (m := m) (s := s) (5 ^ m) with ⟨h1, h2⟩ | ⟨X, h1, h2, h3, h4, h5⟩
  · rw [h1]
    rcases h with ⟨g1, g2⟩ | ⟨g1, g2, g3, g4, g5⟩
    · exact ⟨g1.symm, fun h => absurd g1 h⟩
    · have := lfc_none (N := N) (gd := gd) (s := s) (t := r) (fun x hx => Or.inl (h2 x hx))
      omega
  · rw [h1]
    have hb := fv_b (N := N) (gd := gd) m 0 s X
    have hf := lfc_fo (N := N) (gd := gd) (s := s) h2 h3 h5
    rcases h with ⟨g1, g2⟩ | ⟨g1, g2, g3, g4, g5⟩
    · have := g2 (fv N gd m 0 s X) (by omega) (by omega)
      omega
    · rcases (show fv N gd m 0 s X < r ∨ r < fv N gd m 0 s X ∨ fv N gd m 0 s X = r by omega) with c | c | c
      · have := g4 _ (by omega) c
        omega
      · have := lfc_none (N := N) (gd := gd) (s := s) (t := r) (fun x hx => by have := h4 x hx; omega)
        omega
      · refine ⟨c, fun _ j hj => ?_⟩
        rw [g5 j hj, ← c, hf]
        rfl
theorem lP_rk1 (G : pd_G) (sz : Nat) (hp : pd_P) {to : Nat} {gd ev bk n0 : Int} {br ms us uq σ cf : Int → Int} {L : Nat} (hto : 63 ≤ to) (hP : hp 58 = PO (L : Int) gd) (hCh : hp 59 = ia 6 cf) (hH : hp to = HO to gd ev bk) (hH5 : hp (to + 5) = ia 80 br) (hH6 : hp (to + 6) = ia 80 ms) (hH2 : hp (to + 2) = ia 4 us) (hN : hp (5 + 1) = SO (5 + 1) (σ 0) (σ 1)) (hNt : hp (5 + 1 + 1) = ia 4 (fun g => σ (2 + g))) (hNk : hp (5 + 1 + 3) = ia 80 (fun k => σ (10 + k))) (ig0 : 0 ≤ gd) (ig4 : gd ≤ 4) (id0 : 1 ≤ ev) (id1 : ev ≤ 9) (id2 : 1 ≤ bk) (id3 : bk ≤ 9) (iB : okB br) (iM : okB ms) (iU : okU gd uq) (hs : okS ms σ) (hug : ∀ g, 0 ≤ g → g < gd → us g = uq g) (hL : L ≤ 6) (hLd : σ 0 + L ≤ 20) {R : pd_R} (hx : ∀  (hp0 : pd_P), (∃ th wf nf : Int → Int, hp0 60 = ia 128 th ∧ hp0 61 = ia 512 wf ∧ hp0 62 = ia 4 nf ∧ fr hp hp0 60 63 ∧ (∀ g, 0 ≤ g → g < gd → nf g = 1) ∧ (∀ (g : Int) (l x : Nat), 0 ≤ g → g < gd → l ≤ L → 2 ^ l ≤ x → x < 2 ^ (l + 1) → wf (128 * g + (x : Int)) = wn (nxf uq br ms σ ev bk) g (L - l) l (tn (nxf uq br ms σ ev bk) g (σ (2 + g)) l x))) → pd_t G mP_reckon 8 R 72 [some (vr 58), some (vr to), some (vr (5 + 1)), some (vi n0), some (vi (gd))] [] sz hp0) : ∀ (n : Nat) (i : Int)  (hp0 : pd_P), 0 ≤ i → i + n = gd → (∃ th wf nf : Int → Int, hp0 60 = ia 128 th ∧ hp0 61 = ia 512 wf ∧ hp0 62 = ia 4 nf ∧ fr hp hp0 60 63 ∧ (∀ g, 0 ≤ g → g < i → nf g = 1) ∧ (∀ (g : Int) (l x : Nat), 0 ≤ g → g < i → l ≤ L → 2 ^ l ≤ x → x < 2 ^ (l + 1) → wf (128 * g + (x : Int)) = wn (nxf uq br ms σ ev bk) g (L - l) l (tn (nxf uq br ms σ ev bk) g (σ (2 + g)) l x))) → pd_t G mP_reckon 8 R 35 [some (vr 58), some (vr to), some (vr (5 + 1)), some (vi n0), some (vi (i))] [] sz hp0 := by
  intro n
  induction n with
  | zero =>
    intro i  hp0 hi0 hiE hI
    have hiE2 : gd = i := by omega
    subst hiE2
    have hx2 := hx  hp0 hI
    obtain ⟨th, wf, nf, hTh, hWa, hNo, hfr, hn1, hw1⟩ := hI
    have hP := hfr.at (by omega) hP
    have hCh := hfr.at (by omega) hCh
    have hH := hfr.at (by omega) hH
    have hH5 := hfr.at (by omega) hH5
    have hH6 := hfr.at (by omega) hH6
    have hH2 := hfr.at (by omega) hH2
    have hN := hfr.at (by omega) hN
    have hNt := hfr.at (by omega) hNt
    have hNk := hfr.at (by omega) hNk
    refine pt_iload eP_reckon_35 rfl ?_
    refine pt_aload eP_reckon_37 rfl ?_
    refine pt_get eP_reckon_38 hP rfl ?_
    refine pt_cge eP_reckon_41 ⟨by omega, by omega⟩ ⟨by omega, by omega⟩ (fun c41 => ?_) (fun c41 => ?_)
    · exact hx2
    · exfalso; omega
  | succ n ih =>
    intro i  hp0 hi0 hiE hI
    obtain ⟨th, wf, nf, hTh, hWa, hNo, hfr, hn1, hw1⟩ := hI
    have hP := hfr.at (by omega) hP
    have hCh := hfr.at (by omega) hCh
    have hH := hfr.at (by omega) hH
    have hH5 := hfr.at (by omega) hH5
    have hH6 := hfr.at (by omega) hH6
    have hH2 := hfr.at (by omega) hH2
    have hN := hfr.at (by omega) hN
    have hNt := hfr.at (by omega) hNt
    have hNk := hfr.at (by omega) hNk
    refine pt_iload eP_reckon_35 rfl ?_
    refine pt_aload eP_reckon_37 rfl ?_
    refine pt_get eP_reckon_38 hP rfl ?_
    refine pt_cge eP_reckon_41 ⟨by omega, by omega⟩ ⟨by omega, by omega⟩ (fun c41 => ?_) (fun c41 => ?_)
    · exfalso; omega
    · refine pt_aload eP_reckon_44 rfl ?_
      refine pt_get eP_reckon_45 hP rfl ?_
      refine pt_iload eP_reckon_48 rfl ?_
      refine pt_ic eP_reckon_50 ?_
      refine pt_iast eP_reckon_51 hNo (by omega) (by omega) (by decide) ?_
      refine pt_gen ?_
      intro hp1 ev1
      have hP := pg_n ev1 (by omega) hP
      have hCh := pg_n ev1 (by omega) hCh
      have hTh := pg_n ev1 (by omega) hTh
      have hWa := pg_n ev1 (by omega) hWa
      have hNo := pg_s ev1
      have hH := pg_n ev1 (by omega) hH
      have hH2 := pg_n ev1 (by omega) hH2
      have hH5 := pg_n ev1 (by omega) hH5
      have hH6 := pg_n ev1 (by omega) hH6
      have hN := pg_n ev1 (by omega) hN
      have hNt := pg_n ev1 (by omega) hNt
      have hNk := pg_n ev1 (by omega) hNk
      refine pt_aload eP_reckon_52 rfl ?_
      refine pt_aload eP_reckon_53 rfl ?_
      refine pt_aload eP_reckon_54 rfl ?_
      refine pt_iload eP_reckon_55 rfl ?_
      refine pt_kv3 eP_reckon_57 (cP_growTree G sz _ hto hP hH hH5 hH6 hH2 hN hNt hNk ig4 id0 id1 id2 id3 iB iM iU hs hL hLd hi0 (by omega) (hug i hi0 (by omega)) hTh) hP rfl (Nat.le_of_ble_eq_true rfl) (by decide) (Nat.le_refl _) (Nat.le_refl _) ?_
      rintro v2 sz2 hpx ⟨rfl, hz9, f9, hx9, hr9⟩
      obtain rfl := hz9.symm
      have hP := pg_n hx9 (by omega) hP
      have hCh := pg_n hx9 (by omega) hCh
      have hH := pg_n hx9 (by omega) hH
      have hH5 := pg_n hx9 (by omega) hH5
      have hH6 := pg_n hx9 (by omega) hH6
      have hH2 := pg_n hx9 (by omega) hH2
      have hN := pg_n hx9 (by omega) hN
      have hNt := pg_n hx9 (by omega) hNt
      have hNk := pg_n hx9 (by omega) hNk
      have hWa := pg_n hx9 (by omega) hWa
      have hNo := pg_n hx9 (by omega) hNo
      have hTh := pg_s hx9
      refine pt_aload eP_reckon_60 rfl ?_
      refine pt_iload eP_reckon_61 rfl ?_
      refine pt_kv1 eP_reckon_63 (cP_reckonWanted G sz _ hP hTh ig4 iB iM iU hs hL hLd hi0 (by omega) hr9 hWa) hP rfl (Nat.le_of_ble_eq_true rfl) (by decide) (Nat.le_refl _) (Nat.le_refl _) ?_
      rintro v2 sz2 hpy ⟨rfl, hz8, w9, hy9, ha9, hb9, hc9⟩
      obtain rfl := hz8.symm
      have hTh := pg_n hy9 (by omega) hTh
      have hWa := pg_s hy9
      have hNo := pg_n hy9 (by omega) hNo
      refine pt_inc4 eP_reckon_66 rfl ?_
      refine pt_goto eP_reckon_69 ?_
      refine ih (i + 1) hpy (by omega) (by omega) ⟨f9, w9, _, hTh, hWa, hNo, ((hfr.up ev1 (by decide) (by decide)).up hx9 (by decide) (by decide)).up hy9 (by decide) (by decide), fun g k0 k1 => ?_, fun g l x k0 k1 k2 k3 k4 => ?_⟩
      · by_cases hgi : g = i
        · rw [hgi, uI_s]
        · rw [uI_n _ _ hgi]
          exact hn1 g k0 (by omega)
      · have hp7 := p2_le (show l + 1 ≤ 7 by omega)
        have hpp : 0 < 2 ^ l := Nat.pow_pos (by decide)
        by_cases hgi : g = i
        · rw [hgi]
          exact hc9 l x k2 k3 k4 (by omega)
        · rw [ha9 g x hgi (by omega) (by omega)]
          exact hw1 g l x k0 (by omega) k2 k3 k4
theorem lP_rk2_0 (G : pd_G) (sz : Nat) (hp : pd_P) {to : Nat} {gd n0 : Int} {N : NX} {T wf nf : Int → Int} (hP : hp 58 = PO ((0 : Nat) : Int) gd) (hWa : hp 61 = ia 512 wf) (hNo : hp 62 = ia 4 nf) (ig0 : 0 ≤ gd) (ig4 : gd ≤ 4) (hwf : ∀ (g : Int) (l x : Nat), 0 ≤ g → g < gd → l ≤ 0 → 2 ^ l ≤ x → x < 2 ^ (l + 1) → wf (128 * g + (x : Int)) = wn N g (0 - l) l (tn N g (T g) l x)) (hnf : ∀ g, 0 ≤ g → g < gd → nf g = 1) {R : pd_R} (hx : ∀ (r : Int) (cf : Int → Int), fRs N gd 0 T r cf → R (some (vi r)) sz (va_up hp 59 (ia 6 cf))) : ∀ (n : Nat) (t : Int) (cf : Int → Int) (hp0 : pd_P), t + n = 1 → 0 ≤ t → hp0 = va_up hp 59 (ia 6 cf) → (∀ t1, 0 ≤ t1 → t1 < t → lfc N gd 0 0 T t1 = 5 ^ 0) → pd_t G mP_reckon 8 R 75 [some (vr 58), some (vr to), some (vr (5 + 1)), some (vi n0), some (vi t)] [] sz hp0 := by
  intro n
  induction n with
  | zero =>
    intro t cf hp0 htE ht0 he0 hbef
    have hP := pg_n he0 (by decide) hP
    refine pt_iload eP_reckon_75 rfl ?_
    refine pt_aload eP_reckon_77 rfl ?_
    refine pt_get eP_reckon_78 hP rfl ?_
    refine pt_cgt eP_reckon_81 ⟨by omega, by omega⟩ ⟨by omega, by omega⟩ (fun c81 => ?_) (fun c81 => ?_)
    · refine pt_ic eP_reckon_103 ?_
      refine pt_iret eP_reckon_105 (Nat.le_refl _) (Nat.le_refl _) ?_
      rw [he0]
      exact hx (-9) cf (Or.inl ⟨rfl, fun t1 k1 k2 => hbef t1 k1 (by omega)⟩)
    · exfalso; omega
  | succ n ih =>
    intro t cf hp0 htE ht0 he0 hbef
    have hP := pg_n he0 (by decide) hP
    have hCh := pg_s he0
    have hWa := pg_n he0 (by decide) hWa
    have hNo := pg_n he0 (by decide) hNo
    refine pt_iload eP_reckon_75 rfl ?_
    refine pt_aload eP_reckon_77 rfl ?_
    refine pt_get eP_reckon_78 hP rfl ?_
    refine pt_cgt eP_reckon_81 ⟨by omega, by omega⟩ ⟨by omega, by omega⟩ (fun c81 => ?_) (fun c81 => ?_)
    · exfalso; omega
    · refine pt_aload eP_reckon_84 rfl ?_
      refine pt_ic eP_reckon_85 ?_
      refine pt_iload eP_reckon_86 rfl ?_
      refine pt_ks3 eP_reckon_88 (cP_choose_0 G sz _ (L := 0) (l := 0) (N := N) (T := T) (s := T) (t := t) hP hCh hWa hNo ig0 ig4 (by decide) (by decide) hwf (fun g k0 k1 => ⟨1, hnf g k0 k1, by decide, by decide, rfl⟩) (by omega) (by omega)) (Nat.le_of_ble_eq_true rfl) (by decide) (Nat.le_refl _) (Nat.le_refl _) ?_
      rintro v2 sz2 hpy ⟨rfl, hz9, cf9, hy9, hc9⟩
      obtain rfl := hz9.symm
      have hP := pg_n hy9 (by decide) hP
      have hCh := pg_s hy9
      have hWa := pg_n hy9 (by decide) hWa
      have hNo := pg_n hy9 (by decide) hNo
      have hww : hpy = va_up hp 59 (ia 6 cf9) := by rw [hy9, he0, bx_uu]
      have hle := lfc_le (N := N) (gd := gd) (m := 0) (l := ((0 : Nat) : Int)) (s := T) (t := t)
      refine pt_zeq eP_reckon_91 ⟨by split <;> omega, by split <;> omega⟩ (fun c91 => ?_) (fun c91 => ?_)
      · refine pt_inc4 eP_reckon_97 rfl ?_
        refine pt_goto eP_reckon_100 ?_
        have hge : lfc N gd 0 0 T t = 5 ^ 0 := by
          rcases (show lfc N gd 0 ((0 : Nat) : Int) T t < 5 ^ 0 ∨ lfc N gd 0 ((0 : Nat) : Int) T t = 5 ^ 0 by omega) with h9 | h9
          · rw [if_pos h9] at c91; omega
          · exact h9
        exact ih (t + 1) cf9 hpy (by omega) (by omega) hww (fun t1 k1 k2 => by
          by_cases hcc : t1 = t
          · rw [hcc]; exact hge
          · exact hbef t1 k1 (by omega))
      · refine pt_iload eP_reckon_94 rfl ?_
        refine pt_iret eP_reckon_96 (Nat.le_refl _) (Nat.le_refl _) ?_
        have hlt : lfc N gd 0 ((0 : Nat) : Int) T t < 5 ^ 0 := by
          by_cases h9 : lfc N gd 0 ((0 : Nat) : Int) T t < 5 ^ 0
          · exact h9
          · rw [if_neg h9] at c91; omega
        rw [hww]
        refine hx t cf9 (Or.inr ⟨ht0, by omega, hlt, hbef, fun j hj => ?_⟩)
        have h8 := hc9 hlt j hj
        rw [Nat.zero_add] at h8
        exact h8
theorem lP_rk2_1 (G : pd_G) (sz : Nat) (hp : pd_P) {to : Nat} {gd n0 : Int} {N : NX} {T wf nf : Int → Int} (hP : hp 58 = PO ((1 : Nat) : Int) gd) (hWa : hp 61 = ia 512 wf) (hNo : hp 62 = ia 4 nf) (ig0 : 0 ≤ gd) (ig4 : gd ≤ 4) (hwf : ∀ (g : Int) (l x : Nat), 0 ≤ g → g < gd → l ≤ 1 → 2 ^ l ≤ x → x < 2 ^ (l + 1) → wf (128 * g + (x : Int)) = wn N g (1 - l) l (tn N g (T g) l x)) (hnf : ∀ g, 0 ≤ g → g < gd → nf g = 1) {R : pd_R} (hx : ∀ (r : Int) (cf : Int → Int), fRs N gd 1 T r cf → R (some (vi r)) sz (va_up hp 59 (ia 6 cf))) : ∀ (n : Nat) (t : Int) (cf : Int → Int) (hp0 : pd_P), t + n = 2 → 0 ≤ t → hp0 = va_up hp 59 (ia 6 cf) → (∀ t1, 0 ≤ t1 → t1 < t → lfc N gd 1 0 T t1 = 5 ^ 1) → pd_t G mP_reckon 8 R 75 [some (vr 58), some (vr to), some (vr (5 + 1)), some (vi n0), some (vi t)] [] sz hp0 := by
  intro n
  induction n with
  | zero =>
    intro t cf hp0 htE ht0 he0 hbef
    have hP := pg_n he0 (by decide) hP
    refine pt_iload eP_reckon_75 rfl ?_
    refine pt_aload eP_reckon_77 rfl ?_
    refine pt_get eP_reckon_78 hP rfl ?_
    refine pt_cgt eP_reckon_81 ⟨by omega, by omega⟩ ⟨by omega, by omega⟩ (fun c81 => ?_) (fun c81 => ?_)
    · refine pt_ic eP_reckon_103 ?_
      refine pt_iret eP_reckon_105 (Nat.le_refl _) (Nat.le_refl _) ?_
      rw [he0]
      exact hx (-9) cf (Or.inl ⟨rfl, fun t1 k1 k2 => hbef t1 k1 (by omega)⟩)
    · exfalso; omega
  | succ n ih =>
    intro t cf hp0 htE ht0 he0 hbef
    have hP := pg_n he0 (by decide) hP
    have hCh := pg_s he0
    have hWa := pg_n he0 (by decide) hWa
    have hNo := pg_n he0 (by decide) hNo
    refine pt_iload eP_reckon_75 rfl ?_
    refine pt_aload eP_reckon_77 rfl ?_
    refine pt_get eP_reckon_78 hP rfl ?_
    refine pt_cgt eP_reckon_81 ⟨by omega, by omega⟩ ⟨by omega, by omega⟩ (fun c81 => ?_) (fun c81 => ?_)
    · exfalso; omega
    · refine pt_aload eP_reckon_84 rfl ?_
      refine pt_ic eP_reckon_85 ?_
      refine pt_iload eP_reckon_86 rfl ?_
      refine pt_ks3 eP_reckon_88 (cP_choose_1 G sz _ (L := 1) (l := 0) (N := N) (T := T) (s := T) (t := t) hP hCh hWa hNo ig0 ig4 (by decide) (by decide) hwf (fun g k0 k1 => ⟨1, hnf g k0 k1, by decide, by decide, rfl⟩) (by omega) (by omega)) (Nat.le_of_ble_eq_true rfl) (by decide) (Nat.le_refl _) (Nat.le_refl _) ?_
      rintro v2 sz2 hpy ⟨rfl, hz9, cf9, hy9, hc9⟩
      obtain rfl := hz9.symm
      have hP := pg_n hy9 (by decide) hP
      have hCh := pg_s hy9
      have hWa := pg_n hy9 (by decide) hWa
      have hNo := pg_n hy9 (by decide) hNo
      have hww : hpy = va_up hp 59 (ia 6 cf9) := by rw [hy9, he0, bx_uu]
      have hle := lfc_le (N := N) (gd := gd) (m := 1) (l := ((0 : Nat) : Int)) (s := T) (t := t)
      refine pt_zeq eP_reckon_91 ⟨by split <;> omega, by split <;> omega⟩ (fun c91 => ?_) (fun c91 => ?_)
      · refine pt_inc4 eP_reckon_97 rfl ?_
        refine pt_goto eP_reckon_100 ?_
        have hge : lfc N gd 1 0 T t = 5 ^ 1 := by
          rcases (show lfc N gd 1 ((0 : Nat) : Int) T t < 5 ^ 1 ∨ lfc N gd 1 ((0 : Nat) : Int) T t = 5 ^ 1 by omega) with h9 | h9
          · rw [if_pos h9] at c91; omega
          · exact h9
        exact ih (t + 1) cf9 hpy (by omega) (by omega) hww (fun t1 k1 k2 => by
          by_cases hcc : t1 = t
          · rw [hcc]; exact hge
          · exact hbef t1 k1 (by omega))
      · refine pt_iload eP_reckon_94 rfl ?_
        refine pt_iret eP_reckon_96 (Nat.le_refl _) (Nat.le_refl _) ?_
        have hlt : lfc N gd 1 ((0 : Nat) : Int) T t < 5 ^ 1 := by
          by_cases h9 : lfc N gd 1 ((0 : Nat) : Int) T t < 5 ^ 1
          · exact h9
          · rw [if_neg h9] at c91; omega
        rw [hww]
        refine hx t cf9 (Or.inr ⟨ht0, by omega, hlt, hbef, fun j hj => ?_⟩)
        have h8 := hc9 hlt j hj
        rw [Nat.zero_add] at h8
        exact h8
theorem lP_rk2_2 (G : pd_G) (sz : Nat) (hp : pd_P) {to : Nat} {gd n0 : Int} {N : NX} {T wf nf : Int → Int} (hP : hp 58 = PO ((2 : Nat) : Int) gd) (hWa : hp 61 = ia 512 wf) (hNo : hp 62 = ia 4 nf) (ig0 : 0 ≤ gd) (ig4 : gd ≤ 4) (hwf : ∀ (g : Int) (l x : Nat), 0 ≤ g → g < gd → l ≤ 2 → 2 ^ l ≤ x → x < 2 ^ (l + 1) → wf (128 * g + (x : Int)) = wn N g (2 - l) l (tn N g (T g) l x)) (hnf : ∀ g, 0 ≤ g → g < gd → nf g = 1) {R : pd_R} (hx : ∀ (r : Int) (cf : Int → Int), fRs N gd 2 T r cf → R (some (vi r)) sz (va_up hp 59 (ia 6 cf))) : ∀ (n : Nat) (t : Int) (cf : Int → Int) (hp0 : pd_P), t + n = 3 → 0 ≤ t → hp0 = va_up hp 59 (ia 6 cf) → (∀ t1, 0 ≤ t1 → t1 < t → lfc N gd 2 0 T t1 = 5 ^ 2) → pd_t G mP_reckon 8 R 75 [some (vr 58), some (vr to), some (vr (5 + 1)), some (vi n0), some (vi t)] [] sz hp0 := by
  intro n
  induction n with
  | zero =>
    intro t cf hp0 htE ht0 he0 hbef
    have hP := pg_n he0 (by decide) hP
    refine pt_iload eP_reckon_75 rfl ?_
    refine pt_aload eP_reckon_77 rfl ?_
    refine pt_get eP_reckon_78 hP rfl ?_
    refine pt_cgt eP_reckon_81 ⟨by omega, by omega⟩ ⟨by omega, by omega⟩ (fun c81 => ?_) (fun c81 => ?_)
    · refine pt_ic eP_reckon_103 ?_
      refine pt_iret eP_reckon_105 (Nat.le_refl _) (Nat.le_refl _) ?_
      rw [he0]
      exact hx (-9) cf (Or.inl ⟨rfl, fun t1 k1 k2 => hbef t1 k1 (by omega)⟩)
    · exfalso; omega
  | succ n ih =>
    intro t cf hp0 htE ht0 he0 hbef
    have hP := pg_n he0 (by decide) hP
    have hCh := pg_s he0
    have hWa := pg_n he0 (by decide) hWa
    have hNo := pg_n he0 (by decide) hNo
    refine pt_iload eP_reckon_75 rfl ?_
    refine pt_aload eP_reckon_77 rfl ?_
    refine pt_get eP_reckon_78 hP rfl ?_
    refine pt_cgt eP_reckon_81 ⟨by omega, by omega⟩ ⟨by omega, by omega⟩ (fun c81 => ?_) (fun c81 => ?_)
    · exfalso; omega
    · refine pt_aload eP_reckon_84 rfl ?_
      refine pt_ic eP_reckon_85 ?_
      refine pt_iload eP_reckon_86 rfl ?_
      refine pt_ks3 eP_reckon_88 (cP_choose_2 G sz _ (L := 2) (l := 0) (N := N) (T := T) (s := T) (t := t) hP hCh hWa hNo ig0 ig4 (by decide) (by decide) hwf (fun g k0 k1 => ⟨1, hnf g k0 k1, by decide, by decide, rfl⟩) (by omega) (by omega)) (Nat.le_of_ble_eq_true rfl) (by decide) (Nat.le_refl _) (Nat.le_refl _) ?_
      rintro v2 sz2 hpy ⟨rfl, hz9, cf9, hy9, hc9⟩
      obtain rfl := hz9.symm
      have hP := pg_n hy9 (by decide) hP
      have hCh := pg_s hy9
      have hWa := pg_n hy9 (by decide) hWa
      have hNo := pg_n hy9 (by decide) hNo
      have hww : hpy = va_up hp 59 (ia 6 cf9) := by rw [hy9, he0, bx_uu]
      have hle := lfc_le (N := N) (gd := gd) (m := 2) (l := ((0 : Nat) : Int)) (s := T) (t := t)
      refine pt_zeq eP_reckon_91 ⟨by split <;> omega, by split <;> omega⟩ (fun c91 => ?_) (fun c91 => ?_)
      · refine pt_inc4 eP_reckon_97 rfl ?_
        refine pt_goto eP_reckon_100 ?_
        have hge : lfc N gd 2 0 T t = 5 ^ 2 := by
          rcases (show lfc N gd 2 ((0 : Nat) : Int) T t < 5 ^ 2 ∨ lfc N gd 2 ((0 : Nat) : Int) T t = 5 ^ 2 by omega) with h9 | h9
          · rw [if_pos h9] at c91; omega
          · exact h9
        exact ih (t + 1) cf9 hpy (by omega) (by omega) hww (fun t1 k1 k2 => by
          by_cases hcc : t1 = t
          · rw [hcc]; exact hge
          · exact hbef t1 k1 (by omega))
      · refine pt_iload eP_reckon_94 rfl ?_
        refine pt_iret eP_reckon_96 (Nat.le_refl _) (Nat.le_refl _) ?_
        have hlt : lfc N gd 2 ((0 : Nat) : Int) T t < 5 ^ 2 := by
          by_cases h9 : lfc N gd 2 ((0 : Nat) : Int) T t < 5 ^ 2
          · exact h9
          · rw [if_neg h9] at c91; omega
        rw [hww]
        refine hx t cf9 (Or.inr ⟨ht0, by omega, hlt, hbef, fun j hj => ?_⟩)
        have h8 := hc9 hlt j hj
        rw [Nat.zero_add] at h8
        exact h8
theorem lP_rk2_3 (G : pd_G) (sz : Nat) (hp : pd_P) {to : Nat} {gd n0 : Int} {N : NX} {T wf nf : Int → Int} (hP : hp 58 = PO ((3 : Nat) : Int) gd) (hWa : hp 61 = ia 512 wf) (hNo : hp 62 = ia 4 nf) (ig0 : 0 ≤ gd) (ig4 : gd ≤ 4) (hwf : ∀ (g : Int) (l x : Nat), 0 ≤ g → g < gd → l ≤ 3 → 2 ^ l ≤ x → x < 2 ^ (l + 1) → wf (128 * g + (x : Int)) = wn N g (3 - l) l (tn N g (T g) l x)) (hnf : ∀ g, 0 ≤ g → g < gd → nf g = 1) {R : pd_R} (hx : ∀ (r : Int) (cf : Int → Int), fRs N gd 3 T r cf → R (some (vi r)) sz (va_up hp 59 (ia 6 cf))) : ∀ (n : Nat) (t : Int) (cf : Int → Int) (hp0 : pd_P), t + n = 4 → 0 ≤ t → hp0 = va_up hp 59 (ia 6 cf) → (∀ t1, 0 ≤ t1 → t1 < t → lfc N gd 3 0 T t1 = 5 ^ 3) → pd_t G mP_reckon 8 R 75 [some (vr 58), some (vr to), some (vr (5 + 1)), some (vi n0), some (vi t)] [] sz hp0 := by
  intro n
  induction n with
  | zero =>
    intro t cf hp0 htE ht0 he0 hbef
    have hP := pg_n he0 (by decide) hP
    refine pt_iload eP_reckon_75 rfl ?_
    refine pt_aload eP_reckon_77 rfl ?_
    refine pt_get eP_reckon_78 hP rfl ?_
    refine pt_cgt eP_reckon_81 ⟨by omega, by omega⟩ ⟨by omega, by omega⟩ (fun c81 => ?_) (fun c81 => ?_)
    · refine pt_ic eP_reckon_103 ?_
      refine pt_iret eP_reckon_105 (Nat.le_refl _) (Nat.le_refl _) ?_
      rw [he0]
      exact hx (-9) cf (Or.inl ⟨rfl, fun t1 k1 k2 => hbef t1 k1 (by omega)⟩)
    · exfalso; omega
  | succ n ih =>
    intro t cf hp0 htE ht0 he0 hbef
    have hP := pg_n he0 (by decide) hP
    have hCh := pg_s he0
    have hWa := pg_n he0 (by decide) hWa
    have hNo := pg_n he0 (by decide) hNo
    refine pt_iload eP_reckon_75 rfl ?_
    refine pt_aload eP_reckon_77 rfl ?_
    refine pt_get eP_reckon_78 hP rfl ?_
    refine pt_cgt eP_reckon_81 ⟨by omega, by omega⟩ ⟨by omega, by omega⟩ (fun c81 => ?_) (fun c81 => ?_)
    · exfalso; omega
    · refine pt_aload eP_reckon_84 rfl ?_
      refine pt_ic eP_reckon_85 ?_
      refine pt_iload eP_reckon_86 rfl ?_
      refine pt_ks3 eP_reckon_88 (cP_choose_3 G sz _ (L := 3) (l := 0) (N := N) (T := T) (s := T) (t := t) hP hCh hWa hNo ig0 ig4 (by decide) (by decide) hwf (fun g k0 k1 => ⟨1, hnf g k0 k1, by decide, by decide, rfl⟩) (by omega) (by omega)) (Nat.le_of_ble_eq_true rfl) (by decide) (Nat.le_refl _) (Nat.le_refl _) ?_
      rintro v2 sz2 hpy ⟨rfl, hz9, cf9, hy9, hc9⟩
      obtain rfl := hz9.symm
      have hP := pg_n hy9 (by decide) hP
      have hCh := pg_s hy9
      have hWa := pg_n hy9 (by decide) hWa
      have hNo := pg_n hy9 (by decide) hNo
      have hww : hpy = va_up hp 59 (ia 6 cf9) := by rw [hy9, he0, bx_uu]
      have hle := lfc_le (N := N) (gd := gd) (m := 3) (l := ((0 : Nat) : Int)) (s := T) (t := t)
      refine pt_zeq eP_reckon_91 ⟨by split <;> omega, by split <;> omega⟩ (fun c91 => ?_) (fun c91 => ?_)
      · refine pt_inc4 eP_reckon_97 rfl ?_
        refine pt_goto eP_reckon_100 ?_
        have hge : lfc N gd 3 0 T t = 5 ^ 3 := by
          rcases (show lfc N gd 3 ((0 : Nat) : Int) T t < 5 ^ 3 ∨ lfc N gd 3 ((0 : Nat) : Int) T t = 5 ^ 3 by omega) with h9 | h9
          · rw [if_pos h9] at c91; omega
          · exact h9
        exact ih (t + 1) cf9 hpy (by omega) (by omega) hww (fun t1 k1 k2 => by
          by_cases hcc : t1 = t
          · rw [hcc]; exact hge
          · exact hbef t1 k1 (by omega))
      · refine pt_iload eP_reckon_94 rfl ?_
        refine pt_iret eP_reckon_96 (Nat.le_refl _) (Nat.le_refl _) ?_
        have hlt : lfc N gd 3 ((0 : Nat) : Int) T t < 5 ^ 3 := by
          by_cases h9 : lfc N gd 3 ((0 : Nat) : Int) T t < 5 ^ 3
          · exact h9
          · rw [if_neg h9] at c91; omega
        rw [hww]
        refine hx t cf9 (Or.inr ⟨ht0, by omega, hlt, hbef, fun j hj => ?_⟩)
        have h8 := hc9 hlt j hj
        rw [Nat.zero_add] at h8
        exact h8
theorem lP_rk2_4 (G : pd_G) (sz : Nat) (hp : pd_P) {to : Nat} {gd n0 : Int} {N : NX} {T wf nf : Int → Int} (hP : hp 58 = PO ((4 : Nat) : Int) gd) (hWa : hp 61 = ia 512 wf) (hNo : hp 62 = ia 4 nf) (ig0 : 0 ≤ gd) (ig4 : gd ≤ 4) (hwf : ∀ (g : Int) (l x : Nat), 0 ≤ g → g < gd → l ≤ 4 → 2 ^ l ≤ x → x < 2 ^ (l + 1) → wf (128 * g + (x : Int)) = wn N g (4 - l) l (tn N g (T g) l x)) (hnf : ∀ g, 0 ≤ g → g < gd → nf g = 1) {R : pd_R} (hx : ∀ (r : Int) (cf : Int → Int), fRs N gd 4 T r cf → R (some (vi r)) sz (va_up hp 59 (ia 6 cf))) : ∀ (n : Nat) (t : Int) (cf : Int → Int) (hp0 : pd_P), t + n = 5 → 0 ≤ t → hp0 = va_up hp 59 (ia 6 cf) → (∀ t1, 0 ≤ t1 → t1 < t → lfc N gd 4 0 T t1 = 5 ^ 4) → pd_t G mP_reckon 8 R 75 [some (vr 58), some (vr to), some (vr (5 + 1)), some (vi n0), some (vi t)] [] sz hp0 := by
  intro n
  induction n with
  | zero =>
    intro t cf hp0 htE ht0 he0 hbef
    have hP := pg_n he0 (by decide) hP
    refine pt_iload eP_reckon_75 rfl ?_
    refine pt_aload eP_reckon_77 rfl ?_
    refine pt_get eP_reckon_78 hP rfl ?_
    refine pt_cgt eP_reckon_81 ⟨by omega, by omega⟩ ⟨by omega, by omega⟩ (fun c81 => ?_) (fun c81 => ?_)
    · refine pt_ic eP_reckon_103 ?_
      refine pt_iret eP_reckon_105 (Nat.le_refl _) (Nat.le_refl _) ?_
      rw [he0]
      exact hx (-9) cf (Or.inl ⟨rfl, fun t1 k1 k2 => hbef t1 k1 (by omega)⟩)
    · exfalso; omega
  | succ n ih =>
    intro t cf hp0 htE ht0 he0 hbef
    have hP := pg_n he0 (by decide) hP
    have hCh := pg_s he0
    have hWa := pg_n he0 (by decide) hWa
    have hNo := pg_n he0 (by decide) hNo
    refine pt_iload eP_reckon_75 rfl ?_
    refine pt_aload eP_reckon_77 rfl ?_
    refine pt_get eP_reckon_78 hP rfl ?_
    refine pt_cgt eP_reckon_81 ⟨by omega, by omega⟩ ⟨by omega, by omega⟩ (fun c81 => ?_) (fun c81 => ?_)
    · exfalso; omega
    · refine pt_aload eP_reckon_84 rfl ?_
      refine pt_ic eP_reckon_85 ?_
      refine pt_iload eP_reckon_86 rfl ?_
      refine pt_ks3 eP_reckon_88 (cP_choose_4 G sz _ (L := 4) (l := 0) (N := N) (T := T) (s := T) (t := t) hP hCh hWa hNo ig0 ig4 (by decide) (by decide) hwf (fun g k0 k1 => ⟨1, hnf g k0 k1, by decide, by decide, rfl⟩) (by omega) (by omega)) (Nat.le_of_ble_eq_true rfl) (by decide) (Nat.le_refl _) (Nat.le_refl _) ?_
      rintro v2 sz2 hpy ⟨rfl, hz9, cf9, hy9, hc9⟩
      obtain rfl := hz9.symm
      have hP := pg_n hy9 (by decide) hP
      have hCh := pg_s hy9
      have hWa := pg_n hy9 (by decide) hWa
      have hNo := pg_n hy9 (by decide) hNo
      have hww : hpy = va_up hp 59 (ia 6 cf9) := by rw [hy9, he0, bx_uu]
      have hle := lfc_le (N := N) (gd := gd) (m := 4) (l := ((0 : Nat) : Int)) (s := T) (t := t)
      refine pt_zeq eP_reckon_91 ⟨by split <;> omega, by split <;> omega⟩ (fun c91 => ?_) (fun c91 => ?_)
      · refine pt_inc4 eP_reckon_97 rfl ?_
        refine pt_goto eP_reckon_100 ?_
        have hge : lfc N gd 4 0 T t = 5 ^ 4 := by
          rcases (show lfc N gd 4 ((0 : Nat) : Int) T t < 5 ^ 4 ∨ lfc N gd 4 ((0 : Nat) : Int) T t = 5 ^ 4 by omega) with h9 | h9
          · rw [if_pos h9] at c91; omega
          · exact h9
        exact ih (t + 1) cf9 hpy (by omega) (by omega) hww (fun t1 k1 k2 => by
          by_cases hcc : t1 = t
          · rw [hcc]; exact hge
          · exact hbef t1 k1 (by omega))
      · refine pt_iload eP_reckon_94 rfl ?_
        refine pt_iret eP_reckon_96 (Nat.le_refl _) (Nat.le_refl _) ?_
        have hlt : lfc N gd 4 ((0 : Nat) : Int) T t < 5 ^ 4 := by
          by_cases h9 : lfc N gd 4 ((0 : Nat) : Int) T t < 5 ^ 4
          · exact h9
          · rw [if_neg h9] at c91; omega
        rw [hww]
        refine hx t cf9 (Or.inr ⟨ht0, by omega, hlt, hbef, fun j hj => ?_⟩)
        have h8 := hc9 hlt j hj
        rw [Nat.zero_add] at h8
        exact h8
theorem lP_rk2_5 (G : pd_G) (sz : Nat) (hp : pd_P) {to : Nat} {gd n0 : Int} {N : NX} {T wf nf : Int → Int} (hP : hp 58 = PO ((5 : Nat) : Int) gd) (hWa : hp 61 = ia 512 wf) (hNo : hp 62 = ia 4 nf) (ig0 : 0 ≤ gd) (ig4 : gd ≤ 4) (hwf : ∀ (g : Int) (l x : Nat), 0 ≤ g → g < gd → l ≤ 5 → 2 ^ l ≤ x → x < 2 ^ (l + 1) → wf (128 * g + (x : Int)) = wn N g (5 - l) l (tn N g (T g) l x)) (hnf : ∀ g, 0 ≤ g → g < gd → nf g = 1) {R : pd_R} (hx : ∀ (r : Int) (cf : Int → Int), fRs N gd 5 T r cf → R (some (vi r)) sz (va_up hp 59 (ia 6 cf))) : ∀ (n : Nat) (t : Int) (cf : Int → Int) (hp0 : pd_P), t + n = 6 → 0 ≤ t → hp0 = va_up hp 59 (ia 6 cf) → (∀ t1, 0 ≤ t1 → t1 < t → lfc N gd 5 0 T t1 = 5 ^ 5) → pd_t G mP_reckon 8 R 75 [some (vr 58), some (vr to), some (vr (5 + 1)), some (vi n0), some (vi t)] [] sz hp0 := by
  intro n
  induction n with
  | zero =>
    intro t cf hp0 htE ht0 he0 hbef
    have hP := pg_n he0 (by decide) hP
    refine pt_iload eP_reckon_75 rfl ?_
    refine pt_aload eP_reckon_77 rfl ?_
    refine pt_get eP_reckon_78 hP rfl ?_
    refine pt_cgt eP_reckon_81 ⟨by omega, by omega⟩ ⟨by omega, by omega⟩ (fun c81 => ?_) (fun c81 => ?_)
    · refine pt_ic eP_reckon_103 ?_
      refine pt_iret eP_reckon_105 (Nat.le_refl _) (Nat.le_refl _) ?_
      rw [he0]
      exact hx (-9) cf (Or.inl ⟨rfl, fun t1 k1 k2 => hbef t1 k1 (by omega)⟩)
    · exfalso; omega
  | succ n ih =>
    intro t cf hp0 htE ht0 he0 hbef
    have hP := pg_n he0 (by decide) hP
    have hCh := pg_s he0
    have hWa := pg_n he0 (by decide) hWa
    have hNo := pg_n he0 (by decide) hNo
    refine pt_iload eP_reckon_75 rfl ?_
    refine pt_aload eP_reckon_77 rfl ?_
    refine pt_get eP_reckon_78 hP rfl ?_
    refine pt_cgt eP_reckon_81 ⟨by omega, by omega⟩ ⟨by omega, by omega⟩ (fun c81 => ?_) (fun c81 => ?_)
    · exfalso; omega
    · refine pt_aload eP_reckon_84 rfl ?_
      refine pt_ic eP_reckon_85 ?_
      refine pt_iload eP_reckon_86 rfl ?_
      refine pt_ks3 eP_reckon_88 (cP_choose_5 G sz _ (L := 5) (l := 0) (N := N) (T := T) (s := T) (t := t) hP hCh hWa hNo ig0 ig4 (by decide) (by decide) hwf (fun g k0 k1 => ⟨1, hnf g k0 k1, by decide, by decide, rfl⟩) (by omega) (by omega)) (Nat.le_of_ble_eq_true rfl) (by decide) (Nat.le_refl _) (Nat.le_refl _) ?_
      rintro v2 sz2 hpy ⟨rfl, hz9, cf9, hy9, hc9⟩
      obtain rfl := hz9.symm
      have hP := pg_n hy9 (by decide) hP
      have hCh := pg_s hy9
      have hWa := pg_n hy9 (by decide) hWa
      have hNo := pg_n hy9 (by decide) hNo
      have hww : hpy = va_up hp 59 (ia 6 cf9) := by rw [hy9, he0, bx_uu]
      have hle := lfc_le (N := N) (gd := gd) (m := 5) (l := ((0 : Nat) : Int)) (s := T) (t := t)
      refine pt_zeq eP_reckon_91 ⟨by split <;> omega, by split <;> omega⟩ (fun c91 => ?_) (fun c91 => ?_)
      · refine pt_inc4 eP_reckon_97 rfl ?_
        refine pt_goto eP_reckon_100 ?_
        have hge : lfc N gd 5 0 T t = 5 ^ 5 := by
          rcases (show lfc N gd 5 ((0 : Nat) : Int) T t < 5 ^ 5 ∨ lfc N gd 5 ((0 : Nat) : Int) T t = 5 ^ 5 by omega) with h9 | h9
          · rw [if_pos h9] at c91; omega
          · exact h9
        exact ih (t + 1) cf9 hpy (by omega) (by omega) hww (fun t1 k1 k2 => by
          by_cases hcc : t1 = t
          · rw [hcc]; exact hge
          · exact hbef t1 k1 (by omega))
      · refine pt_iload eP_reckon_94 rfl ?_
        refine pt_iret eP_reckon_96 (Nat.le_refl _) (Nat.le_refl _) ?_
        have hlt : lfc N gd 5 ((0 : Nat) : Int) T t < 5 ^ 5 := by
          by_cases h9 : lfc N gd 5 ((0 : Nat) : Int) T t < 5 ^ 5
          · exact h9
          · rw [if_neg h9] at c91; omega
        rw [hww]
        refine hx t cf9 (Or.inr ⟨ht0, by omega, hlt, hbef, fun j hj => ?_⟩)
        have h8 := hc9 hlt j hj
        rw [Nat.zero_add] at h8
        exact h8
theorem lP_rk2_6 (G : pd_G) (sz : Nat) (hp : pd_P) {to : Nat} {gd n0 : Int} {N : NX} {T wf nf : Int → Int} (hP : hp 58 = PO ((6 : Nat) : Int) gd) (hWa : hp 61 = ia 512 wf) (hNo : hp 62 = ia 4 nf) (ig0 : 0 ≤ gd) (ig4 : gd ≤ 4) (hwf : ∀ (g : Int) (l x : Nat), 0 ≤ g → g < gd → l ≤ 6 → 2 ^ l ≤ x → x < 2 ^ (l + 1) → wf (128 * g + (x : Int)) = wn N g (6 - l) l (tn N g (T g) l x)) (hnf : ∀ g, 0 ≤ g → g < gd → nf g = 1) {R : pd_R} (hx : ∀ (r : Int) (cf : Int → Int), fRs N gd 6 T r cf → R (some (vi r)) sz (va_up hp 59 (ia 6 cf))) : ∀ (n : Nat) (t : Int) (cf : Int → Int) (hp0 : pd_P), t + n = 7 → 0 ≤ t → hp0 = va_up hp 59 (ia 6 cf) → (∀ t1, 0 ≤ t1 → t1 < t → lfc N gd 6 0 T t1 = 5 ^ 6) → pd_t G mP_reckon 8 R 75 [some (vr 58), some (vr to), some (vr (5 + 1)), some (vi n0), some (vi t)] [] sz hp0 := by
  intro n
  induction n with
  | zero =>
    intro t cf hp0 htE ht0 he0 hbef
    have hP := pg_n he0 (by decide) hP
    refine pt_iload eP_reckon_75 rfl ?_
    refine pt_aload eP_reckon_77 rfl ?_
    refine pt_get eP_reckon_78 hP rfl ?_
    refine pt_cgt eP_reckon_81 ⟨by omega, by omega⟩ ⟨by omega, by omega⟩ (fun c81 => ?_) (fun c81 => ?_)
    · refine pt_ic eP_reckon_103 ?_
      refine pt_iret eP_reckon_105 (Nat.le_refl _) (Nat.le_refl _) ?_
      rw [he0]
      exact hx (-9) cf (Or.inl ⟨rfl, fun t1 k1 k2 => hbef t1 k1 (by omega)⟩)
    · exfalso; omega
  | succ n ih =>
    intro t cf hp0 htE ht0 he0 hbef
    have hP := pg_n he0 (by decide) hP
    have hCh := pg_s he0
    have hWa := pg_n he0 (by decide) hWa
    have hNo := pg_n he0 (by decide) hNo
    refine pt_iload eP_reckon_75 rfl ?_
    refine pt_aload eP_reckon_77 rfl ?_
    refine pt_get eP_reckon_78 hP rfl ?_
    refine pt_cgt eP_reckon_81 ⟨by omega, by omega⟩ ⟨by omega, by omega⟩ (fun c81 => ?_) (fun c81 => ?_)
    · exfalso; omega
    · refine pt_aload eP_reckon_84 rfl ?_
      refine pt_ic eP_reckon_85 ?_
      refine pt_iload eP_reckon_86 rfl ?_
      refine pt_ks3 eP_reckon_88 (cP_choose_6 G sz _ (L := 6) (l := 0) (N := N) (T := T) (s := T) (t := t) hP hCh hWa hNo ig0 ig4 (by decide) (by decide) hwf (fun g k0 k1 => ⟨1, hnf g k0 k1, by decide, by decide, rfl⟩) (by omega) (by omega)) (Nat.le_of_ble_eq_true rfl) (by decide) (Nat.le_refl _) (Nat.le_refl _) ?_
      rintro v2 sz2 hpy ⟨rfl, hz9, cf9, hy9, hc9⟩
      obtain rfl := hz9.symm
      have hP := pg_n hy9 (by decide) hP
      have hCh := pg_s hy9
      have hWa := pg_n hy9 (by decide) hWa
      have hNo := pg_n hy9 (by decide) hNo
      have hww : hpy = va_up hp 59 (ia 6 cf9) := by rw [hy9, he0, bx_uu]
      have hle := lfc_le (N := N) (gd := gd) (m := 6) (l := ((0 : Nat) : Int)) (s := T) (t := t)
      refine pt_zeq eP_reckon_91 ⟨by split <;> omega, by split <;> omega⟩ (fun c91 => ?_) (fun c91 => ?_)
      · refine pt_inc4 eP_reckon_97 rfl ?_
        refine pt_goto eP_reckon_100 ?_
        have hge : lfc N gd 6 0 T t = 5 ^ 6 := by
          rcases (show lfc N gd 6 ((0 : Nat) : Int) T t < 5 ^ 6 ∨ lfc N gd 6 ((0 : Nat) : Int) T t = 5 ^ 6 by omega) with h9 | h9
          · rw [if_pos h9] at c91; omega
          · exact h9
        exact ih (t + 1) cf9 hpy (by omega) (by omega) hww (fun t1 k1 k2 => by
          by_cases hcc : t1 = t
          · rw [hcc]; exact hge
          · exact hbef t1 k1 (by omega))
      · refine pt_iload eP_reckon_94 rfl ?_
        refine pt_iret eP_reckon_96 (Nat.le_refl _) (Nat.le_refl _) ?_
        have hlt : lfc N gd 6 ((0 : Nat) : Int) T t < 5 ^ 6 := by
          by_cases h9 : lfc N gd 6 ((0 : Nat) : Int) T t < 5 ^ 6
          · exact h9
          · rw [if_neg h9] at c91; omega
        rw [hww]
        refine hx t cf9 (Or.inr ⟨ht0, by omega, hlt, hbef, fun j hj => ?_⟩)
        have h8 := hc9 hlt j hj
        rw [Nat.zero_add] at h8
        exact h8
theorem cP_reckon (G : pd_G) (sz : Nat) (hp : pd_P) {to : Nat} {gd ev bk n0 ln0 gp : Int} {br ms us uq σ cf th wf nf : Int → Int} (hto : 63 ≤ to) (hP : hp 58 = PO ln0 gp) (hCh : hp 59 = ia 6 cf) (hTh : hp 60 = ia 128 th) (hWa : hp 61 = ia 512 wf) (hNo : hp 62 = ia 4 nf) (hH : hp to = HO to gd ev bk) (hH5 : hp (to + 5) = ia 80 br) (hH6 : hp (to + 6) = ia 80 ms) (hH2 : hp (to + 2) = ia 4 us) (hN : hp (5 + 1) = SO (5 + 1) (σ 0) (σ 1)) (hNt : hp (5 + 1 + 1) = ia 4 (fun g => σ (2 + g))) (hNk : hp (5 + 1 + 3) = ia 80 (fun k => σ (10 + k))) (ig0 : 0 ≤ gd) (ig4 : gd ≤ 4) (id0 : 1 ≤ ev) (id1 : ev ≤ 9) (id2 : 1 ≤ bk) (id3 : bk ≤ 9) (iB : okB br) (iM : okB ms) (iU : okU gd uq) (hs : okS ms σ) (hug : ∀ g, 0 ≤ g → g < gd → us g = uq g) (hn1 : 1 ≤ n0) (hn6 : n0 ≤ 6) : pd_c G mP_reckon 8 [vr 58, vr to, vr (5 + 1), vi n0] sz hp (fun v' sz' hp' => sz' = sz ∧ ∃ (r : Int) (cf' th' wf' nf' : Int → Int), v' = some (vi r) ∧ hp' 58 = PO ((fmn σ n0 : Nat) : Int) gd ∧ hp' 59 = ia 6 cf' ∧ hp' 60 = ia 128 th' ∧ hp' 61 = ia 512 wf' ∧ hp' 62 = ia 4 nf' ∧ fr hp hp' 58 63 ∧ fRs (nxf uq br ms σ ev bk) gd (fmn σ n0) (fun g => σ (2 + g)) r cf') := by
  refine pd_con kP_reckon [some (vr 58), some (vr to), some (vr (5 + 1)), some (vi n0), none] rfl rfl (Nat.le_of_ble_eq_true rfl) ?_
  have s0 := hs.1
  have s20 := hs.2.1
  have hmn : ((fmn σ n0 : Nat) : Int) = min (20 - σ 0) n0 := Int.toNat_of_nonneg (by omega)
  refine pt_aload eP_reckon_0 rfl ?_
  refine pt_aload eP_reckon_1 rfl ?_
  refine pt_get eP_reckon_2 hH rfl ?_
  refine pt_put5 eP_reckon_5 hP trivial ?_
  refine pt_gen ?_
  intro hp1 ev1
  have hP := pg_s ev1
  have hCh := pg_n ev1 (by omega) hCh
  have hTh := pg_n ev1 (by omega) hTh
  have hWa := pg_n ev1 (by omega) hWa
  have hNo := pg_n ev1 (by omega) hNo
  have hH := pg_n ev1 (by omega) hH
  have hH2 := pg_n ev1 (by omega) hH2
  have hH5 := pg_n ev1 (by omega) hH5
  have hH6 := pg_n ev1 (by omega) hH6
  have hN := pg_n ev1 (by omega) hN
  have hNt := pg_n ev1 (by omega) hNt
  have hNk := pg_n ev1 (by omega) hNk
  refine pt_aload eP_reckon_8 rfl ?_
  refine pt_ic eP_reckon_9 ?_
  refine pt_iload eP_reckon_10 rfl ?_
  refine pt_ic eP_reckon_11 ?_
  refine pt_min eP_reckon_13 ⟨by omega, by omega⟩ ⟨by omega, by omega⟩ (by decide) (Nat.le_of_ble_eq_true rfl) (Nat.le_refl _) (Nat.le_refl _) ?_
  refine pt_ic eP_reckon_16 ?_
  refine pt_aload eP_reckon_18 rfl ?_
  refine pt_get eP_reckon_19 hN rfl ?_
  refine pt_isub eP_reckon_22 ?_
  refine pt_min eP_reckon_23 ⟨by omega, by omega⟩ ⟨by omega, by omega⟩ (by decide) (Nat.le_of_ble_eq_true rfl) (Nat.le_refl _) (Nat.le_refl _) ?_
  refine pt_max eP_reckon_26 ⟨by omega, by omega⟩ ⟨by omega, by omega⟩ (by decide) (Nat.le_of_ble_eq_true rfl) (Nat.le_refl _) (Nat.le_refl _) ?_
  refine pt_put1 eP_reckon_29 hP trivial ?_
  refine pt_gen ?_
  intro hp2 ev2
  have hP := pg_s ev2
  have hCh := pg_n ev2 (by omega) hCh
  have hTh := pg_n ev2 (by omega) hTh
  have hWa := pg_n ev2 (by omega) hWa
  have hNo := pg_n ev2 (by omega) hNo
  have hH := pg_n ev2 (by omega) hH
  have hH2 := pg_n ev2 (by omega) hH2
  have hH5 := pg_n ev2 (by omega) hH5
  have hH6 := pg_n ev2 (by omega) hH6
  have hN := pg_n ev2 (by omega) hN
  have hNt := pg_n ev2 (by omega) hNt
  have hNk := pg_n ev2 (by omega) hNk
  refine pt_ic eP_reckon_32 ?_
  refine pt_istore4 eP_reckon_33 rfl ?_
  have hP3 : hp2 58 = PO ((fmn σ n0 : Nat) : Int) gd := by
    rw [hmn, show min (20 - σ 0) n0 = max 0 (min (min n0 6) (20 - σ 0)) by omega]
    exact hP
  have hfa : fr hp hp2 58 63 := (fr.rf.up ev1 (by decide) (by decide)).up ev2 (by decide) (by decide)
  obtain ⟨k, hgk⟩ : ∃ k, fmn σ n0 = k := ⟨_, rfl⟩
  rw [hgk] at hP3 hmn
  refine lP_rk1 G sz hp2 (L := k) hto hP3 hCh hH hH5 hH6 hH2 hN hNt hNk ig0 ig4 id0 id1 id2 id3 iB iM iU hs hug (by omega) (by omega) (fun hp7 hI7 => ?_) gd.toNat 0 hp2 (by omega) (by omega) ⟨th, wf, nf, hTh, hWa, hNo, fr.rf, fun g k0 k1 => absurd k1 (by omega), fun g l x k0 k1 => absurd k1 (by omega)⟩
  obtain ⟨th7, wf7, nf7, hTh7, hWa7, hNo7, hfr7, hn7, hw7⟩ := hI7
  have hP7 := hfr7.at (by omega) hP3
  have hCh7 := hfr7.at (by omega) hCh
  have hfb : fr hp hp7 58 63 := fun k hk => (hfr7 k (by omega)).trans (hfa k hk)
  refine pt_ic eP_reckon_72 ?_
  refine pt_istore4 eP_reckon_73 rfl ?_
  rcases (show k = 0 ∨ k = 1 ∨ k = 2 ∨ k = 3 ∨ k = 4 ∨ k = 5 ∨ k = 6 by omega) with rfl | rfl | rfl | rfl | rfl | rfl | rfl
  · refine lP_rk2_0 G sz hp7 (T := (fun g => σ (2 + g))) hP7 hWa7 hNo7 ig0 ig4 hw7 hn7 (fun r cf' hr => ?_) 1 0 cf hp7 (by omega) (by omega) (pu_self hCh7) (fun t1 k1 k2 => absurd k2 (by omega))
    rw [show fmn σ n0 = 0 from hgk]
    exact ⟨rfl, r, cf', th7, wf7, nf7, rfl, pg_n rfl (by decide) hP7, pg_s rfl, pg_n rfl (by decide) hTh7, pg_n rfl (by decide) hWa7, pg_n rfl (by decide) hNo7, hfb.up rfl (by decide) (by decide), hr⟩
  · refine lP_rk2_1 G sz hp7 (T := (fun g => σ (2 + g))) hP7 hWa7 hNo7 ig0 ig4 hw7 hn7 (fun r cf' hr => ?_) 2 0 cf hp7 (by omega) (by omega) (pu_self hCh7) (fun t1 k1 k2 => absurd k2 (by omega))
    rw [show fmn σ n0 = 1 from hgk]
    exact ⟨rfl, r, cf', th7, wf7, nf7, rfl, pg_n rfl (by decide) hP7, pg_s rfl, pg_n rfl (by decide) hTh7, pg_n rfl (by decide) hWa7, pg_n rfl (by decide) hNo7, hfb.up rfl (by decide) (by decide), hr⟩
  · refine lP_rk2_2 G sz hp7 (T := (fun g => σ (2 + g))) hP7 hWa7 hNo7 ig0 ig4 hw7 hn7 (fun r cf' hr => ?_) 3 0 cf hp7 (by omega) (by omega) (pu_self hCh7) (fun t1 k1 k2 => absurd k2 (by omega))
    rw [show fmn σ n0 = 2 from hgk]
    exact ⟨rfl, r, cf', th7, wf7, nf7, rfl, pg_n rfl (by decide) hP7, pg_s rfl, pg_n rfl (by decide) hTh7, pg_n rfl (by decide) hWa7, pg_n rfl (by decide) hNo7, hfb.up rfl (by decide) (by decide), hr⟩
  · refine lP_rk2_3 G sz hp7 (T := (fun g => σ (2 + g))) hP7 hWa7 hNo7 ig0 ig4 hw7 hn7 (fun r cf' hr => ?_) 4 0 cf hp7 (by omega) (by omega) (pu_self hCh7) (fun t1 k1 k2 => absurd k2 (by omega))
    rw [show fmn σ n0 = 3 from hgk]
    exact ⟨rfl, r, cf', th7, wf7, nf7, rfl, pg_n rfl (by decide) hP7, pg_s rfl, pg_n rfl (by decide) hTh7, pg_n rfl (by decide) hWa7, pg_n rfl (by decide) hNo7, hfb.up rfl (by decide) (by decide), hr⟩
  · refine lP_rk2_4 G sz hp7 (T := (fun g => σ (2 + g))) hP7 hWa7 hNo7 ig0 ig4 hw7 hn7 (fun r cf' hr => ?_) 5 0 cf hp7 (by omega) (by omega) (pu_self hCh7) (fun t1 k1 k2 => absurd k2 (by omega))
    rw [show fmn σ n0 = 4 from hgk]
    exact ⟨rfl, r, cf', th7, wf7, nf7, rfl, pg_n rfl (by decide) hP7, pg_s rfl, pg_n rfl (by decide) hTh7, pg_n rfl (by decide) hWa7, pg_n rfl (by decide) hNo7, hfb.up rfl (by decide) (by decide), hr⟩
  · refine lP_rk2_5 G sz hp7 (T := (fun g => σ (2 + g))) hP7 hWa7 hNo7 ig0 ig4 hw7 hn7 (fun r cf' hr => ?_) 6 0 cf hp7 (by omega) (by omega) (pu_self hCh7) (fun t1 k1 k2 => absurd k2 (by omega))
    rw [show fmn σ n0 = 5 from hgk]
    exact ⟨rfl, r, cf', th7, wf7, nf7, rfl, pg_n rfl (by decide) hP7, pg_s rfl, pg_n rfl (by decide) hTh7, pg_n rfl (by decide) hWa7, pg_n rfl (by decide) hNo7, hfb.up rfl (by decide) (by decide), hr⟩
  · refine lP_rk2_6 G sz hp7 (T := (fun g => σ (2 + g))) hP7 hWa7 hNo7 ig0 ig4 hw7 hn7 (fun r cf' hr => ?_) 7 0 cf hp7 (by omega) (by omega) (pu_self hCh7) (fun t1 k1 k2 => absurd k2 (by omega))
    rw [show fmn σ n0 = 6 from hgk]
    exact ⟨rfl, r, cf', th7, wf7, nf7, rfl, pg_n rfl (by decide) hP7, pg_s rfl, pg_n rfl (by decide) hTh7, pg_n rfl (by decide) hWa7, pg_n rfl (by decide) hNo7, hfb.up rfl (by decide) (by decide), hr⟩
theorem xD_fed (G : pd_G) (sz : Nat) (hp : pd_P) {to dr : Nat} {q : Nat → Int → Int} {v : Nat → Int} (hC : CW hp to dr q v) (hI : IN q v) {n : Int} (j_n : jR n) {k : Int} (j_k : jR k) : pd_c G mD_fed 9 [vr 1, vi n, vi k] sz hp (cPost hp sz ((q, v, rFed q n k))) := by
  refine pd_con kD_fed [some (vr 1), some (vi n), some (vi k), none] rfl rfl (Nat.le_of_ble_eq_true rfl) ?_
  obtain ⟨⟨ig0, ig4⟩, ⟨id0, id1, id2, id3⟩, iB, iM, iU, iF, iS, iP, iI, ⟨is0, is4, isx⟩, ⟨im0, im4, imx⟩, it0, it1⟩ := hI
  have k_n := j_n
  unfold jR at k_n
  have k_k := j_k
  unfold jR at k_k
  have hC0 := hC
  obtain ⟨hto, hDo, hTx, hHs, hHd, hLf, hI0, hI1, hGo, hPl⟩ := hC
  have hDo2 := hDo
  obtain ⟨hD, ⟨imf, hIm, him0, him1⟩, hKp, hSg, hSt, hGd, hGt⟩ := hDo2
  have hHs2 := hHs
  obtain ⟨fi, us, we, wo, stt, hHo, hag, hstt⟩ := hHs2
  have hHo2 := hHo
  obtain ⟨hH, hH1, hH2, hH3, hH4, hH5, hH6, hH7⟩ := hHo2
  have hLf2 := hLf
  obtain ⟨Q, hLi, hQ⟩ := hLf2
  have hL := hLi.1
  obtain ⟨hN, hNt, hNl, hNk⟩ := hLi.2.1
  have hPl2 := hPl
  obtain ⟨ln, gp, be, ch, th, wa, no, hBe, hP, hCh, hTh, hWa, hNo⟩ := hPl2
  refine pt_iload eD_fed_0 rfl ?_
  refine pt_ic eD_fed_1 ?_
  refine pt_ic eD_fed_2 ?_
  refine pt_ks3r eD_fed_4 (cD_within G sz _ (by unfold jR at *; omega) (by unfold jR at *; omega) (by unfold jR at *; omega)) (Nat.le_of_ble_eq_true rfl) (by decide) (Nat.le_refl _) (Nat.le_refl _) ?_
  refine pt_zeq eD_fed_7 (pwi_j _ _ _) (fun c7 => ?_) (fun c7 => ?_)
  · refine pt_ic eD_fed_19 ?_
    refine pt_iret eD_fed_20 (Nat.le_refl _) (Nat.le_refl _) ?_
    first
    | (have c7 := pwi_0 c7
       rw [show rFed q n k = -1 by unfold rFed; rw [if_pos (fun z => c7 z.1)]]
       exact ⟨rfl, rfl, ⟨to, dr, hC0⟩, fr.rf⟩)
    | (have c16 := pwi_0 c16
       rw [show rFed q n k = -1 by unfold rFed; rw [if_pos (fun z => c16 z.2)]]
       exact ⟨rfl, rfl, ⟨to, dr, hC0⟩, fr.rf⟩)
  · have c7 := pwi_1 c7
    refine pt_iload eD_fed_10 rfl ?_
    refine pt_ic eD_fed_11 ?_
    refine pt_ic eD_fed_12 ?_
    refine pt_ks3r eD_fed_13 (cD_within G sz _ (by unfold jR at *; omega) (by unfold jR at *; omega) (by unfold jR at *; omega)) (Nat.le_of_ble_eq_true rfl) (by decide) (Nat.le_refl _) (Nat.le_refl _) ?_
    refine pt_zne eD_fed_16 (pwi_j _ _ _) (fun c16 => ?_) (fun c16 => ?_)
    · have c16 := pwi_1 c16
      have i0 := iS.1
      have i20 := iS.2.1
      have hmn : ((fmn (q 17) n : Nat) : Int) = min (20 - q 17 0) n := Int.toNat_of_nonneg (by omega)
      have hrf : rFed q n k = if k = -1 then (fo (nxf (q 5) (q 8) (q 9) (q 17) (q 2 0) (q 2 1)) (q 3 0) (fmn (q 17) n) (fun g => q 17 (2 + g)) (5 ^ fmn (q 17) n)).1 else if (fo (nxf (q 5) (q 8) (q 9) (q 17) (q 2 0) (q 2 1)) (q 3 0) (fmn (q 17) n) (fun g => q 17 (2 + g)) (5 ^ fmn (q 17) n)).1 = -9 ∨ fmn (q 17) n ≤ k then -9 else fdg (fo (nxf (q 5) (q 8) (q 9) (q 17) (q 2 0) (q 2 1)) (q 3 0) (fmn (q 17) n) (fun g => q 17 (2 + g)) (5 ^ fmn (q 17) n)).2.toNat (fmn (q 17) n - 1 - k.toNat) := by unfold rFed; rw [if_neg (fun z => z ⟨c7, c16⟩)]
      refine pt_aload eD_fed_21 rfl ?_
      refine pt_get eD_fed_22 hD rfl ?_
      refine pt_aload eD_fed_25 rfl ?_
      refine pt_get eD_fed_26 hD rfl ?_
      refine pt_aload eD_fed_29 rfl ?_
      refine pt_get eD_fed_30 hD rfl ?_
      refine pt_get eD_fed_33 hL rfl ?_
      refine pt_iload eD_fed_36 rfl ?_
      refine pt_kv3 eD_fed_37 (cP_reckon G sz _ (by omega) hP hCh hTh hWa hNo hH hH5 hH6 hH2 hN hNt hNk ig0 ig4 id0 id1 id2 id3 iB iM iU iS (fun g h0 h1 => (hag g h0 h1).2.1) c7.1 c7.2) hP rfl (Nat.le_of_ble_eq_true rfl) (by decide) (Nat.le_refl _) (Nat.le_refl _) ?_
      rintro v2 sz2 hpx ⟨hz9, r, cf9, th9, wf9, nf9, rfl, hP, hCh, hTh, hWa, hNo, hfr, hrs⟩
      obtain rfl := hz9.symm
      have hD := hfr.at (by omega) hD
      obtain ⟨hr1, hr2⟩ := fRs_fo hrs
      have hfo := fo_r (N := nxf (q 5) (q 8) (q 9) (q 17) (q 2 0) (q 2 1)) (gd := q 3 0) (m := fmn (q 17) n) (s := fun g => q 17 (2 + g)) (5 ^ fmn (q 17) n)
      rw [hr1] at hrf hfo
      have hfin : (∃ to dr, CW hpx to dr q v) ∧ fr hp hpx 1 178 := ⟨⟨to, dr, hto, hDo.keep hfr (by omega), hTx.keep hfr (by omega), hHs.keep hfr (by omega), hHd.keep hfr (by omega), hLf.keep hfr (by omega), hI0.keep hfr (by omega), hI1.keep hfr (by omega), hGo.keep hfr (by omega), ⟨_, _, be, cf9, th9, wf9, nf9, hfr.at (by decide) hBe, hP, hCh, hTh, hWa, hNo⟩⟩, fun k hk => hfr k (by omega)⟩
      refine pt_istore3 eD_fed_40 rfl ?_
      refine pt_iload eD_fed_41 rfl ?_
      refine pt_ic eD_fed_42 ?_
      refine pt_ceq eD_fed_44 ⟨by omega, by omega⟩ ⟨by omega, by omega⟩ (fun c44 => ?_) (fun c44 => ?_)
      · refine pt_iload eD_fed_52 rfl ?_
        refine pt_iret eD_fed_53 (Nat.le_refl _) (Nat.le_refl _) ?_
        first
        | (rw [show rFed q n k = r by rw [hrf]; split; rfl; rw [if_pos (Or.inl c44)]; omega]
           exact ⟨rfl, rfl, hfin⟩)
        | (rw [show rFed q n k = r by rw [hrf, if_pos (by omega)]]
           exact ⟨rfl, rfl, hfin⟩)
      · refine pt_iload eD_fed_47 rfl ?_
        refine pt_ic eD_fed_48 ?_
        refine pt_cne eD_fed_49 ⟨by omega, by omega⟩ ⟨by omega, by omega⟩ (fun c49 => ?_) (fun c49 => ?_)
        · refine pt_iload eD_fed_54 rfl ?_
          refine pt_aload eD_fed_55 rfl ?_
          refine pt_get eD_fed_56 hD rfl ?_
          refine pt_get eD_fed_59 hP rfl ?_
          refine pt_cge eD_fed_62 ⟨by omega, by omega⟩ ⟨by omega, by omega⟩ (fun c62 => ?_) (fun c62 => ?_)
          · refine pt_ic eD_fed_77 ?_
            refine pt_iret eD_fed_79 (Nat.le_refl _) (Nat.le_refl _) ?_
            first
            | (have h8 := hr2 c44 k.toNat (by omega)
               rw [Int.toNat_of_nonneg (by omega)] at h8
               rw [show rFed q n k = _ by rw [hrf, if_neg c49, if_neg (by omega)], ← h8]
               exact ⟨rfl, rfl, hfin⟩)
            | (rw [show rFed q n k = -9 by rw [hrf, if_neg c49, if_pos (by omega)]]
               exact ⟨rfl, rfl, hfin⟩)
          · refine pt_aload eD_fed_65 rfl ?_
            refine pt_get eD_fed_66 hD rfl ?_
            refine pt_get eD_fed_69 hP rfl ?_
            refine pt_iload eD_fed_72 rfl ?_
            refine pt_iald eD_fed_73 hCh (by omega) (by omega) (by decide) ?_
            refine pt_goto eD_fed_74 ?_
            refine pt_iret eD_fed_79 (Nat.le_refl _) (Nat.le_refl _) ?_
            first
            | (have h8 := hr2 c44 k.toNat (by omega)
               rw [Int.toNat_of_nonneg (by omega)] at h8
               rw [show rFed q n k = _ by rw [hrf, if_neg c49, if_neg (by omega)], ← h8]
               exact ⟨rfl, rfl, hfin⟩)
            | (rw [show rFed q n k = -9 by rw [hrf, if_neg c49, if_pos (by omega)]]
               exact ⟨rfl, rfl, hfin⟩)
        · refine pt_iload eD_fed_52 rfl ?_
          refine pt_iret eD_fed_53 (Nat.le_refl _) (Nat.le_refl _) ?_
          first
          | (rw [show rFed q n k = r by rw [hrf]; split; rfl; rw [if_pos (Or.inl c44)]; omega]
             exact ⟨rfl, rfl, hfin⟩)
          | (rw [show rFed q n k = r by rw [hrf, if_pos (by omega)]]
             exact ⟨rfl, rfl, hfin⟩)
    · refine pt_ic eD_fed_19 ?_
      refine pt_iret eD_fed_20 (Nat.le_refl _) (Nat.le_refl _) ?_
      first
      | (have c7 := pwi_0 c7
         rw [show rFed q n k = -1 by unfold rFed; rw [if_pos (fun z => c7 z.1)]]
         exact ⟨rfl, rfl, ⟨to, dr, hC0⟩, fr.rf⟩)
      | (have c16 := pwi_0 c16
         rw [show rFed q n k = -1 by unfold rFed; rw [if_pos (fun z => c16 z.2)]]
         exact ⟨rfl, rfl, ⟨to, dr, hC0⟩, fr.rf⟩)
