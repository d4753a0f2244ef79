/-! an item, all items: the class -/
theorem lT_it (G : pd_G) (sz : Nat) (hp : pd_P) {h : Nat} {b tx : Int → Int} {n dt a : Int} (hh : 5 ≤ h) (hX : okX b n) (hb : ∀ i, 0 ≤ i → i < n → tx i = b i) (ha0 : 0 ≤ a) (ha1 : a ≤ n) {L gd ev bk : Int} (hL0 : 0 ≤ L) (hL1 : L ≤ 999) (hH0 : hp h = HO h gd ev bk) (hg0 : 0 ≤ gd) (hg4 : gd ≤ 4) {R : pd_R} (hf : ∀ (i : Nat) (hp0 : pd_P) (x y z : Int) (nu : Int → Int), i < nuN L → chF (-1) (okI b n gd L a) i = -1 → okI b n gd L a i ≠ 1 → hp0 2 = TO n x (tkp b n (tk b n a (i + 1))) y z dt → hp0 4 = ia 4 nu → LN hp hp0 → R (some (vi 0)) sz hp0) (hx : ∀ (hp0 : pd_P) (pl tok val : Int) (nu : Int → Int), chF (-1) (okI b n gd L a) (nuN L) = -1 → (∀ j : Nat, j < nuN L → nu j = tv b n (tk b n a (j + 1))) → hp0 2 = TO n (tk b n a (nuN L + 1)) pl tok val dt → hp0 4 = ia 4 nu → hp0 3 = ia 150 tx → LN hp hp0 → pd_t G mT_readItem 4 R 98 [some (vr 2), some (vr h), some (vi L), some (vi (nuN L : Int)), some (vi (nuN L : Int))] [] sz hp0) : ∀ (f i : Nat) (hp0 : pd_P) (pl tok val : Int) (nu : Int → Int), i + f = nuN L → chF (-1) (okI b n gd L a) i = -1 → (∀ j : Nat, j < i → nu j = tv b n (tk b n a (j + 1))) → hp0 2 = TO n (tk b n a (i + 1)) pl tok val dt → hp0 4 = ia 4 nu → hp0 3 = ia 150 tx → LN hp hp0 → pd_t G mT_readItem 4 R 32 [some (vr 2), some (vr h), some (vi L), some (vi (nuN L : Int)), some (vi (i : Int))] [] sz hp0 := by
  intro f
  induction f with
  | zero =>
    intro i hp0 pl tok val nu hif hch hnu hT hTn hTb hln
    have hi : i = nuN L := by omega
    have hn4 := nuN_b L
    subst hi
    refine pt_iload eT_readItem_32 rfl ?_
    refine pt_iload eT_readItem_34 rfl ?_
    refine pt_cge eT_readItem_35 ⟨by omega, by omega⟩ ⟨by omega, by omega⟩ (fun c35 => ?_) (fun c35 => ?_)
    · exact hx hp0 pl tok val nu hch hnu hT hTn hTb hln
    · exfalso; omega
  | succ f ih =>
    intro i hp0 pl tok val nu hif hch hnu hT hTn hTb hln
    have hn4 := nuN_b L
    have hH : hp0 h = HO h gd ev bk := hln.at (by omega) hH0
    have hkr := tk_r hX ha0 ha1 (i + 1)
    have hts := (te_r hX (show 0 ≤ tk b n a (i + 1) by omega) hkr.2).2.2.2.2.2
    have hck := ctk_b hts
    have hlb := loN_b L i
    have hhb := hiN_b (gd := gd) (L := L) (i := i) ⟨hg0, hg4⟩
    refine pt_iload eT_readItem_32 rfl ?_
    refine pt_iload eT_readItem_34 rfl ?_
    refine pt_cge eT_readItem_35 ⟨by omega, by omega⟩ ⟨by omega, by omega⟩ (fun c35 => ?_) (fun c35 => ?_)
    · exfalso; omega
    · refine pt_iload eT_readItem_38 rfl ?_
      refine pt_ic eT_readItem_40 ?_
      refine pt_cge eT_readItem_41 ⟨by omega, by omega⟩ ⟨by omega, by omega⟩ (fun c41 => ?_) (fun c41 => ?_)
      · exfalso; omega
      · refine pt_aload eT_readItem_44 rfl ?_
        refine pt_kv0 eT_readItem_45 (cT_next G sz _ hTb hX hb hT (show 0 ≤ tk b n a (i + 1) by omega) (by omega)) hT rfl (Nat.le_of_ble_eq_true rfl) (by decide) (Nat.le_refl _) (Nat.le_refl _) ?_
        rintro v2 sz2 hpx ⟨rfl, hz9, x, hx9, hxv, hx0, hx1⟩
        obtain rfl := hz9.symm
        have hT := pg_s hx9
        have hTb := pg_n hx9 (by decide) hTb
        have hTn := pg_n hx9 (by decide) hTn
        have hH := pg_n hx9 (by omega) hH
        have hln1 := hln.up hx9 (by omega)
        refine pt_aload eT_readItem_48 rfl ?_
        refine pt_get eT_readItem_49 hT rfl ?_
        refine pt_ic eT_readItem_52 ?_
        refine pt_cne eT_readItem_53 ⟨by omega, by omega⟩ ⟨by omega, by omega⟩ (fun c53 => ?_) (fun c53 => ?_)
        · refine pt_ic eT_readItem_79 ?_
          refine pt_iret (eT_readItem_80 (by omega)) (Nat.le_refl _) (Nat.le_refl _) ?_
          refine hf i hpx _ _ _ nu (by omega) hch ?_ hT hTn hln1
          unfold okI okt
          first
          | (rw [if_neg (fun z => c53 (by omega))]; decide)
          | (have c76 := pwi_0 c76
             rw [if_neg (fun z => c76 ⟨by rw [hxe]; exact z.2.1, by rw [hxe]; exact z.2.2⟩)]; decide)
        · have hxe : x = tv b n (tk b n a (i + 1)) := hxv (by omega)
          refine pt_aload eT_readItem_56 rfl ?_
          refine pt_get eT_readItem_57 hT rfl ?_
          refine pt_iload eT_readItem_60 rfl ?_
          refine pt_iload eT_readItem_61 rfl ?_
          refine pt_ks2r eT_readItem_63 (cT_leastOf G sz _ hL0 hL1 (by omega)) (Nat.le_of_ble_eq_true rfl) (by decide) (Nat.le_refl _) (Nat.le_refl _) ?_
          refine pt_aload eT_readItem_66 rfl ?_
          refine pt_iload eT_readItem_67 rfl ?_
          refine pt_iload eT_readItem_68 rfl ?_
          refine pt_ks3r eT_readItem_70 (cT_mostOf G sz _ hH hL0 hL1 (by omega)) (Nat.le_of_ble_eq_true rfl) (by decide) (Nat.le_refl _) (Nat.le_refl _) ?_
          refine pt_ks3r eT_readItem_73 (cD_within G sz _ ⟨by omega, by omega⟩ ⟨by omega, by omega⟩ ⟨by omega, by omega⟩) (Nat.le_of_ble_eq_true rfl) (by decide) (Nat.le_refl _) (Nat.le_refl _) ?_
          refine pt_zne eT_readItem_76 (pwi_j _ _ _) (fun c76 => ?_) (fun c76 => ?_)
          · have c76 := pwi_1 c76
            refine pt_aload eT_readItem_81 rfl ?_
            refine pt_get eT_readItem_82 hT rfl ?_
            refine pt_iload eT_readItem_85 rfl ?_
            refine pt_aload eT_readItem_87 rfl ?_
            refine pt_get eT_readItem_88 hT rfl ?_
            refine pt_iast eT_readItem_91 hTn (by omega) (by omega) (by decide) ?_
            refine pt_gen ?_
            intro hp2 ev2
            have hT := pg_n ev2 (by omega) hT
            have hTn := pg_s ev2
            have hH := pg_n ev2 (by omega) hH
            refine pt_inc4 eT_readItem_92 rfl ?_
            refine pt_goto eT_readItem_95 ?_
            have hok : okI b n gd L a i = 1 := by
              unfold okI okt
              rw [if_pos ⟨by omega, by rw [← hxe]; exact c76.1, by rw [← hxe]; exact c76.2⟩]
            refine ih (i + 1) hp2 _ _ _ _ (by omega) ?_ ?_ hT hTn (pg_n ev2 (by decide) hTb) (hln1.up ev2 (by omega))
            · show upF (chF (-1) (okI b n gd L a) i) (i + 1) (okI b n gd L a i) = -1
              rw [hch, upF_1 hok]
            · intro j hj
              by_cases hji : j = i
              · rw [hji, uI_s, hxe]
              · rw [uI_n _ _ (by omega)]
                exact hnu j (by omega)
          · refine pt_ic eT_readItem_79 ?_
            refine pt_iret (eT_readItem_80 (by omega)) (Nat.le_refl _) (Nat.le_refl _) ?_
            refine hf i hpx _ _ _ nu (by omega) hch ?_ hT hTn hln1
            unfold okI okt
            first
            | (rw [if_neg (fun z => c53 (by omega))]; decide)
            | (have c76 := pwi_0 c76
               rw [if_neg (fun z => c76 ⟨by rw [hxe]; exact z.2.1, by rw [hxe]; exact z.2.2⟩)]; decide)
def iPost (hp : pd_P) (sz h : Nat) (b : Int → Int) (n a dt : Int) (r : Nat → Int → Int) : pd_R := fun v' sz' hp' => sz' = sz ∧ FR h hp hp' ∧ (∃ nu : Int → Int, hp' 4 = ia 4 nu) ∧ ((0 ≤ ifl b n (r 3 1) dt a ∧ v' = some (vi 0) ∧ (∃ x y z, hp' 2 = TO n x (tkp b n (tk b n a (ifl b n (r 3 1) dt a).toNat)) y z dt) ∧ HR hp' h r) ∨ (ifl b n (r 3 1) dt a = -1 ∧ v' = some (vi 1) ∧ (∃ x y z, hp' 2 = TO n (tk b n a (nuN (tv b n a) + 2)) x y z (iph dt (tv b n a))) ∧ HR hp' h (ipa b n r a)))
theorem ipq_nu {r : Nat → Int → Int} {L x0 x1 x2 x3 : Int} {nu : Int → Int} (h : ∀ j : Nat, j < nuN L → nu j = (fun k : Nat => if k = 0 then x0 else if k = 1 then x1 else if k = 2 then x2 else x3) j) (hL : L = 103 ∨ L = 98 ∨ L = 109 ∨ L = 100) : ipq r L (nu 0) (nu 1) (nu 2) (nu 3) = ipq r L x0 x1 x2 x3 := by
  have h0 : nu 0 = x0 := h 0 (by have := nuN_b L; omega)
  have h1 : nu 1 = x1 := h 1 (by have := nuN_b L; omega)
  rcases hL with rfl | rfl | rfl | rfl
  · have h2 : nu 2 = x2 := h 2 (by decide)
    have h3 : nu 3 = x3 := h 3 (by decide)
    rw [h0, h1, h2, h3]
  · have h2 : nu 2 = x2 := h 2 (by decide)
    show roq r 8 _ _ _ = roq r 8 _ _ _
    rw [h0, h1, h2]
  · have h2 : nu 2 = x2 := h 2 (by decide)
    show roq r 9 _ _ _ = roq r 9 _ _ _
    rw [h0, h1, h2]
  · show rdq r _ _ = rdq r _ _
    rw [h0, h1]
theorem cT_readItem (G : pd_G) (sz : Nat) (hp : pd_P) {h : Nat} {b tx : Int → Int} {n dt a : Int} (hh : 5 ≤ h) (hX : okX b n) (hb : ∀ i, 0 ≤ i → i < n → tx i = b i) (ha0 : 0 ≤ a) (ha1 : a ≤ n) {x : Int} {nu : Int → Int} {r : Nat → Int → Int} (hTb : hp 3 = ia 150 tx) (hT : hp 2 = TO n (te b n a) (tkp b n a) (ctk (ts b n a)) x dt) (hTn : hp 4 = ia 4 nu) (hxv : ts b n a = 1 ∨ ts b n a = 2 → x = tv b n a) (hx0 : 0 ≤ x) (hx1 : x ≤ 999) (hHR : HR hp h r) (hg0 : 0 ≤ r 3 1) (hg4 : r 3 1 ≤ 4) (hd : dt = 0 ∨ dt = 1) : pd_c G mT_readItem 4 [vr 2, vr h] sz hp (iPost hp sz h b n a dt r) := by
  refine pd_con kT_readItem [some (vr 2), some (vr h), none, none, none] rfl rfl (Nat.le_of_ble_eq_true rfl) ?_
  have hHR2 := hHR
  obtain ⟨fi, us, we, wo, br, ms, st, ⟨hH, -⟩, -⟩ := hHR2
  have hvr := te_r hX ha0 ha1
  have hck := ctk_b hvr.2.2.2.2.2
  have hbe0 : ∀ z : beI b n (r 3 1) dt a ≠ 1, iPost hp sz h b n a dt r (some (vi 0)) sz hp := fun z => ⟨rfl, FR.rf, ⟨nu, hTn⟩, Or.inl ⟨by rw [ifl_0 z]; exact Int.le_refl 0, rfl, ⟨_, _, _, by rw [ifl_0 z]; exact hT⟩, hHR⟩⟩
  refine pt_aload eT_readItem_0 rfl ?_
  refine pt_get eT_readItem_1 hT rfl ?_
  refine pt_istore2 eT_readItem_4 rfl ?_
  refine pt_aload eT_readItem_5 rfl ?_
  refine pt_get eT_readItem_6 hT rfl ?_
  refine pt_ic eT_readItem_9 ?_
  refine pt_cne eT_readItem_10 ⟨by omega, by omega⟩ ⟨by omega, by omega⟩ (fun c10 => ?_) (fun c10 => ?_)
  · refine pt_ic eT_readItem_22 ?_
    refine pt_iret (eT_readItem_23 (by omega)) (Nat.le_refl _) (Nat.le_refl _) ?_
    first
    | exact hbe0 (by unfold beI; rw [if_neg (by omega)]; decide)
    | exact hbe0 (by unfold beI; rw [if_pos (by omega), ← hxv (by omega), c19]; decide)
  · refine pt_aload eT_readItem_13 rfl ?_
    refine pt_aload eT_readItem_14 rfl ?_
    refine pt_iload eT_readItem_15 rfl ?_
    refine pt_kv2r eT_readItem_16 (cT_canBegin G sz _ hT hH hg0 hg4 hd hx0 hx1) hT rfl (Nat.le_of_ble_eq_true rfl) (by decide) (Nat.le_refl _) (Nat.le_refl _) ?_
    refine pt_zne eT_readItem_19 ⟨by have := mayf_01 (r 3 1) dt x; omega, by have := mayf_01 (r 3 1) dt x; omega⟩ (fun c19 => ?_) (fun c19 => ?_)
    · have hxe : x = tv b n a := hxv (by omega)
      subst hxe
      refine pt_iload eT_readItem_24 rfl ?_
      refine pt_ks1r eT_readItem_25 (cT_numbersOf G sz _ hvr.2.2.2.2.1.1 hvr.2.2.2.2.1.2) (Nat.le_of_ble_eq_true rfl) (by decide) (Nat.le_refl _) (Nat.le_refl _) ?_
      refine pt_istore3 eT_readItem_28 rfl ?_
      refine pt_ic eT_readItem_29 ?_
      refine pt_istore4 eT_readItem_30 rfl ?_
      have hbe : beI b n (r 3 1) dt a = 1 := by
        unfold beI
        rw [if_pos (by omega)]
        have := mayf_01 (r 3 1) dt (tv b n a)
        omega
      have hL4 := (beI_1 hbe).2
      refine lT_it G sz hp hh hX hb ha0 ha1 (L := tv b n a) (gd := r 3 1) hvr.2.2.2.2.1.1 hvr.2.2.2.2.1.2 hH hg0 hg4 ?_ ?_ (nuN (tv b n a)) 0 hp (tkp b n a) (ctk (ts b n a)) (tv b n a) nu (by omega) rfl (fun j hj => absurd hj (by omega)) hT hTn hTb LN.rf
      · intro i hp0 x y z nu2 hi hch hok k1 k2 k3
        have hF := ifl_f hbe hi hch hok
        exact ⟨rfl, fun k q2 q4 _ => k3 k q2 q4, ⟨nu2, k2⟩, Or.inl ⟨by rw [hF]; omega, rfl, ⟨x, y, z, by rw [hF, Int.toNat_natCast]; exact k1⟩, hHR.ln k3 hh⟩⟩
      · intro hp0 pl tok val nu2 hch hnu hT hTn hTb hln
        have hkr := tk_r hX ha0 ha1 (nuN (tv b n a) + 1)
        have hts := (te_r hX (show 0 ≤ tk b n a (nuN (tv b n a) + 1) by omega) hkr.2).2.2.2.2.2
        have hck2 := ctk_b hts
        refine pt_aload eT_readItem_98 rfl ?_
        refine pt_kv0 eT_readItem_99 (cT_next G sz _ hTb hX hb hT (show 0 ≤ tk b n a (nuN (tv b n a) + 1) by omega) (by omega)) hT rfl (Nat.le_of_ble_eq_true rfl) (by decide) (Nat.le_refl _) (Nat.le_refl _) ?_
        rintro v2 sz2 hpx ⟨rfl, hz9, x, hx9, hxv, hx0, hx1⟩
        obtain rfl := hz9.symm
        have hT := pg_s hx9
        have hTb := pg_n hx9 (by decide) hTb
        have hTn := pg_n hx9 (by decide) hTn
        have hln1 := hln.up hx9 (by omega)
        refine pt_aload eT_readItem_102 rfl ?_
        refine pt_get eT_readItem_103 hT rfl ?_
        refine pt_ic eT_readItem_106 ?_
        refine pt_ceq eT_readItem_107 ⟨by omega, by omega⟩ ⟨by omega, by omega⟩ (fun c107 => ?_) (fun c107 => ?_)
        · refine pt_aload eT_readItem_112 rfl ?_
          refine pt_aload eT_readItem_113 rfl ?_
          refine pt_iload eT_readItem_114 rfl ?_
          refine pt_kv2 eT_readItem_115 (cT_put G sz _ hh hT hTn (hHR.ln hln1 hh) hg0 hg4 (L := tv b n a) (by omega) (fun i hi => by rw [hnu i hi]; exact okI_1 (chF_1 _ hch i hi))) hT rfl (Nat.le_of_ble_eq_true rfl) (by decide) (Nat.le_refl _) (Nat.le_refl _) ?_
          rintro v2 sz2 hpy ⟨rfl, hz9, p1, p2, p3, p4⟩
          obtain rfl := hz9.symm
          refine pt_ic eT_readItem_118 ?_
          refine pt_iret (eT_readItem_119 (by omega)) (Nat.le_refl _) (Nat.le_refl _) ?_
          have hF := ifl_k hbe hch (by unfold enI; rw [if_pos (by omega)])
          refine ⟨rfl, fun k q2 q4 q5 => (p4 k q2 q4 q5).trans (hln1 k q2 q4), ⟨nu2, p2⟩, Or.inr ⟨hF, rfl, ⟨_, _, _, p1⟩, ?_⟩⟩
          rw [ipq_nu (x0 := tv b n (tk b n a 1)) (x1 := tv b n (tk b n a 2)) (x2 := tv b n (tk b n a 3)) (x3 := tv b n (tk b n a 4)) (fun j hj => ?_) (by omega)] at p3
          · exact p3
          · rw [hnu j hj]
            have := nuN_b (tv b n a)
            rcases (show j = 0 ∨ j = 1 ∨ j = 2 ∨ j = 3 by omega) with rfl | rfl | rfl | rfl <;> rfl
        · refine pt_ic eT_readItem_110 ?_
          refine pt_iret (eT_readItem_111 (by omega)) (Nat.le_refl _) (Nat.le_refl _) ?_
          have hF := ifl_e hbe hch (by unfold enI; rw [if_neg (by omega)]; decide)
          exact ⟨rfl, fun k q2 q4 _ => hln1 k q2 q4, ⟨nu2, hTn⟩, Or.inl ⟨by rw [hF]; omega, rfl, ⟨_, _, _, by rw [hF, Int.toNat_natCast]; exact hT⟩, hHR.ln hln1 hh⟩⟩
    · refine pt_ic eT_readItem_22 ?_
      refine pt_iret (eT_readItem_23 (by omega)) (Nat.le_refl _) (Nat.le_refl _) ?_
      first
      | exact hbe0 (by unfold beI; rw [if_neg (by omega)]; decide)
      | exact hbe0 (by unfold beI; rw [if_pos (by omega), ← hxv (by omega), c19]; decide)
def teP (hp : pd_P) (sz h : Nat) (n : Int) (r0 : Int × (Nat → Int → Int)) : pd_R := fun v' sz' hp' => v' = some (vi r0.1) ∧ sz' = sz ∧ (∃ (nu : Int → Int) (a b c d e : Int), hp' 2 = TO n a b c d e ∧ hp' 4 = ia 4 nu) ∧ HdA hp' h ∧ (0 ≤ r0.1 → HR hp' h r0.2) ∧ FR h hp hp'
theorem lT_te (G : pd_G) (sz : Nat) (hp : pd_P) {h : Nat} {b tx : Int → Int} {n : Int} {r0 : Int × (Nat → Int → Int)} (hh : 5 ≤ h) (hX : okX b n) (hb : ∀ i, 0 ≤ i → i < n → tx i = b i) : ∀ (f : Nat) (k a pl tok val dt : Int) (nu : Int → Int) (r : Nat → Int → Int) (hp0 : pd_P), 0 ≤ a → a ≤ n → n - a < f → 0 ≤ k → k + f = 151 → hp0 2 = TO n a pl tok val dt → hp0 4 = ia 4 nu → hp0 3 = ia 150 tx → HR hp0 h r → DIN r → FR h hp hp0 → (dt = 0 ∨ dt = 1) → rdf b n f r dt a k = r0 → pd_t G mT_tell 5 (teP hp sz h n r0) 16 [some (vr 2), some (vr h), some (vi k)] [] sz hp0 := by
  intro f
  induction f with
  | zero => intro k a pl tok val dt nu r hp0 ha0 ha1 haf; omega
  | succ f ih =>
    intro k a pl tok val dt nu r hp0 ha0 ha1 haf hk0 hkf hT hTn hTb hHR hD hfr hd hrd
    rw [rdf] at hrd
    have hvr := te_r hX ha0 ha1
    have hck := ctk_b hvr.2.2.2.2.2
    refine pt_iload eT_tell_16 rfl ?_
    refine pt_ic eT_tell_17 ?_
    refine pt_cgt eT_tell_20 ⟨by omega, by omega⟩ ⟨by omega, by omega⟩ (fun c20 => ?_) (fun c20 => ?_)
    · exfalso; omega
    · refine pt_aload eT_tell_23 rfl ?_
      refine pt_kv0 eT_tell_24 (cT_next G sz _ hTb hX hb hT (show 0 ≤ a by omega) (by omega)) hT rfl (Nat.le_of_ble_eq_true rfl) (by decide) (Nat.le_refl _) (Nat.le_refl _) ?_
      rintro v2 sz2 hpx ⟨rfl, hz9, x, hx9, hxv, hx0, hx1⟩
      obtain rfl := hz9.symm
      have hT := pg_s hx9
      have hTb := pg_n hx9 (by decide) hTb
      have hTn := pg_n hx9 (by decide) hTn
      have hln1 : LN hp0 hpx := LN.rf.up hx9 (by omega)
      have hHR1 := hHR.ln hln1 hh
      have hfr1 : FR h hp hpx := fun k q2 q4 q5 => (hln1 k q2 q4).trans (hfr k q2 q4 q5)
      refine pt_aload eT_tell_27 rfl ?_
      refine pt_get eT_tell_28 hT rfl ?_
      refine pt_zne eT_tell_31 ⟨by omega, by omega⟩ (fun c31 => ?_) (fun c31 => ?_)
      · refine pt_aload eT_tell_36 rfl ?_
        refine pt_aload eT_tell_37 rfl ?_
        refine pt_kv1 eT_tell_38 (cT_readItem G sz _ hh hX hb ha0 ha1 hTb hT hTn hxv hx0 hx1 hHR1 hD.1.1 hD.1.2 hd) hT rfl (Nat.le_of_ble_eq_true rfl) (by decide) (Nat.le_refl _) (Nat.le_refl _) ?_
        rintro v2 sz2 hpy ⟨hz9, hf2, ⟨nu2, hTn⟩, hor⟩
        obtain rfl := hz9.symm
        have hTb := hf2.at (by omega) hTb
        have hfr2 := hfr1.tr hf2
        rcases hor with ⟨i1, rfl, ⟨x2, y2, z2, hT⟩, i4⟩ | ⟨i1, rfl, ⟨x2, y2, z2, hT⟩, i4⟩
        · refine pt_zne (x := 0) eT_tell_41 ⟨by decide, by decide⟩ (fun c => absurd rfl c) (fun _ => ?_)
          refine pt_ic eT_tell_44 ?_
          refine pt_aload eT_tell_46 rfl ?_
          refine pt_get eT_tell_47 hT rfl ?_
          refine pt_isub eT_tell_50 ?_
          refine pt_iret eT_tell_51 (Nat.le_refl _) (Nat.le_refl _) ?_
          rw [if_neg (show ¬ ts b n a = 4 by omega), if_pos i1] at hrd
          rw [← hrd]
          have hkr := tk_r hX ha0 ha1 (ifl b n (r 3 1) dt a).toNat
          have htp := te_r hX (show 0 ≤ tk b n a (ifl b n (r 3 1) dt a).toNat by omega) hkr.2
          refine ⟨rfl, rfl, ⟨nu2, _, _, _, _, _, hT, hTn⟩, i4.Hd, fun hz => ?_, hfr2⟩
          have hz2 : 0 ≤ -10 - tkp b n (tk b n a (ifl b n (r 3 1) dt a).toNat) := hz
          omega
        · refine pt_zne (x := 1) eT_tell_41 ⟨by decide, by decide⟩ (fun _ => ?_) (fun c => absurd c (by decide))
          refine pt_inc2 eT_tell_52 rfl ?_
          refine pt_goto eT_tell_55 ?_
          rw [if_neg (show ¬ ts b n a = 4 by omega), if_neg (by omega)] at hrd
          have hD2 := (ipa_ok hD i1).1
          have hlt : a < tk b n a (nuN (tv b n a) + 2) := tk_lt hX ha0 ha1 (by omega) (nuN (tv b n a) + 1)
          have hle := tk_r hX ha0 ha1 (nuN (tv b n a) + 2)
          refine ih (k + 1) (tk b n a (nuN (tv b n a) + 2)) _ _ _ _ _ (ipa b n r a) hpy (by omega) hle.2 (by omega) (by omega) (by omega) hT hTn hTb i4 hD2 hfr2 ?_ hrd
          unfold iph
          split
          · exact Or.inr rfl
          · exact hd
      · refine pt_iload eT_tell_34 rfl ?_
        refine pt_iret eT_tell_35 (Nat.le_refl _) (Nat.le_refl _) ?_
        rw [if_pos (show ts b n a = 4 by omega)] at hrd
        rw [← hrd]
        exact ⟨rfl, rfl, ⟨nu, _, _, _, _, _, hT, hTn⟩, hHR1.Hd, fun _ => hHR1, hfr1⟩
theorem cT_tell (G : pd_G) (sz : Nat) (hp : pd_P) {h : Nat} {b tx nu : Int → Int} {n x1 x2 x3 x4 x5 : Int} (q : Nat → Int → Int) (hh : 5 ≤ h) (hX : okX b n) (hb : ∀ i, 0 ≤ i → i < n → tx i = b i) (hTb : hp 3 = ia 150 tx) (hT : hp 2 = TO n x1 x2 x3 x4 x5) (hTn : hp 4 = ia 4 nu) (hHd : HdA hp h) : pd_c G mT_tell 5 [vr 2, vr h] sz hp (teP hp sz h n (rdf b n 151 (rq0 q) 0 0 0)) := by
  refine pd_con kT_tell [some (vr 2), some (vr h), none] rfl rfl (Nat.le_of_ble_eq_true rfl) ?_
  obtain ⟨gd, ev, bk, fi0, us0, we0, wo0, br0, ms0, st0, hH, hHx⟩ := hHd
  have hHd : HdA hp h := ⟨gd, ev, bk, fi0, us0, we0, wo0, br0, ms0, st0, hH, hHx⟩
  have hX0 := hX.1
  refine pt_aload eT_tell_0 rfl ?_
  refine pt_kv0 eT_tell_1 (cH_empty G sz _ hHd) hH rfl (Nat.le_of_ble_eq_true rfl) (by decide) (Nat.le_refl _) (Nat.le_refl _) ?_
  rintro v2 sz2 hpx ⟨rfl, hz9, ⟨fi, us, we, wo, br, ms, st, hHo, hz⟩, hfe⟩
  obtain rfl := hz9.symm
  have hT := hfe.at (by omega) hT
  have hTn := hfe.at (by omega) hTn
  have hTb := hfe.at (by omega) hTb
  have hH := hHo.1
  have hHR : HR hpx h (rq0 q) := by
    refine ⟨fi, us, we, wo, br, ms, st, hHo, fun g g0 g1 => ?_, fun k k0 k1 => ?_⟩
    · have g2 : g < 0 := g1
      omega
    · show br k = blk (q 8) (fun _ => 0) 80 80 (80 + k) ∧ ms k = blk (q 9) (fun _ => 0) 80 80 (80 + k)
      rw [blk_in (by omega) (by omega), blk_in (by omega) (by omega)]
      exact hz k k0 k1
  refine pt_aload eT_tell_4 rfl ?_
  refine pt_ic eT_tell_5 ?_
  refine pt_put3 eT_tell_6 hT trivial ?_
  refine pt_gen ?_
  intro hp2 ev2
  have hT := pg_s ev2
  have hTn := pg_n ev2 (by omega) hTn
  have hTb := pg_n ev2 (by omega) hTb
  have hH := pg_n ev2 (by omega) hH
  refine pt_aload eT_tell_9 rfl ?_
  refine pt_ic eT_tell_10 ?_
  refine pt_put7 eT_tell_11 hT (Or.inl rfl) ?_
  refine pt_gen ?_
  intro hp3 ev3
  have hT := pg_s ev3
  have hTn := pg_n ev3 (by omega) hTn
  have hTb := pg_n ev3 (by omega) hTb
  have hH := pg_n ev3 (by omega) hH
  refine pt_ic eT_tell_14 ?_
  refine pt_istore2 eT_tell_15 rfl ?_
  have hln : LN hpx hp3 := ((LN.rf.up ev2 (by omega)).up ev3 (by omega))
  exact lT_te G sz hp hh hX hb 151 0 0 _ _ _ _ nu (rq0 q) hp3 (Int.le_refl 0) hX0.1 (by omega) (by omega) (by omega) hT hTn hTb (hHR.ln hln hh) rq0_D ((FR.ofH hfe).tr (FR.ofL hln)) (Or.inl rfl) rfl
