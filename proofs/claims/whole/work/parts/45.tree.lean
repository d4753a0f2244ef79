/-! by which takings nobody is hungry: the class's trees -/
def tn (N : NX) (g t0 : Int) : Nat → Nat → Int
  | 0, _ => t0
  | l + 1, x => N l g ((x % 2 : Nat) : Int) (tn N g t0 l (x / 2))
theorem tn_0 {N : NX} {g t0 : Int} {l x : Nat} : tn N g t0 (l + 1) (2 * x) = N l g 0 (tn N g t0 l x) := by
  rw [tn, show 2 * x % 2 = 0 by omega, show 2 * x / 2 = x by omega]
  rfl
theorem tn_1 {N : NX} {g t0 : Int} {l x : Nat} : tn N g t0 (l + 1) (2 * x + 1) = N l g 1 (tn N g t0 l x) := by
  rw [tn, show (2 * x + 1) % 2 = 1 by omega, show (2 * x + 1) / 2 = x by omega]
  rfl
theorem rsg_b {us br ms : Int → Int} {d g t gd : Int} (h0 : 0 ≤ g) (h1 : g < gd) (h4 : gd ≤ 4) (hb : okB br) (hm : okB ms) (hu : okU gd us) (d0 : 0 ≤ d) (d1 : d < 20) (t0 : 0 ≤ t) (t1 : t ≤ 999) : -1 ≤ rsg us br ms d g t ∧ rsg us br ms d g t ≤ 999 := by
  have k1 := hb (4 * d + g) (by omega) (by omega)
  have k2 := hm (4 * d + g) (by omega) (by omega)
  have k3 := hu g h0 h1
  have e : rsf t (br (4 * d + g)) (ms (4 * d + g)) (us g) = max 0 (min (t + br (4 * d + g)) 999 - ms (4 * d + g)) - us g := rfl
  unfold rsg
  split <;> omega
theorem nxf_b {us br ms σ : Int → Int} {ev bk l g b t gd : Int} (h0 : 0 ≤ g) (h1 : g < gd) (h4 : gd ≤ 4) (hb : okB br) (hm : okB ms) (hu : okU gd us) (d0 : 0 ≤ σ 0 + l) (d1 : σ 0 + l < 20) (t0 : -1 ≤ t) (t1 : t ≤ 999) : -1 ≤ nxf us br ms σ ev bk l g b t ∧ nxf us br ms σ ev bk l g b t ≤ 999 := by
  unfold nxf
  by_cases c1 : t = -1
  · rw [if_pos c1]; omega
  · rw [if_neg c1]
    by_cases c2 : b = 0
    · rw [if_pos c2]
      exact rsg_b h0 h1 h4 hb hm hu d0 d1 (by omega) t1
    · rw [if_neg c2]
      by_cases c3 : opnf ev bk ms σ (σ 0 + l) g ≤ 0
      · rw [if_pos c3]; omega
      · rw [if_neg c3]
        exact rsg_b h0 h1 h4 hb hm hu d0 d1 (by omega) (by omega)
theorem tn_b {us br ms σ : Int → Int} {ev bk g gd t0 : Int} (h0 : 0 ≤ g) (h1 : g < gd) (h4 : gd ≤ 4) (hb : okB br) (hm : okB ms) (hu : okU gd us) (d0 : 0 ≤ σ 0) (ht : 0 ≤ t0 ∧ t0 ≤ 999) : ∀ (l x : Nat), σ 0 + l ≤ 20 → -1 ≤ tn (nxf us br ms σ ev bk) g t0 l x ∧ tn (nxf us br ms σ ev bk) g t0 l x ≤ 999
  | 0, x, _ => by show -1 ≤ t0 ∧ t0 ≤ 999; omega
  | l + 1, x, hl => by
    have h := tn_b (ev := ev) (bk := bk) h0 h1 h4 hb hm hu d0 ht l (x / 2) (by omega)
    rw [tn]
    exact nxf_b h0 h1 h4 hb hm hu (by omega) (by omega) h.1 h.2
theorem jI_sh2 {i : Nat} (h1 : i < 30) : jI 2 <<< (jI (i : Int) &&& 31) = jI ((2 ^ (i + 1) : Nat) : Int) := by
  have hp : 2 ^ i ≤ 2 ^ 30 := Nat.pow_le_pow_right (by decide) (by omega)
  have h := jI_shl (x := 2) (y := i) (by omega) (by omega)
  rw [show 2 * 2 ^ i = 2 ^ (i + 1) by rw [Nat.pow_succ, Nat.mul_comm]] at h
  exact h
theorem jI_shn {i : Nat} (h1 : i < 31) : jI 1 <<< (jI (i : Int) &&& 31) = jI ((2 ^ i : Nat) : Int) := jI_sh1 (i := (i : Int)) (by omega) (by omega)
theorem p2_le {l n : Nat} (h : l ≤ n) : 2 ^ l ≤ 2 ^ n := Nat.pow_le_pow_right (by decide) h
theorem p2_s (l : Nat) : 2 ^ (l + 1) = 2 * 2 ^ l := by rw [Nat.pow_succ, Nat.mul_comm]
theorem rsg_u {us uq br ms : Int → Int} {d g t : Int} (h : us g = uq g) : (if rsf t (br (4 * d + g)) (ms (4 * d + g)) (us g) < 0 then -1 else rsf t (br (4 * d + g)) (ms (4 * d + g)) (us g)) = rsg uq br ms d g t := by rw [h]; rfl
theorem nx_0 {us br ms σ : Int → Int} {ev bk l g t : Int} (h : ¬ t = -1) : nxf us br ms σ ev bk l g 0 t = rsg us br ms (σ 0 + l) g t := by
  unfold nxf
  rw [if_neg h, if_pos rfl]
theorem nx_1n {us br ms σ : Int → Int} {ev bk l g t : Int} (h : ¬ t = -1) (h2 : opnf ev bk ms σ (σ 0 + l) g ≤ 0) : nxf us br ms σ ev bk l g 1 t = -1 := by
  unfold nxf
  rw [if_neg h, if_neg (by omega), if_pos h2]
theorem nx_1y {us br ms σ : Int → Int} {ev bk l g t : Int} (h : ¬ t = -1) (h2 : ¬ opnf ev bk ms σ (σ 0 + l) g ≤ 0) : nxf us br ms σ ev bk l g 1 t = rsg us br ms (σ 0 + l) g (min 999 (t + opnf ev bk ms σ (σ 0 + l) g)) := by
  unfold nxf
  rw [if_neg h, if_neg (by omega), if_neg h2]
theorem nx_m {us br ms σ : Int → Int} {ev bk l g b t : Int} (h : t = -1) : -1 = nxf us br ms σ ev bk l g b t := by rw [h, nxf_m]
theorem lP_gt1 (G : pd_G) (sz : Nat) (hp : pd_P) {to : Nat} {gd ev bk gp : Int} {br ms us uq σ : Int → Int} {L : Nat} {g : Int} (hto : 63 ≤ to) (hP : hp 58 = PO (L : Int) gp) (hH : hp to = HO to gd ev bk) (hH5 : hp (to + 5) = ia 80 br) (hH6 : hp (to + 6) = ia 80 ms) (hH2 : hp (to + 2) = ia 4 us) (hN : hp (5 + 1) = SO (5 + 1) (σ 0) (σ 1)) (hNt : hp (5 + 1 + 1) = ia 4 (fun g => σ (2 + g))) (hNk : hp (5 + 1 + 3) = ia 80 (fun k => σ (10 + k))) (ig4 : gd ≤ 4) (id0 : 1 ≤ ev) (id1 : ev ≤ 9) (id2 : 1 ≤ bk) (id3 : bk ≤ 9) (iB : okB br) (iM : okB ms) (iU : okU gd uq) (hs : okS ms σ) (hL : L ≤ 6) (hLd : σ 0 + L ≤ 20) (h0 : 0 ≤ g) (h1 : g < gd) (hug : us g = uq g) {l1 : Nat} (hl1 : l1 < L) {R : pd_R} (hx : ∀ (l8 : Option pv) (hp0 : pd_P), (∃ f : Int → Int, hp0 = va_up hp 60 (ia 128 f) ∧ (∀ l x : Nat, l ≤ l1 → 2 ^ l ≤ x → x < 2 ^ (l + 1) → f (x : Int) = tn (nxf uq br ms σ ev bk) g (σ (2 + g)) l x) ∧ ∀ y : Nat, 2 ^ l1 ≤ y → (y : Int) < ((2 ^ (l1 + 1) : Nat) : Int) → f (((2 * y : Nat)) : Int) = tn (nxf uq br ms σ ev bk) g (σ (2 + g)) (l1 + 1) (2 * y) ∧ f ((2 * y + 1 : Nat) : Int) = tn (nxf uq br ms σ ev bk) g (σ (2 + g)) (l1 + 1) (2 * y + 1)) → pd_t G mP_growTree 4 R 162 [some (vr 58), some (vr to), some (vr (5 + 1)), some (vi g), some (vi (l1 : Int)), some (vi (σ 0 + (l1 : Int))), some (vi (opnf ev bk ms σ (σ 0 + (l1 : Int)) g)), some (vi (((2 ^ (l1 + 1) : Nat) : Int))), l8] [] sz hp0) : ∀ (n : Nat) (i : Int) (l8 : Option pv) (hp0 : pd_P), ((2 ^ l1 : Nat) : Int) ≤ i → i + n = ((2 ^ (l1 + 1) : Nat) : Int) → (∃ f : Int → Int, hp0 = va_up hp 60 (ia 128 f) ∧ (∀ l x : Nat, l ≤ l1 → 2 ^ l ≤ x → x < 2 ^ (l + 1) → f (x : Int) = tn (nxf uq br ms σ ev bk) g (σ (2 + g)) l x) ∧ ∀ y : Nat, 2 ^ l1 ≤ y → (y : Int) < i → f (((2 * y : Nat)) : Int) = tn (nxf uq br ms σ ev bk) g (σ (2 + g)) (l1 + 1) (2 * y) ∧ f ((2 * y + 1 : Nat) : Int) = tn (nxf uq br ms σ ev bk) g (σ (2 + g)) (l1 + 1) (2 * y + 1)) → pd_t G mP_growTree 4 R 49 [some (vr 58), some (vr to), some (vr (5 + 1)), some (vi g), some (vi (l1 : Int)), some (vi (σ 0 + (l1 : Int))), some (vi (opnf ev bk ms σ (σ 0 + (l1 : Int)) g)), some (vi (i)), l8] [] sz hp0 := by
  have hy8 := p2_le (show l1 + 1 ≤ 6 by omega)
  have hps8 := p2_s l1
  have hpp8 : 0 < 2 ^ l1 := Nat.pow_pos (by decide)
  intro n
  induction n with
  | zero =>
    intro i l8 hp0 hi0 hiE hI
    have hiE2 : ((2 ^ (l1 + 1) : Nat) : Int) = i := by omega
    subst hiE2
    have hx2 := hx l8 hp0 hI
    obtain ⟨f0, hI, hr1, hr2⟩ := hI
    have hP := pg_n hI (by omega) hP
    have hH := pg_n hI (by omega) hH
    have hH5 := pg_n hI (by omega) hH5
    have hH6 := pg_n hI (by omega) hH6
    have hH2 := pg_n hI (by omega) hH2
    have hN := pg_n hI (by omega) hN
    have hNt := pg_n hI (by omega) hNt
    have hNk := pg_n hI (by omega) hNk
    have hTh := pg_s hI
    refine pt_iload eP_growTree_49 rfl ?_
    refine pt_ic eP_growTree_51 ?_
    refine pt_iload eP_growTree_52 rfl ?_
    refine pt_ishl (z := ((2 ^ (l1 + 1) : Nat) : Int)) eP_growTree_54 (jI_sh2 (by omega)) ?_
    refine pt_cge eP_growTree_55 ⟨by omega, by omega⟩ ⟨by omega, by omega⟩ (fun c55 => ?_) (fun c55 => ?_)
    · exact hx2
    · exfalso; omega
  | succ n ih =>
    intro i l8 hp0 hi0 hiE hI
    obtain ⟨f0, hI, hr1, hr2⟩ := hI
    have hP := pg_n hI (by omega) hP
    have hH := pg_n hI (by omega) hH
    have hH5 := pg_n hI (by omega) hH5
    have hH6 := pg_n hI (by omega) hH6
    have hH2 := pg_n hI (by omega) hH2
    have hN := pg_n hI (by omega) hN
    have hNt := pg_n hI (by omega) hNt
    have hNk := pg_n hI (by omega) hNk
    have hTh := pg_s hI
    obtain ⟨y, rfl⟩ := Int.eq_ofNat_of_zero_le (show 0 ≤ i by omega)
    have hy7 := p2_le (show l1 + 1 ≤ 6 by omega)
    have hps := p2_s l1
    have htv := hr1 l1 y (Nat.le_refl _) (by omega) (by omega)
    generalize hgt : tn (nxf uq br ms σ ev bk) g (σ (2 + g)) l1 y = tv at htv
    have htb : -1 ≤ tv ∧ tv ≤ 999 := by rw [← hgt]; exact tn_b h0 h1 ig4 iB iM iU hs.1 (hs.2.2.2.1 g h0 (by omega)) l1 y (by omega)
    have hw0 : tn (nxf uq br ms σ ev bk) g (σ (2 + g)) (l1 + 1) (2 * y) = (nxf uq br ms σ ev bk) (l1 : Int) g 0 tv := by rw [tn_0, hgt]
    have hw1 : tn (nxf uq br ms σ ev bk) g (σ (2 + g)) (l1 + 1) (2 * y + 1) = (nxf uq br ms σ ev bk) (l1 : Int) g 1 tv := by rw [tn_1, hgt]
    have s0 := hs.1
    have hb1 := iB (4 * (σ 0 + (l1 : Int)) + g) (by omega) (by omega)
    have hm1 := iM (4 * (σ 0 + (l1 : Int)) + g) (by omega) (by omega)
    have hu1 := iU g h0 h1
    have hob := opnf_b (ev := ev) (d := σ 0 + (l1 : Int)) id2 (by omega) hs iM h0 (by omega)
    refine pt_iload eP_growTree_49 rfl ?_
    refine pt_ic eP_growTree_51 ?_
    refine pt_iload eP_growTree_52 rfl ?_
    refine pt_ishl (z := ((2 ^ (l1 + 1) : Nat) : Int)) eP_growTree_54 (jI_sh2 (by omega)) ?_
    refine pt_cge eP_growTree_55 ⟨by omega, by omega⟩ ⟨by omega, by omega⟩ (fun c55 => ?_) (fun c55 => ?_)
    · exfalso; omega
    · refine pt_aload eP_growTree_58 rfl ?_
      refine pt_get eP_growTree_59 hP rfl ?_
      refine pt_iload eP_growTree_62 rfl ?_
      refine pt_iald eP_growTree_64 hTh (by omega) (by omega) (by decide) ?_
      rw [htv]
      refine pt_ic eP_growTree_65 ?_
      refine pt_cne eP_growTree_66 ⟨by omega, by omega⟩ ⟨by omega, by omega⟩ (fun c66 => ?_) (fun c66 => ?_)
      · refine pt_ic eP_growTree_73 ?_
        refine pt_istore8 eP_growTree_74 rfl ?_
        refine pt_aload eP_growTree_76 rfl ?_
        refine pt_get eP_growTree_77 hP rfl ?_
        refine pt_ic eP_growTree_80 ?_
        refine pt_iload eP_growTree_81 rfl ?_
        refine pt_imul eP_growTree_83 ?_
        refine pt_iload eP_growTree_84 rfl ?_
        refine pt_zeq eP_growTree_86 ⟨by omega, by omega⟩ (fun c86 => ?_) (fun c86 => ?_)
        · refine pt_aload eP_growTree_93 rfl ?_
          refine pt_aload eP_growTree_94 rfl ?_
          refine pt_get eP_growTree_95 hP rfl ?_
          refine pt_iload eP_growTree_98 rfl ?_
          refine pt_iald eP_growTree_100 hTh (by omega) (by omega) (by decide) ?_
          try rw [htv]
          refine pt_iload eP_growTree_101 rfl ?_
          refine pt_iload eP_growTree_103 rfl ?_
          refine pt_kv3r eP_growTree_104 (cH_rest G sz _ hH hH5 hH6 hH2 (by omega) (by omega) (by omega) (by omega) h0 (by omega) hb1 hm1 (by rw [hug]; exact hu1)) hH rfl (Nat.le_of_ble_eq_true rfl) (by decide) (Nat.le_refl _) (Nat.le_refl _) ?_
          refine pt_iast eP_growTree_107 hTh (by omega) (by omega) (by decide) ?_
          refine pt_gen ?_
          intro hp1 ev1
          have hP := pg_n ev1 (by omega) hP
          have hTh := pg_s ev1
          have hH := pg_n ev1 (by omega) hH
          have hH2 := pg_n ev1 (by omega) hH2
          have hH5 := pg_n ev1 (by omega) hH5
          have hH6 := pg_n ev1 (by omega) hH6
          have hN := pg_n ev1 (by omega) hN
          have hNt := pg_n ev1 (by omega) hNt
          have hNk := pg_n ev1 (by omega) hNk
          refine pt_aload eP_growTree_108 rfl ?_
          refine pt_get eP_growTree_109 hP rfl ?_
          refine pt_ic eP_growTree_112 ?_
          refine pt_iload eP_growTree_113 rfl ?_
          refine pt_imul eP_growTree_115 ?_
          refine pt_ic eP_growTree_116 ?_
          refine pt_iadd eP_growTree_117 ?_
          refine pt_iload eP_growTree_118 rfl ?_
          refine pt_zne eP_growTree_120 ⟨by omega, by omega⟩ (fun c120 => ?_) (fun c120 => ?_)
          · refine pt_ic eP_growTree_128 ?_
            refine pt_goto eP_growTree_129 ?_
            refine pt_iast eP_growTree_155 hTh (by omega) (by omega) (by decide) ?_
            refine pt_gen ?_
            intro hp2 ev2
            have hP := pg_n ev2 (by omega) hP
            have hTh := pg_s ev2
            have hH := pg_n ev2 (by omega) hH
            have hH2 := pg_n ev2 (by omega) hH2
            have hH5 := pg_n ev2 (by omega) hH5
            have hH6 := pg_n ev2 (by omega) hH6
            have hN := pg_n ev2 (by omega) hN
            have hNt := pg_n ev2 (by omega) hNt
            have hNk := pg_n ev2 (by omega) hNk
            refine pt_inc7 eP_growTree_156 rfl ?_
            refine pt_goto eP_growTree_159 ?_
            have hfin : ∃ v0 v1 : Int, v0 = (nxf uq br ms σ ev bk) (l1 : Int) g 0 tv ∧ v1 = (nxf uq br ms σ ev bk) (l1 : Int) g 1 tv ∧ hp2 = va_up hp 60 (ia 128 (uI (uI f0 ((2 * y : Nat) : Int) v0) ((2 * y + 1 : Nat) : Int) v1)) := by
              first
              | (exfalso; omega)
              | exact ⟨-1, -1, nx_m (by omega), nx_m (by omega), by rw [ev2, ev1, hI, bx_uu, bx_uu]; rfl⟩
              | exact ⟨_, -1, (rsg_u hug).trans (nx_0 (by omega)).symm, (nx_1n (by omega) (by omega)).symm, by rw [ev2, ev1, hI, bx_uu, bx_uu]; rfl⟩
              | exact ⟨_, _, (rsg_u hug).trans (nx_0 (by omega)).symm, (rsg_u hug).trans (nx_1y (by omega) (by omega)).symm, by rw [ev2, ev1, hI, bx_uu, bx_uu]; rfl⟩
            obtain ⟨v0, v1, hv0, hv1, hcu⟩ := hfin
            refine ih ((y : Int) + 1) _ hp2 (by omega) (by omega) ⟨_, hcu, fun l x k1 k2 k3 => ?_, fun z k1 k2 => ?_⟩
            · have k4 := p2_le (show l + 1 ≤ l1 + 1 by omega)
              rw [uI_n _ _ (by omega), uI_n _ _ (by omega)]
              exact hr1 l x k1 k2 k3
            · by_cases hz : z = y
              · rw [hz, uI_s, uI_n _ _ (by omega), uI_s]
                exact ⟨by rw [hw0, hv0], by rw [hw1, hv1]⟩
              · rw [uI_n _ _ (by omega), uI_n _ _ (by omega), uI_n _ _ (by omega), uI_n _ _ (by omega)]
                exact hr2 z k1 (by omega)
          · refine pt_iload eP_growTree_123 rfl ?_
            refine pt_zgt eP_growTree_125 ⟨by omega, by omega⟩ (fun c125 => ?_) (fun c125 => ?_)
            · refine pt_aload eP_growTree_132 rfl ?_
              refine pt_ic eP_growTree_133 ?_
              refine pt_aload eP_growTree_136 rfl ?_
              refine pt_get eP_growTree_137 hP rfl ?_
              refine pt_iload eP_growTree_140 rfl ?_
              refine pt_iald eP_growTree_142 hTh (by omega) (by omega) (by decide) ?_
              try rw [uI_n _ _ (by omega), htv]
              refine pt_iload eP_growTree_143 rfl ?_
              refine pt_iadd eP_growTree_145 ?_
              refine pt_min eP_growTree_146 ⟨by omega, by omega⟩ ⟨by omega, by omega⟩ (by decide) (Nat.le_of_ble_eq_true rfl) (Nat.le_refl _) (Nat.le_refl _) ?_
              refine pt_iload eP_growTree_149 rfl ?_
              refine pt_iload eP_growTree_151 rfl ?_
              refine pt_kv3r eP_growTree_152 (cH_rest G sz _ hH hH5 hH6 hH2 (by omega) (by omega) (by omega) (by omega) h0 (by omega) hb1 hm1 (by rw [hug]; exact hu1)) hH rfl (Nat.le_of_ble_eq_true rfl) (by decide) (Nat.le_refl _) (Nat.le_refl _) ?_
              refine pt_iast eP_growTree_155 hTh (by omega) (by omega) (by decide) ?_
              refine pt_gen ?_
              intro hp3 ev3
              have hP := pg_n ev3 (by omega) hP
              have hTh := pg_s ev3
              have hH := pg_n ev3 (by omega) hH
              have hH2 := pg_n ev3 (by omega) hH2
              have hH5 := pg_n ev3 (by omega) hH5
              have hH6 := pg_n ev3 (by omega) hH6
              have hN := pg_n ev3 (by omega) hN
              have hNt := pg_n ev3 (by omega) hNt
              have hNk := pg_n ev3 (by omega) hNk
              refine pt_inc7 eP_growTree_156 rfl ?_
              refine pt_goto eP_growTree_159 ?_
              have hfin : ∃ v0 v1 : Int, v0 = (nxf uq br ms σ ev bk) (l1 : Int) g 0 tv ∧ v1 = (nxf uq br ms σ ev bk) (l1 : Int) g 1 tv ∧ hp3 = va_up hp 60 (ia 128 (uI (uI f0 ((2 * y : Nat) : Int) v0) ((2 * y + 1 : Nat) : Int) v1)) := by
                first
                | (exfalso; omega)
                | exact ⟨-1, -1, nx_m (by omega), nx_m (by omega), by rw [ev3, ev1, hI, bx_uu, bx_uu]; rfl⟩
                | exact ⟨_, -1, (rsg_u hug).trans (nx_0 (by omega)).symm, (nx_1n (by omega) (by omega)).symm, by rw [ev3, ev1, hI, bx_uu, bx_uu]; rfl⟩
                | exact ⟨_, _, (rsg_u hug).trans (nx_0 (by omega)).symm, (rsg_u hug).trans (nx_1y (by omega) (by omega)).symm, by rw [ev3, ev1, hI, bx_uu, bx_uu]; rfl⟩
              obtain ⟨v0, v1, hv0, hv1, hcu⟩ := hfin
              refine ih ((y : Int) + 1) _ hp3 (by omega) (by omega) ⟨_, hcu, fun l x k1 k2 k3 => ?_, fun z k1 k2 => ?_⟩
              · have k4 := p2_le (show l + 1 ≤ l1 + 1 by omega)
                rw [uI_n _ _ (by omega), uI_n _ _ (by omega)]
                exact hr1 l x k1 k2 k3
              · by_cases hz : z = y
                · rw [hz, uI_s, uI_n _ _ (by omega), uI_s]
                  exact ⟨by rw [hw0, hv0], by rw [hw1, hv1]⟩
                · rw [uI_n _ _ (by omega), uI_n _ _ (by omega), uI_n _ _ (by omega), uI_n _ _ (by omega)]
                  exact hr2 z k1 (by omega)
            · refine pt_ic eP_growTree_128 ?_
              refine pt_goto eP_growTree_129 ?_
              refine pt_iast eP_growTree_155 hTh (by omega) (by omega) (by decide) ?_
              refine pt_gen ?_
              intro hp4 ev4
              have hP := pg_n ev4 (by omega) hP
              have hTh := pg_s ev4
              have hH := pg_n ev4 (by omega) hH
              have hH2 := pg_n ev4 (by omega) hH2
              have hH5 := pg_n ev4 (by omega) hH5
              have hH6 := pg_n ev4 (by omega) hH6
              have hN := pg_n ev4 (by omega) hN
              have hNt := pg_n ev4 (by omega) hNt
              have hNk := pg_n ev4 (by omega) hNk
              refine pt_inc7 eP_growTree_156 rfl ?_
              refine pt_goto eP_growTree_159 ?_
              have hfin : ∃ v0 v1 : Int, v0 = (nxf uq br ms σ ev bk) (l1 : Int) g 0 tv ∧ v1 = (nxf uq br ms σ ev bk) (l1 : Int) g 1 tv ∧ hp4 = va_up hp 60 (ia 128 (uI (uI f0 ((2 * y : Nat) : Int) v0) ((2 * y + 1 : Nat) : Int) v1)) := by
                first
                | (exfalso; omega)
                | exact ⟨-1, -1, nx_m (by omega), nx_m (by omega), by rw [ev4, ev1, hI, bx_uu, bx_uu]; rfl⟩
                | exact ⟨_, -1, (rsg_u hug).trans (nx_0 (by omega)).symm, (nx_1n (by omega) (by omega)).symm, by rw [ev4, ev1, hI, bx_uu, bx_uu]; rfl⟩
                | exact ⟨_, _, (rsg_u hug).trans (nx_0 (by omega)).symm, (rsg_u hug).trans (nx_1y (by omega) (by omega)).symm, by rw [ev4, ev1, hI, bx_uu, bx_uu]; rfl⟩
              obtain ⟨v0, v1, hv0, hv1, hcu⟩ := hfin
              refine ih ((y : Int) + 1) _ hp4 (by omega) (by omega) ⟨_, hcu, fun l x k1 k2 k3 => ?_, fun z k1 k2 => ?_⟩
              · have k4 := p2_le (show l + 1 ≤ l1 + 1 by omega)
                rw [uI_n _ _ (by omega), uI_n _ _ (by omega)]
                exact hr1 l x k1 k2 k3
              · by_cases hz : z = y
                · rw [hz, uI_s, uI_n _ _ (by omega), uI_s]
                  exact ⟨by rw [hw0, hv0], by rw [hw1, hv1]⟩
                · rw [uI_n _ _ (by omega), uI_n _ _ (by omega), uI_n _ _ (by omega), uI_n _ _ (by omega)]
                  exact hr2 z k1 (by omega)
        · refine pt_ic eP_growTree_89 ?_
          refine pt_goto eP_growTree_90 ?_
          refine pt_iast eP_growTree_107 hTh (by omega) (by omega) (by decide) ?_
          refine pt_gen ?_
          intro hp5 ev5
          have hP := pg_n ev5 (by omega) hP
          have hTh := pg_s ev5
          have hH := pg_n ev5 (by omega) hH
          have hH2 := pg_n ev5 (by omega) hH2
          have hH5 := pg_n ev5 (by omega) hH5
          have hH6 := pg_n ev5 (by omega) hH6
          have hN := pg_n ev5 (by omega) hN
          have hNt := pg_n ev5 (by omega) hNt
          have hNk := pg_n ev5 (by omega) hNk
          refine pt_aload eP_growTree_108 rfl ?_
          refine pt_get eP_growTree_109 hP rfl ?_
          refine pt_ic eP_growTree_112 ?_
          refine pt_iload eP_growTree_113 rfl ?_
          refine pt_imul eP_growTree_115 ?_
          refine pt_ic eP_growTree_116 ?_
          refine pt_iadd eP_growTree_117 ?_
          refine pt_iload eP_growTree_118 rfl ?_
          refine pt_zne eP_growTree_120 ⟨by omega, by omega⟩ (fun c120 => ?_) (fun c120 => ?_)
          · refine pt_ic eP_growTree_128 ?_
            refine pt_goto eP_growTree_129 ?_
            refine pt_iast eP_growTree_155 hTh (by omega) (by omega) (by decide) ?_
            refine pt_gen ?_
            intro hp6 ev6
            have hP := pg_n ev6 (by omega) hP
            have hTh := pg_s ev6
            have hH := pg_n ev6 (by omega) hH
            have hH2 := pg_n ev6 (by omega) hH2
            have hH5 := pg_n ev6 (by omega) hH5
            have hH6 := pg_n ev6 (by omega) hH6
            have hN := pg_n ev6 (by omega) hN
            have hNt := pg_n ev6 (by omega) hNt
            have hNk := pg_n ev6 (by omega) hNk
            refine pt_inc7 eP_growTree_156 rfl ?_
            refine pt_goto eP_growTree_159 ?_
            have hfin : ∃ v0 v1 : Int, v0 = (nxf uq br ms σ ev bk) (l1 : Int) g 0 tv ∧ v1 = (nxf uq br ms σ ev bk) (l1 : Int) g 1 tv ∧ hp6 = va_up hp 60 (ia 128 (uI (uI f0 ((2 * y : Nat) : Int) v0) ((2 * y + 1 : Nat) : Int) v1)) := by
              first
              | (exfalso; omega)
              | exact ⟨-1, -1, nx_m (by omega), nx_m (by omega), by rw [ev6, ev5, hI, bx_uu, bx_uu]; rfl⟩
              | exact ⟨_, -1, (rsg_u hug).trans (nx_0 (by omega)).symm, (nx_1n (by omega) (by omega)).symm, by rw [ev6, ev5, hI, bx_uu, bx_uu]; rfl⟩
              | exact ⟨_, _, (rsg_u hug).trans (nx_0 (by omega)).symm, (rsg_u hug).trans (nx_1y (by omega) (by omega)).symm, by rw [ev6, ev5, hI, bx_uu, bx_uu]; rfl⟩
            obtain ⟨v0, v1, hv0, hv1, hcu⟩ := hfin
            refine ih ((y : Int) + 1) _ hp6 (by omega) (by omega) ⟨_, hcu, fun l x k1 k2 k3 => ?_, fun z k1 k2 => ?_⟩
            · have k4 := p2_le (show l + 1 ≤ l1 + 1 by omega)
              rw [uI_n _ _ (by omega), uI_n _ _ (by omega)]
              exact hr1 l x k1 k2 k3
            · by_cases hz : z = y
              · rw [hz, uI_s, uI_n _ _ (by omega), uI_s]
                exact ⟨by rw [hw0, hv0], by rw [hw1, hv1]⟩
              · rw [uI_n _ _ (by omega), uI_n _ _ (by omega), uI_n _ _ (by omega), uI_n _ _ (by omega)]
                exact hr2 z k1 (by omega)
          · refine pt_iload eP_growTree_123 rfl ?_
            refine pt_zgt eP_growTree_125 ⟨by omega, by omega⟩ (fun c125 => ?_) (fun c125 => ?_)
            · refine pt_aload eP_growTree_132 rfl ?_
              refine pt_ic eP_growTree_133 ?_
              refine pt_aload eP_growTree_136 rfl ?_
              refine pt_get eP_growTree_137 hP rfl ?_
              refine pt_iload eP_growTree_140 rfl ?_
              refine pt_iald eP_growTree_142 hTh (by omega) (by omega) (by decide) ?_
              try rw [uI_n _ _ (by omega), htv]
              refine pt_iload eP_growTree_143 rfl ?_
              refine pt_iadd eP_growTree_145 ?_
              refine pt_min eP_growTree_146 ⟨by omega, by omega⟩ ⟨by omega, by omega⟩ (by decide) (Nat.le_of_ble_eq_true rfl) (Nat.le_refl _) (Nat.le_refl _) ?_
              refine pt_iload eP_growTree_149 rfl ?_
              refine pt_iload eP_growTree_151 rfl ?_
              refine pt_kv3r eP_growTree_152 (cH_rest G sz _ hH hH5 hH6 hH2 (by omega) (by omega) (by omega) (by omega) h0 (by omega) hb1 hm1 (by rw [hug]; exact hu1)) hH rfl (Nat.le_of_ble_eq_true rfl) (by decide) (Nat.le_refl _) (Nat.le_refl _) ?_
              refine pt_iast eP_growTree_155 hTh (by omega) (by omega) (by decide) ?_
              refine pt_gen ?_
              intro hp7 ev7
              have hP := pg_n ev7 (by omega) hP
              have hTh := pg_s ev7
              have hH := pg_n ev7 (by omega) hH
              have hH2 := pg_n ev7 (by omega) hH2
              have hH5 := pg_n ev7 (by omega) hH5
              have hH6 := pg_n ev7 (by omega) hH6
              have hN := pg_n ev7 (by omega) hN
              have hNt := pg_n ev7 (by omega) hNt
              have hNk := pg_n ev7 (by omega) hNk
              refine pt_inc7 eP_growTree_156 rfl ?_
              refine pt_goto eP_growTree_159 ?_
              have hfin : ∃ v0 v1 : Int, v0 = (nxf uq br ms σ ev bk) (l1 : Int) g 0 tv ∧ v1 = (nxf uq br ms σ ev bk) (l1 : Int) g 1 tv ∧ hp7 = va_up hp 60 (ia 128 (uI (uI f0 ((2 * y : Nat) : Int) v0) ((2 * y + 1 : Nat) : Int) v1)) := by
                first
                | (exfalso; omega)
                | exact ⟨-1, -1, nx_m (by omega), nx_m (by omega), by rw [ev7, ev5, hI, bx_uu, bx_uu]; rfl⟩
                | exact ⟨_, -1, (rsg_u hug).trans (nx_0 (by omega)).symm, (nx_1n (by omega) (by omega)).symm, by rw [ev7, ev5, hI, bx_uu, bx_uu]; rfl⟩
                | exact ⟨_, _, (rsg_u hug).trans (nx_0 (by omega)).symm, (rsg_u hug).trans (nx_1y (by omega) (by omega)).symm, by rw [ev7, ev5, hI, bx_uu, bx_uu]; rfl⟩
              obtain ⟨v0, v1, hv0, hv1, hcu⟩ := hfin
              refine ih ((y : Int) + 1) _ hp7 (by omega) (by omega) ⟨_, hcu, fun l x k1 k2 k3 => ?_, fun z k1 k2 => ?_⟩
              · have k4 := p2_le (show l + 1 ≤ l1 + 1 by omega)
                rw [uI_n _ _ (by omega), uI_n _ _ (by omega)]
                exact hr1 l x k1 k2 k3
              · by_cases hz : z = y
                · rw [hz, uI_s, uI_n _ _ (by omega), uI_s]
                  exact ⟨by rw [hw0, hv0], by rw [hw1, hv1]⟩
                · rw [uI_n _ _ (by omega), uI_n _ _ (by omega), uI_n _ _ (by omega), uI_n _ _ (by omega)]
                  exact hr2 z k1 (by omega)
            · refine pt_ic eP_growTree_128 ?_
              refine pt_goto eP_growTree_129 ?_
              refine pt_iast eP_growTree_155 hTh (by omega) (by omega) (by decide) ?_
              refine pt_gen ?_
              intro hp8 ev8
              have hP := pg_n ev8 (by omega) hP
              have hTh := pg_s ev8
              have hH := pg_n ev8 (by omega) hH
              have hH2 := pg_n ev8 (by omega) hH2
              have hH5 := pg_n ev8 (by omega) hH5
              have hH6 := pg_n ev8 (by omega) hH6
              have hN := pg_n ev8 (by omega) hN
              have hNt := pg_n ev8 (by omega) hNt
              have hNk := pg_n ev8 (by omega) hNk
              refine pt_inc7 eP_growTree_156 rfl ?_
              refine pt_goto eP_growTree_159 ?_
              have hfin : ∃ v0 v1 : Int, v0 = (nxf uq br ms σ ev bk) (l1 : Int) g 0 tv ∧ v1 = (nxf uq br ms σ ev bk) (l1 : Int) g 1 tv ∧ hp8 = va_up hp 60 (ia 128 (uI (uI f0 ((2 * y : Nat) : Int) v0) ((2 * y + 1 : Nat) : Int) v1)) := by
                first
                | (exfalso; omega)
                | exact ⟨-1, -1, nx_m (by omega), nx_m (by omega), by rw [ev8, ev5, hI, bx_uu, bx_uu]; rfl⟩
                | exact ⟨_, -1, (rsg_u hug).trans (nx_0 (by omega)).symm, (nx_1n (by omega) (by omega)).symm, by rw [ev8, ev5, hI, bx_uu, bx_uu]; rfl⟩
                | exact ⟨_, _, (rsg_u hug).trans (nx_0 (by omega)).symm, (rsg_u hug).trans (nx_1y (by omega) (by omega)).symm, by rw [ev8, ev5, hI, bx_uu, bx_uu]; rfl⟩
              obtain ⟨v0, v1, hv0, hv1, hcu⟩ := hfin
              refine ih ((y : Int) + 1) _ hp8 (by omega) (by omega) ⟨_, hcu, fun l x k1 k2 k3 => ?_, fun z k1 k2 => ?_⟩
              · have k4 := p2_le (show l + 1 ≤ l1 + 1 by omega)
                rw [uI_n _ _ (by omega), uI_n _ _ (by omega)]
                exact hr1 l x k1 k2 k3
              · by_cases hz : z = y
                · rw [hz, uI_s, uI_n _ _ (by omega), uI_s]
                  exact ⟨by rw [hw0, hv0], by rw [hw1, hv1]⟩
                · rw [uI_n _ _ (by omega), uI_n _ _ (by omega), uI_n _ _ (by omega), uI_n _ _ (by omega)]
                  exact hr2 z k1 (by omega)
      · refine pt_ic eP_growTree_69 ?_
        refine pt_goto eP_growTree_70 ?_
        refine pt_istore8 eP_growTree_74 rfl ?_
        refine pt_aload eP_growTree_76 rfl ?_
        refine pt_get eP_growTree_77 hP rfl ?_
        refine pt_ic eP_growTree_80 ?_
        refine pt_iload eP_growTree_81 rfl ?_
        refine pt_imul eP_growTree_83 ?_
        refine pt_iload eP_growTree_84 rfl ?_
        refine pt_zeq eP_growTree_86 ⟨by omega, by omega⟩ (fun c86 => ?_) (fun c86 => ?_)
        · refine pt_aload eP_growTree_93 rfl ?_
          refine pt_aload eP_growTree_94 rfl ?_
          refine pt_get eP_growTree_95 hP rfl ?_
          refine pt_iload eP_growTree_98 rfl ?_
          refine pt_iald eP_growTree_100 hTh (by omega) (by omega) (by decide) ?_
          try rw [htv]
          refine pt_iload eP_growTree_101 rfl ?_
          refine pt_iload eP_growTree_103 rfl ?_
          refine pt_kv3r eP_growTree_104 (cH_rest G sz _ hH hH5 hH6 hH2 (by omega) (by omega) (by omega) (by omega) h0 (by omega) hb1 hm1 (by rw [hug]; exact hu1)) hH rfl (Nat.le_of_ble_eq_true rfl) (by decide) (Nat.le_refl _) (Nat.le_refl _) ?_
          refine pt_iast eP_growTree_107 hTh (by omega) (by omega) (by decide) ?_
          refine pt_gen ?_
          intro hp9 ev9
          have hP := pg_n ev9 (by omega) hP
          have hTh := pg_s ev9
          have hH := pg_n ev9 (by omega) hH
          have hH2 := pg_n ev9 (by omega) hH2
          have hH5 := pg_n ev9 (by omega) hH5
          have hH6 := pg_n ev9 (by omega) hH6
          have hN := pg_n ev9 (by omega) hN
          have hNt := pg_n ev9 (by omega) hNt
          have hNk := pg_n ev9 (by omega) hNk
          refine pt_aload eP_growTree_108 rfl ?_
          refine pt_get eP_growTree_109 hP rfl ?_
          refine pt_ic eP_growTree_112 ?_
          refine pt_iload eP_growTree_113 rfl ?_
          refine pt_imul eP_growTree_115 ?_
          refine pt_ic eP_growTree_116 ?_
          refine pt_iadd eP_growTree_117 ?_
          refine pt_iload eP_growTree_118 rfl ?_
          refine pt_zne eP_growTree_120 ⟨by omega, by omega⟩ (fun c120 => ?_) (fun c120 => ?_)
          · refine pt_ic eP_growTree_128 ?_
            refine pt_goto eP_growTree_129 ?_
            refine pt_iast eP_growTree_155 hTh (by omega) (by omega) (by decide) ?_
            refine pt_gen ?_
            intro hp10 ev10
            have hP := pg_n ev10 (by omega) hP
            have hTh := pg_s ev10
            have hH := pg_n ev10 (by omega) hH
            have hH2 := pg_n ev10 (by omega) hH2
            have hH5 := pg_n ev10 (by omega) hH5
            have hH6 := pg_n ev10 (by omega) hH6
            have hN := pg_n ev10 (by omega) hN
            have hNt := pg_n ev10 (by omega) hNt
            have hNk := pg_n ev10 (by omega) hNk
            refine pt_inc7 eP_growTree_156 rfl ?_
            refine pt_goto eP_growTree_159 ?_
            have hfin : ∃ v0 v1 : Int, v0 = (nxf uq br ms σ ev bk) (l1 : Int) g 0 tv ∧ v1 = (nxf uq br ms σ ev bk) (l1 : Int) g 1 tv ∧ hp10 = va_up hp 60 (ia 128 (uI (uI f0 ((2 * y : Nat) : Int) v0) ((2 * y + 1 : Nat) : Int) v1)) := by
              first
              | (exfalso; omega)
              | exact ⟨-1, -1, nx_m (by omega), nx_m (by omega), by rw [ev10, ev9, hI, bx_uu, bx_uu]; rfl⟩
              | exact ⟨_, -1, (rsg_u hug).trans (nx_0 (by omega)).symm, (nx_1n (by omega) (by omega)).symm, by rw [ev10, ev9, hI, bx_uu, bx_uu]; rfl⟩
              | exact ⟨_, _, (rsg_u hug).trans (nx_0 (by omega)).symm, (rsg_u hug).trans (nx_1y (by omega) (by omega)).symm, by rw [ev10, ev9, hI, bx_uu, bx_uu]; rfl⟩
            obtain ⟨v0, v1, hv0, hv1, hcu⟩ := hfin
            refine ih ((y : Int) + 1) _ hp10 (by omega) (by omega) ⟨_, hcu, fun l x k1 k2 k3 => ?_, fun z k1 k2 => ?_⟩
            · have k4 := p2_le (show l + 1 ≤ l1 + 1 by omega)
              rw [uI_n _ _ (by omega), uI_n _ _ (by omega)]
              exact hr1 l x k1 k2 k3
            · by_cases hz : z = y
              · rw [hz, uI_s, uI_n _ _ (by omega), uI_s]
                exact ⟨by rw [hw0, hv0], by rw [hw1, hv1]⟩
              · rw [uI_n _ _ (by omega), uI_n _ _ (by omega), uI_n _ _ (by omega), uI_n _ _ (by omega)]
                exact hr2 z k1 (by omega)
          · refine pt_iload eP_growTree_123 rfl ?_
            refine pt_zgt eP_growTree_125 ⟨by omega, by omega⟩ (fun c125 => ?_) (fun c125 => ?_)
            · refine pt_aload eP_growTree_132 rfl ?_
              refine pt_ic eP_growTree_133 ?_
              refine pt_aload eP_growTree_136 rfl ?_
              refine pt_get eP_growTree_137 hP rfl ?_
              refine pt_iload eP_growTree_140 rfl ?_
              refine pt_iald eP_growTree_142 hTh (by omega) (by omega) (by decide) ?_
              try rw [uI_n _ _ (by omega), htv]
              refine pt_iload eP_growTree_143 rfl ?_
              refine pt_iadd eP_growTree_145 ?_
              refine pt_min eP_growTree_146 ⟨by omega, by omega⟩ ⟨by omega, by omega⟩ (by decide) (Nat.le_of_ble_eq_true rfl) (Nat.le_refl _) (Nat.le_refl _) ?_
              refine pt_iload eP_growTree_149 rfl ?_
              refine pt_iload eP_growTree_151 rfl ?_
              refine pt_kv3r eP_growTree_152 (cH_rest G sz _ hH hH5 hH6 hH2 (by omega) (by omega) (by omega) (by omega) h0 (by omega) hb1 hm1 (by rw [hug]; exact hu1)) hH rfl (Nat.le_of_ble_eq_true rfl) (by decide) (Nat.le_refl _) (Nat.le_refl _) ?_
              refine pt_iast eP_growTree_155 hTh (by omega) (by omega) (by decide) ?_
              refine pt_gen ?_
              intro hp11 ev11
              have hP := pg_n ev11 (by omega) hP
              have hTh := pg_s ev11
              have hH := pg_n ev11 (by omega) hH
              have hH2 := pg_n ev11 (by omega) hH2
              have hH5 := pg_n ev11 (by omega) hH5
              have hH6 := pg_n ev11 (by omega) hH6
              have hN := pg_n ev11 (by omega) hN
              have hNt := pg_n ev11 (by omega) hNt
              have hNk := pg_n ev11 (by omega) hNk
              refine pt_inc7 eP_growTree_156 rfl ?_
              refine pt_goto eP_growTree_159 ?_
              have hfin : ∃ v0 v1 : Int, v0 = (nxf uq br ms σ ev bk) (l1 : Int) g 0 tv ∧ v1 = (nxf uq br ms σ ev bk) (l1 : Int) g 1 tv ∧ hp11 = va_up hp 60 (ia 128 (uI (uI f0 ((2 * y : Nat) : Int) v0) ((2 * y + 1 : Nat) : Int) v1)) := by
                first
                | (exfalso; omega)
                | exact ⟨-1, -1, nx_m (by omega), nx_m (by omega), by rw [ev11, ev9, hI, bx_uu, bx_uu]; rfl⟩
                | exact ⟨_, -1, (rsg_u hug).trans (nx_0 (by omega)).symm, (nx_1n (by omega) (by omega)).symm, by rw [ev11, ev9, hI, bx_uu, bx_uu]; rfl⟩
                | exact ⟨_, _, (rsg_u hug).trans (nx_0 (by omega)).symm, (rsg_u hug).trans (nx_1y (by omega) (by omega)).symm, by rw [ev11, ev9, hI, bx_uu, bx_uu]; rfl⟩
              obtain ⟨v0, v1, hv0, hv1, hcu⟩ := hfin
              refine ih ((y : Int) + 1) _ hp11 (by omega) (by omega) ⟨_, hcu, fun l x k1 k2 k3 => ?_, fun z k1 k2 => ?_⟩
              · have k4 := p2_le (show l + 1 ≤ l1 + 1 by omega)
                rw [uI_n _ _ (by omega), uI_n _ _ (by omega)]
                exact hr1 l x k1 k2 k3
              · by_cases hz : z = y
                · rw [hz, uI_s, uI_n _ _ (by omega), uI_s]
                  exact ⟨by rw [hw0, hv0], by rw [hw1, hv1]⟩
                · rw [uI_n _ _ (by omega), uI_n _ _ (by omega), uI_n _ _ (by omega), uI_n _ _ (by omega)]
                  exact hr2 z k1 (by omega)
            · refine pt_ic eP_growTree_128 ?_
              refine pt_goto eP_growTree_129 ?_
              refine pt_iast eP_growTree_155 hTh (by omega) (by omega) (by decide) ?_
              refine pt_gen ?_
              intro hp12 ev12
              have hP := pg_n ev12 (by omega) hP
              have hTh := pg_s ev12
              have hH := pg_n ev12 (by omega) hH
              have hH2 := pg_n ev12 (by omega) hH2
              have hH5 := pg_n ev12 (by omega) hH5
              have hH6 := pg_n ev12 (by omega) hH6
              have hN := pg_n ev12 (by omega) hN
              have hNt := pg_n ev12 (by omega) hNt
              have hNk := pg_n ev12 (by omega) hNk
              refine pt_inc7 eP_growTree_156 rfl ?_
              refine pt_goto eP_growTree_159 ?_
              have hfin : ∃ v0 v1 : Int, v0 = (nxf uq br ms σ ev bk) (l1 : Int) g 0 tv ∧ v1 = (nxf uq br ms σ ev bk) (l1 : Int) g 1 tv ∧ hp12 = va_up hp 60 (ia 128 (uI (uI f0 ((2 * y : Nat) : Int) v0) ((2 * y + 1 : Nat) : Int) v1)) := by
                first
                | (exfalso; omega)
                | exact ⟨-1, -1, nx_m (by omega), nx_m (by omega), by rw [ev12, ev9, hI, bx_uu, bx_uu]; rfl⟩
                | exact ⟨_, -1, (rsg_u hug).trans (nx_0 (by omega)).symm, (nx_1n (by omega) (by omega)).symm, by rw [ev12, ev9, hI, bx_uu, bx_uu]; rfl⟩
                | exact ⟨_, _, (rsg_u hug).trans (nx_0 (by omega)).symm, (rsg_u hug).trans (nx_1y (by omega) (by omega)).symm, by rw [ev12, ev9, hI, bx_uu, bx_uu]; rfl⟩
              obtain ⟨v0, v1, hv0, hv1, hcu⟩ := hfin
              refine ih ((y : Int) + 1) _ hp12 (by omega) (by omega) ⟨_, hcu, fun l x k1 k2 k3 => ?_, fun z k1 k2 => ?_⟩
              · have k4 := p2_le (show l + 1 ≤ l1 + 1 by omega)
                rw [uI_n _ _ (by omega), uI_n _ _ (by omega)]
                exact hr1 l x k1 k2 k3
              · by_cases hz : z = y
                · rw [hz, uI_s, uI_n _ _ (by omega), uI_s]
                  exact ⟨by rw [hw0, hv0], by rw [hw1, hv1]⟩
                · rw [uI_n _ _ (by omega), uI_n _ _ (by omega), uI_n _ _ (by omega), uI_n _ _ (by omega)]
                  exact hr2 z k1 (by omega)
        · refine pt_ic eP_growTree_89 ?_
          refine pt_goto eP_growTree_90 ?_
          refine pt_iast eP_growTree_107 hTh (by omega) (by omega) (by decide) ?_
          refine pt_gen ?_
          intro hp13 ev13
          have hP := pg_n ev13 (by omega) hP
          have hTh := pg_s ev13
          have hH := pg_n ev13 (by omega) hH
          have hH2 := pg_n ev13 (by omega) hH2
          have hH5 := pg_n ev13 (by omega) hH5
          have hH6 := pg_n ev13 (by omega) hH6
          have hN := pg_n ev13 (by omega) hN
          have hNt := pg_n ev13 (by omega) hNt
          have hNk := pg_n ev13 (by omega) hNk
          refine pt_aload eP_growTree_108 rfl ?_
          refine pt_get eP_growTree_109 hP rfl ?_
          refine pt_ic eP_growTree_112 ?_
          refine pt_iload eP_growTree_113 rfl ?_
          refine pt_imul eP_growTree_115 ?_
          refine pt_ic eP_growTree_116 ?_
          refine pt_iadd eP_growTree_117 ?_
          refine pt_iload eP_growTree_118 rfl ?_
          refine pt_zne eP_growTree_120 ⟨by omega, by omega⟩ (fun c120 => ?_) (fun c120 => ?_)
          · refine pt_ic eP_growTree_128 ?_
            refine pt_goto eP_growTree_129 ?_
            refine pt_iast eP_growTree_155 hTh (by omega) (by omega) (by decide) ?_
            refine pt_gen ?_
            intro hp14 ev14
            have hP := pg_n ev14 (by omega) hP
            have hTh := pg_s ev14
            have hH := pg_n ev14 (by omega) hH
            have hH2 := pg_n ev14 (by omega) hH2
            have hH5 := pg_n ev14 (by omega) hH5
            have hH6 := pg_n ev14 (by omega) hH6
            have hN := pg_n ev14 (by omega) hN
            have hNt := pg_n ev14 (by omega) hNt
            have hNk := pg_n ev14 (by omega) hNk
            refine pt_inc7 eP_growTree_156 rfl ?_
            refine pt_goto eP_growTree_159 ?_
            have hfin : ∃ v0 v1 : Int, v0 = (nxf uq br ms σ ev bk) (l1 : Int) g 0 tv ∧ v1 = (nxf uq br ms σ ev bk) (l1 : Int) g 1 tv ∧ hp14 = va_up hp 60 (ia 128 (uI (uI f0 ((2 * y : Nat) : Int) v0) ((2 * y + 1 : Nat) : Int) v1)) := by
              first
              | (exfalso; omega)
              | exact ⟨-1, -1, nx_m (by omega), nx_m (by omega), by rw [ev14, ev13, hI, bx_uu, bx_uu]; rfl⟩
              | exact ⟨_, -1, (rsg_u hug).trans (nx_0 (by omega)).symm, (nx_1n (by omega) (by omega)).symm, by rw [ev14, ev13, hI, bx_uu, bx_uu]; rfl⟩
              | exact ⟨_, _, (rsg_u hug).trans (nx_0 (by omega)).symm, (rsg_u hug).trans (nx_1y (by omega) (by omega)).symm, by rw [ev14, ev13, hI, bx_uu, bx_uu]; rfl⟩
            obtain ⟨v0, v1, hv0, hv1, hcu⟩ := hfin
            refine ih ((y : Int) + 1) _ hp14 (by omega) (by omega) ⟨_, hcu, fun l x k1 k2 k3 => ?_, fun z k1 k2 => ?_⟩
            · have k4 := p2_le (show l + 1 ≤ l1 + 1 by omega)
              rw [uI_n _ _ (by omega), uI_n _ _ (by omega)]
              exact hr1 l x k1 k2 k3
            · by_cases hz : z = y
              · rw [hz, uI_s, uI_n _ _ (by omega), uI_s]
                exact ⟨by rw [hw0, hv0], by rw [hw1, hv1]⟩
              · rw [uI_n _ _ (by omega), uI_n _ _ (by omega), uI_n _ _ (by omega), uI_n _ _ (by omega)]
                exact hr2 z k1 (by omega)
          · refine pt_iload eP_growTree_123 rfl ?_
            refine pt_zgt eP_growTree_125 ⟨by omega, by omega⟩ (fun c125 => ?_) (fun c125 => ?_)
            · refine pt_aload eP_growTree_132 rfl ?_
              refine pt_ic eP_growTree_133 ?_
              refine pt_aload eP_growTree_136 rfl ?_
              refine pt_get eP_growTree_137 hP rfl ?_
              refine pt_iload eP_growTree_140 rfl ?_
              refine pt_iald eP_growTree_142 hTh (by omega) (by omega) (by decide) ?_
              try rw [uI_n _ _ (by omega), htv]
              refine pt_iload eP_growTree_143 rfl ?_
              refine pt_iadd eP_growTree_145 ?_
              refine pt_min eP_growTree_146 ⟨by omega, by omega⟩ ⟨by omega, by omega⟩ (by decide) (Nat.le_of_ble_eq_true rfl) (Nat.le_refl _) (Nat.le_refl _) ?_
              refine pt_iload eP_growTree_149 rfl ?_
              refine pt_iload eP_growTree_151 rfl ?_
              refine pt_kv3r eP_growTree_152 (cH_rest G sz _ hH hH5 hH6 hH2 (by omega) (by omega) (by omega) (by omega) h0 (by omega) hb1 hm1 (by rw [hug]; exact hu1)) hH rfl (Nat.le_of_ble_eq_true rfl) (by decide) (Nat.le_refl _) (Nat.le_refl _) ?_
              refine pt_iast eP_growTree_155 hTh (by omega) (by omega) (by decide) ?_
              refine pt_gen ?_
              intro hp15 ev15
              have hP := pg_n ev15 (by omega) hP
              have hTh := pg_s ev15
              have hH := pg_n ev15 (by omega) hH
              have hH2 := pg_n ev15 (by omega) hH2
              have hH5 := pg_n ev15 (by omega) hH5
              have hH6 := pg_n ev15 (by omega) hH6
              have hN := pg_n ev15 (by omega) hN
              have hNt := pg_n ev15 (by omega) hNt
              have hNk := pg_n ev15 (by omega) hNk
              refine pt_inc7 eP_growTree_156 rfl ?_
              refine pt_goto eP_growTree_159 ?_
              have hfin : ∃ v0 v1 : Int, v0 = (nxf uq br ms σ ev bk) (l1 : Int) g 0 tv ∧ v1 = (nxf uq br ms σ ev bk) (l1 : Int) g 1 tv ∧ hp15 = va_up hp 60 (ia 128 (uI (uI f0 ((2 * y : Nat) : Int) v0) ((2 * y + 1 : Nat) : Int) v1)) := by
                first
                | (exfalso; omega)
                | exact ⟨-1, -1, nx_m (by omega), nx_m (by omega), by rw [ev15, ev13, hI, bx_uu, bx_uu]; rfl⟩
                | exact ⟨_, -1, (rsg_u hug).trans (nx_0 (by omega)).symm, (nx_1n (by omega) (by omega)).symm, by rw [ev15, ev13, hI, bx_uu, bx_uu]; rfl⟩
                | exact ⟨_, _, (rsg_u hug).trans (nx_0 (by omega)).symm, (rsg_u hug).trans (nx_1y (by omega) (by omega)).symm, by rw [ev15, ev13, hI, bx_uu, bx_uu]; rfl⟩
              obtain ⟨v0, v1, hv0, hv1, hcu⟩ := hfin
              refine ih ((y : Int) + 1) _ hp15 (by omega) (by omega) ⟨_, hcu, fun l x k1 k2 k3 => ?_, fun z k1 k2 => ?_⟩
              · have k4 := p2_le (show l + 1 ≤ l1 + 1 by omega)
                rw [uI_n _ _ (by omega), uI_n _ _ (by omega)]
                exact hr1 l x k1 k2 k3
              · by_cases hz : z = y
                · rw [hz, uI_s, uI_n _ _ (by omega), uI_s]
                  exact ⟨by rw [hw0, hv0], by rw [hw1, hv1]⟩
                · rw [uI_n _ _ (by omega), uI_n _ _ (by omega), uI_n _ _ (by omega), uI_n _ _ (by omega)]
                  exact hr2 z k1 (by omega)
            · refine pt_ic eP_growTree_128 ?_
              refine pt_goto eP_growTree_129 ?_
              refine pt_iast eP_growTree_155 hTh (by omega) (by omega) (by decide) ?_
              refine pt_gen ?_
              intro hp16 ev16
              have hP := pg_n ev16 (by omega) hP
              have hTh := pg_s ev16
              have hH := pg_n ev16 (by omega) hH
              have hH2 := pg_n ev16 (by omega) hH2
              have hH5 := pg_n ev16 (by omega) hH5
              have hH6 := pg_n ev16 (by omega) hH6
              have hN := pg_n ev16 (by omega) hN
              have hNt := pg_n ev16 (by omega) hNt
              have hNk := pg_n ev16 (by omega) hNk
              refine pt_inc7 eP_growTree_156 rfl ?_
              refine pt_goto eP_growTree_159 ?_
              have hfin : ∃ v0 v1 : Int, v0 = (nxf uq br ms σ ev bk) (l1 : Int) g 0 tv ∧ v1 = (nxf uq br ms σ ev bk) (l1 : Int) g 1 tv ∧ hp16 = va_up hp 60 (ia 128 (uI (uI f0 ((2 * y : Nat) : Int) v0) ((2 * y + 1 : Nat) : Int) v1)) := by
                first
                | (exfalso; omega)
                | exact ⟨-1, -1, nx_m (by omega), nx_m (by omega), by rw [ev16, ev13, hI, bx_uu, bx_uu]; rfl⟩
                | exact ⟨_, -1, (rsg_u hug).trans (nx_0 (by omega)).symm, (nx_1n (by omega) (by omega)).symm, by rw [ev16, ev13, hI, bx_uu, bx_uu]; rfl⟩
                | exact ⟨_, _, (rsg_u hug).trans (nx_0 (by omega)).symm, (rsg_u hug).trans (nx_1y (by omega) (by omega)).symm, by rw [ev16, ev13, hI, bx_uu, bx_uu]; rfl⟩
              obtain ⟨v0, v1, hv0, hv1, hcu⟩ := hfin
              refine ih ((y : Int) + 1) _ hp16 (by omega) (by omega) ⟨_, hcu, fun l x k1 k2 k3 => ?_, fun z k1 k2 => ?_⟩
              · have k4 := p2_le (show l + 1 ≤ l1 + 1 by omega)
                rw [uI_n _ _ (by omega), uI_n _ _ (by omega)]
                exact hr1 l x k1 k2 k3
              · by_cases hz : z = y
                · rw [hz, uI_s, uI_n _ _ (by omega), uI_s]
                  exact ⟨by rw [hw0, hv0], by rw [hw1, hv1]⟩
                · rw [uI_n _ _ (by omega), uI_n _ _ (by omega), uI_n _ _ (by omega), uI_n _ _ (by omega)]
                  exact hr2 z k1 (by omega)
