/-! mark, trace -/
def trs (b : Nat) : Nat → Int
  | 0 => 0
  | n + 1 => trs b n + (if hasf b n = 0 then 0 else 10 ^ n)
theorem trs_s {b : Nat} {i : Int} (h : 0 ≤ i) : trs b (i + 1).toNat = trs b i.toNat + (if hasf b i.toNat = 0 then 0 else 10 ^ i.toNat) := by
  rw [show (i + 1).toNat = i.toNat + 1 by omega, trs]
theorem ten_s {i : Int} (h : 0 ≤ i) : (10 : Int) ^ i.toNat * 10 = 10 ^ (i + 1).toNat := by
  rw [show (i + 1).toNat = i.toNat + 1 by omega, Int.pow_succ]
def mkv (q : Nat → Int → Int) (k g : Int) : Int := if k = 0 then q 17 (2 + g) else if k = 1 then q 17 (2 + g) + q 7 g else if k = 2 then q 17 (2 + g) - q 17 (6 + g) else if k = 3 then (q 17 (2 + g) + q 7 g) * 2 else if k = 4 then q 17 (2 + g) - q 17 (6 + g) + g else q 17 (2 + g) + q 17 0
def fMark (q : Nat → Int → Int) (v : Nat → Int) (k g : Int) : Sg := if ¬ ((0 ≤ k ∧ k ≤ 5) ∧ (0 ≤ g ∧ g ≤ q 3 0 - 1)) then (q, v, -1000000) else (q, va_up v 31 (v 31 + trs (bod k) 6), mkv q k g)
theorem pt_ste {G : pd_G} {M : pd_M} {d mc ms : Nat} {X : Option (Nat × (Nat → Int))} {R : pd_R} {pc : Nat} {lv : List (Option pv)} {st : List pv} (st2 : List pv) {sz ce sl : Nat} {hp : pd_P} (h : st = st2) (k : pd_T G M d mc ms X R pc lv st2 sz ce sl hp) : pd_T G M d mc ms X R pc lv st sz ce sl hp := by rw [h]; exact k
theorem lR_mark (G : pd_G) (sz : Nat) (hp : pd_P) {v : Nat → Int} {b : Nat} {k g : Int} (hb : b < 100) {R : pd_R} (hx : ∀  (hp0 : pd_P), hp0 = (va_up hp (178) (RO (va_up v 31 (v 31 + trs b (6 : Int).toNat)))) → pd_t G mR_mark 2 R 76 [some (vr 178), some (vi k), some (vi g), some (vi (b : Int)), some (vl (10 ^ (6 : Int).toNat)), none, some (vi (6))] [] sz hp0) : ∀ (n : Nat) (i : Int)  (hp0 : pd_P), 0 ≤ i → i + n = 6 → hp0 = (va_up hp (178) (RO (va_up v 31 (v 31 + trs b (i : Int).toNat)))) → pd_t G mR_mark 2 R 31 [some (vr 178), some (vi k), some (vi g), some (vi (b : Int)), some (vl (10 ^ (i : Int).toNat)), none, some (vi (i))] [] sz hp0 := by
  intro n
  induction n with
  | zero =>
    intro i  hp0 hi0 hiE he0
    have hiE2 : 6 = i := by omega
    subst hiE2
    have hx2 := hx  hp0 he0
    have hR := pg_s he0
    refine pt_iload eR_mark_31 rfl ?_
    refine pt_ic eR_mark_33 ?_
    refine pt_cge eR_mark_35 ⟨by omega, by omega⟩ ⟨by omega, by omega⟩ (fun c35 => ?_) (fun c35 => ?_)
    · exact hx2
    · exfalso; omega
  | succ n ih =>
    intro i  hp0 hi0 hiE he0
    have hR := pg_s he0
    refine pt_iload eR_mark_31 rfl ?_
    refine pt_ic eR_mark_33 ?_
    refine pt_cge eR_mark_35 ⟨by omega, by omega⟩ ⟨by omega, by omega⟩ (fun c35 => ?_) (fun c35 => ?_)
    · exfalso; omega
    · refine pt_aload eR_mark_38 rfl ?_
      refine pt_dupr eR_mark_39 ?_
      refine pt_get eR_mark_40 hR rfl ?_
      refine pt_iload eR_mark_43 rfl ?_
      refine pt_iload eR_mark_44 rfl ?_
      refine pt_ste (st2 := [vi (i.toNat : Int), vi (b : Int), vl (v 31 + trs b i.toNat), vr 178]) (by rw [Int.toNat_of_nonneg hi0]; rfl) ?_
      refine pt_ks2r eR_mark_46 (cR_has G sz _ (x := b) (k := i.toNat) (by omega) (by omega)) (Nat.le_of_ble_eq_true rfl) (by decide) (Nat.le_refl _) (Nat.le_refl _) ?_
      refine pt_zeq eR_mark_49 (hasf_j _ _) (fun c49 => ?_) (fun c49 => ?_)
      · refine pt_jc eR_mark_57 ?_
        refine pt_ladd eR_mark_58 ?_
        refine pt_put31 eR_mark_59 hR trivial ?_
        refine pt_gen ?_
        intro hp1 ev1
        have hR := pg_s ev1
        refine pt_lload eR_mark_62 rfl ?_
        refine pt_jc eR_mark_64 ?_
        refine pt_lmul eR_mark_67 ?_
        refine pt_lstore4 eR_mark_68 rfl ?_
        refine pt_inc6 eR_mark_70 rfl ?_
        refine pt_goto eR_mark_73 ?_
        have hfin : hp1 = (va_up hp (178) (RO (va_up v 31 (v 31 + trs b ((i + 1) : Int).toNat)))) := by
          rw [ev1, he0]
          have hs9 := trs_s (b := b) hi0
          rw [bx_uu]
          first
          | (rw [if_pos c49] at hs9
             exact congrArg (fun z => va_up hp 178 (RO (va_up v 31 z))) (show v 31 + trs b i.toNat + 0 = v 31 + trs b (i + 1).toNat by rw [hs9]; omega))
          | (rw [if_neg c49] at hs9
             exact congrArg (fun z => va_up hp 178 (RO (va_up v 31 z))) (show v 31 + trs b i.toNat + 10 ^ i.toNat = v 31 + trs b (i + 1).toNat by rw [hs9]; omega))
        rw [ten_s hi0]
        exact ih (i + 1)  _ (by omega) (by omega) hfin 
      · refine pt_lload eR_mark_52 rfl ?_
        refine pt_goto eR_mark_54 ?_
        refine pt_ladd eR_mark_58 ?_
        refine pt_put31 eR_mark_59 hR trivial ?_
        refine pt_gen ?_
        intro hp2 ev2
        have hR := pg_s ev2
        refine pt_lload eR_mark_62 rfl ?_
        refine pt_jc eR_mark_64 ?_
        refine pt_lmul eR_mark_67 ?_
        refine pt_lstore4 eR_mark_68 rfl ?_
        refine pt_inc6 eR_mark_70 rfl ?_
        refine pt_goto eR_mark_73 ?_
        have hfin : hp2 = (va_up hp (178) (RO (va_up v 31 (v 31 + trs b ((i + 1) : Int).toNat)))) := by
          rw [ev2, he0]
          have hs9 := trs_s (b := b) hi0
          rw [bx_uu]
          first
          | (rw [if_pos c49] at hs9
             exact congrArg (fun z => va_up hp 178 (RO (va_up v 31 z))) (show v 31 + trs b i.toNat + 0 = v 31 + trs b (i + 1).toNat by rw [hs9]; omega))
          | (rw [if_neg c49] at hs9
             exact congrArg (fun z => va_up hp 178 (RO (va_up v 31 z))) (show v 31 + trs b i.toNat + 10 ^ i.toNat = v 31 + trs b (i + 1).toNat by rw [hs9]; omega))
        rw [ten_s hi0]
        exact ih (i + 1)  _ (by omega) (by omega) hfin 
theorem wR_mark0 (G : pd_G) (sz : Nat) (hp : pd_P) {q : Nat → Int → Int} {v : Nat → Int} {g : Int} {l4 l5 l6 : Option pv} {R : pd_R} (hR : hp 178 = RO v) (h_now : hp 188 = ia 90 (q 17)) (h_worth : hp 185 = ia 8 (q 7)) (hl : ∀ z, l5 ≠ some (vl z)) (h0 : 0 ≤ g) (h1 : g < 4) (hfin : ∀ z : Int, z = q 17 (2 + g) → R (some (vi z)) sz hp) : pd_t G mR_mark 2 R 76 [some (vr 178), some (vi 0), some (vi g), some (vi 1), l4, none, l6] [] sz hp := by
  refine pt_aload eR_mark_76 rfl ?_
  refine pt_get eR_mark_77 hR rfl ?_
  refine pt_ic eR_mark_80 ?_
  refine pt_iload eR_mark_81 rfl ?_
  refine pt_iadd eR_mark_82 ?_
  refine pt_iald eR_mark_83 h_now (by omega) (by omega) (by decide) ?_
  refine pt_istore6 eR_mark_84 rfl ?_
  refine pt_iload eR_mark_86 rfl ?_
  refine pt_iload eR_mark_88 rfl ?_
  refine pt_ic eR_mark_89 ?_
  refine pt_ks2r eR_mark_90 (cR_has G sz _ (x := 1) (k := 1) (by decide) (by decide)) (Nat.le_of_ble_eq_true rfl) (by decide) (Nat.le_refl _) (Nat.le_refl _) ?_
  refine pt_zeqT eR_mark_93 (by decide) ?_
  refine pt_ic eR_mark_105 ?_
  refine pt_iadd eR_mark_106 ?_
  refine pt_istore6 eR_mark_107 rfl ?_
  refine pt_iload eR_mark_109 rfl ?_
  refine pt_iload eR_mark_111 rfl ?_
  refine pt_ic eR_mark_112 ?_
  refine pt_ks2r eR_mark_113 (cR_has G sz _ (x := 1) (k := 2) (by decide) (by decide)) (Nat.le_of_ble_eq_true rfl) (by decide) (Nat.le_refl _) (Nat.le_refl _) ?_
  refine pt_zeqT eR_mark_116 (by decide) ?_
  refine pt_ic eR_mark_131 ?_
  refine pt_isub eR_mark_132 ?_
  refine pt_istore6 eR_mark_133 rfl ?_
  refine pt_iload eR_mark_135 rfl ?_
  refine pt_ic eR_mark_136 ?_
  refine pt_ks2r eR_mark_137 (cR_has G sz _ (x := 1) (k := 3) (by decide) (by decide)) (Nat.le_of_ble_eq_true rfl) (by decide) (Nat.le_refl _) (Nat.le_refl _) ?_
  refine pt_zeqT eR_mark_140 (by decide) ?_
  refine pt_iload eR_mark_150 rfl ?_
  refine pt_istore6 eR_mark_152 rfl ?_
  refine pt_iload eR_mark_154 rfl ?_
  refine pt_iload eR_mark_156 rfl ?_
  refine pt_ic eR_mark_157 ?_
  refine pt_ks2r eR_mark_158 (cR_has G sz _ (x := 1) (k := 4) (by decide) (by decide)) (Nat.le_of_ble_eq_true rfl) (by decide) (Nat.le_refl _) (Nat.le_refl _) ?_
  refine pt_zeqT eR_mark_161 (by decide) ?_
  refine pt_ic eR_mark_168 ?_
  refine pt_iadd eR_mark_169 ?_
  refine pt_istore6 eR_mark_170 rfl ?_
  refine pt_iload eR_mark_172 rfl ?_
  refine pt_iload eR_mark_174 rfl ?_
  refine pt_ic eR_mark_175 ?_
  refine pt_ks2r eR_mark_176 (cR_has G sz _ (x := 1) (k := 5) (by decide) (by decide)) (Nat.le_of_ble_eq_true rfl) (by decide) (Nat.le_refl _) (Nat.le_refl _) ?_
  refine pt_zeqT eR_mark_179 (by decide) ?_
  refine pt_ic eR_mark_191 ?_
  refine pt_iadd eR_mark_192 ?_
  refine pt_istore6 eR_mark_193 rfl ?_
  refine pt_iload eR_mark_195 rfl ?_
  refine pt_iret eR_mark_197 (Nat.le_refl _) (Nat.le_refl _) ?_
  exact hfin _ (by omega)
theorem wR_mark1 (G : pd_G) (sz : Nat) (hp : pd_P) {q : Nat → Int → Int} {v : Nat → Int} {g : Int} {l4 l5 l6 : Option pv} {R : pd_R} (hR : hp 178 = RO v) (h_now : hp 188 = ia 90 (q 17)) (h_worth : hp 185 = ia 8 (q 7)) (hl : ∀ z, l5 ≠ some (vl z)) (h0 : 0 ≤ g) (h1 : g < 4) (hfin : ∀ z : Int, z = q 17 (2 + g) + q 7 g → R (some (vi z)) sz hp) : pd_t G mR_mark 2 R 76 [some (vr 178), some (vi 1), some (vi g), some (vi 3), l4, none, l6] [] sz hp := by
  refine pt_aload eR_mark_76 rfl ?_
  refine pt_get eR_mark_77 hR rfl ?_
  refine pt_ic eR_mark_80 ?_
  refine pt_iload eR_mark_81 rfl ?_
  refine pt_iadd eR_mark_82 ?_
  refine pt_iald eR_mark_83 h_now (by omega) (by omega) (by decide) ?_
  refine pt_istore6 eR_mark_84 rfl ?_
  refine pt_iload eR_mark_86 rfl ?_
  refine pt_iload eR_mark_88 rfl ?_
  refine pt_ic eR_mark_89 ?_
  refine pt_ks2r eR_mark_90 (cR_has G sz _ (x := 3) (k := 1) (by decide) (by decide)) (Nat.le_of_ble_eq_true rfl) (by decide) (Nat.le_refl _) (Nat.le_refl _) ?_
  refine pt_zeqF eR_mark_93 (by decide) ?_
  refine pt_aload eR_mark_96 rfl ?_
  refine pt_get eR_mark_97 hR rfl ?_
  refine pt_iload eR_mark_100 rfl ?_
  refine pt_iald eR_mark_101 h_worth (by omega) (by omega) (by decide) ?_
  refine pt_goto eR_mark_102 ?_
  refine pt_iadd eR_mark_106 ?_
  refine pt_istore6 eR_mark_107 rfl ?_
  refine pt_iload eR_mark_109 rfl ?_
  refine pt_iload eR_mark_111 rfl ?_
  refine pt_ic eR_mark_112 ?_
  refine pt_ks2r eR_mark_113 (cR_has G sz _ (x := 3) (k := 2) (by decide) (by decide)) (Nat.le_of_ble_eq_true rfl) (by decide) (Nat.le_refl _) (Nat.le_refl _) ?_
  refine pt_zeqT eR_mark_116 (by decide) ?_
  refine pt_ic eR_mark_131 ?_
  refine pt_isub eR_mark_132 ?_
  refine pt_istore6 eR_mark_133 rfl ?_
  refine pt_iload eR_mark_135 rfl ?_
  refine pt_ic eR_mark_136 ?_
  refine pt_ks2r eR_mark_137 (cR_has G sz _ (x := 3) (k := 3) (by decide) (by decide)) (Nat.le_of_ble_eq_true rfl) (by decide) (Nat.le_refl _) (Nat.le_refl _) ?_
  refine pt_zeqT eR_mark_140 (by decide) ?_
  refine pt_iload eR_mark_150 rfl ?_
  refine pt_istore6 eR_mark_152 rfl ?_
  refine pt_iload eR_mark_154 rfl ?_
  refine pt_iload eR_mark_156 rfl ?_
  refine pt_ic eR_mark_157 ?_
  refine pt_ks2r eR_mark_158 (cR_has G sz _ (x := 3) (k := 4) (by decide) (by decide)) (Nat.le_of_ble_eq_true rfl) (by decide) (Nat.le_refl _) (Nat.le_refl _) ?_
  refine pt_zeqT eR_mark_161 (by decide) ?_
  refine pt_ic eR_mark_168 ?_
  refine pt_iadd eR_mark_169 ?_
  refine pt_istore6 eR_mark_170 rfl ?_
  refine pt_iload eR_mark_172 rfl ?_
  refine pt_iload eR_mark_174 rfl ?_
  refine pt_ic eR_mark_175 ?_
  refine pt_ks2r eR_mark_176 (cR_has G sz _ (x := 3) (k := 5) (by decide) (by decide)) (Nat.le_of_ble_eq_true rfl) (by decide) (Nat.le_refl _) (Nat.le_refl _) ?_
  refine pt_zeqT eR_mark_179 (by decide) ?_
  refine pt_ic eR_mark_191 ?_
  refine pt_iadd eR_mark_192 ?_
  refine pt_istore6 eR_mark_193 rfl ?_
  refine pt_iload eR_mark_195 rfl ?_
  refine pt_iret eR_mark_197 (Nat.le_refl _) (Nat.le_refl _) ?_
  exact hfin _ (by omega)
theorem wR_mark2 (G : pd_G) (sz : Nat) (hp : pd_P) {q : Nat → Int → Int} {v : Nat → Int} {g : Int} {l4 l5 l6 : Option pv} {R : pd_R} (hR : hp 178 = RO v) (h_now : hp 188 = ia 90 (q 17)) (h_worth : hp 185 = ia 8 (q 7)) (hl : ∀ z, l5 ≠ some (vl z)) (h0 : 0 ≤ g) (h1 : g < 4) (hfin : ∀ z : Int, z = q 17 (2 + g) - q 17 (6 + g) → R (some (vi z)) sz hp) : pd_t G mR_mark 2 R 76 [some (vr 178), some (vi 2), some (vi g), some (vi 5), l4, none, l6] [] sz hp := by
  refine pt_aload eR_mark_76 rfl ?_
  refine pt_get eR_mark_77 hR rfl ?_
  refine pt_ic eR_mark_80 ?_
  refine pt_iload eR_mark_81 rfl ?_
  refine pt_iadd eR_mark_82 ?_
  refine pt_iald eR_mark_83 h_now (by omega) (by omega) (by decide) ?_
  refine pt_istore6 eR_mark_84 rfl ?_
  refine pt_iload eR_mark_86 rfl ?_
  refine pt_iload eR_mark_88 rfl ?_
  refine pt_ic eR_mark_89 ?_
  refine pt_ks2r eR_mark_90 (cR_has G sz _ (x := 5) (k := 1) (by decide) (by decide)) (Nat.le_of_ble_eq_true rfl) (by decide) (Nat.le_refl _) (Nat.le_refl _) ?_
  refine pt_zeqT eR_mark_93 (by decide) ?_
  refine pt_ic eR_mark_105 ?_
  refine pt_iadd eR_mark_106 ?_
  refine pt_istore6 eR_mark_107 rfl ?_
  refine pt_iload eR_mark_109 rfl ?_
  refine pt_iload eR_mark_111 rfl ?_
  refine pt_ic eR_mark_112 ?_
  refine pt_ks2r eR_mark_113 (cR_has G sz _ (x := 5) (k := 2) (by decide) (by decide)) (Nat.le_of_ble_eq_true rfl) (by decide) (Nat.le_refl _) (Nat.le_refl _) ?_
  refine pt_zeqF eR_mark_116 (by decide) ?_
  refine pt_aload eR_mark_119 rfl ?_
  refine pt_get eR_mark_120 hR rfl ?_
  refine pt_ic eR_mark_123 ?_
  refine pt_iload eR_mark_125 rfl ?_
  refine pt_iadd eR_mark_126 ?_
  refine pt_iald eR_mark_127 h_now (by omega) (by omega) (by decide) ?_
  refine pt_goto eR_mark_128 ?_
  refine pt_isub eR_mark_132 ?_
  refine pt_istore6 eR_mark_133 rfl ?_
  refine pt_iload eR_mark_135 rfl ?_
  refine pt_ic eR_mark_136 ?_
  refine pt_ks2r eR_mark_137 (cR_has G sz _ (x := 5) (k := 3) (by decide) (by decide)) (Nat.le_of_ble_eq_true rfl) (by decide) (Nat.le_refl _) (Nat.le_refl _) ?_
  refine pt_zeqT eR_mark_140 (by decide) ?_
  refine pt_iload eR_mark_150 rfl ?_
  refine pt_istore6 eR_mark_152 rfl ?_
  refine pt_iload eR_mark_154 rfl ?_
  refine pt_iload eR_mark_156 rfl ?_
  refine pt_ic eR_mark_157 ?_
  refine pt_ks2r eR_mark_158 (cR_has G sz _ (x := 5) (k := 4) (by decide) (by decide)) (Nat.le_of_ble_eq_true rfl) (by decide) (Nat.le_refl _) (Nat.le_refl _) ?_
  refine pt_zeqT eR_mark_161 (by decide) ?_
  refine pt_ic eR_mark_168 ?_
  refine pt_iadd eR_mark_169 ?_
  refine pt_istore6 eR_mark_170 rfl ?_
  refine pt_iload eR_mark_172 rfl ?_
  refine pt_iload eR_mark_174 rfl ?_
  refine pt_ic eR_mark_175 ?_
  refine pt_ks2r eR_mark_176 (cR_has G sz _ (x := 5) (k := 5) (by decide) (by decide)) (Nat.le_of_ble_eq_true rfl) (by decide) (Nat.le_refl _) (Nat.le_refl _) ?_
  refine pt_zeqT eR_mark_179 (by decide) ?_
  refine pt_ic eR_mark_191 ?_
  refine pt_iadd eR_mark_192 ?_
  refine pt_istore6 eR_mark_193 rfl ?_
  refine pt_iload eR_mark_195 rfl ?_
  refine pt_iret eR_mark_197 (Nat.le_refl _) (Nat.le_refl _) ?_
  exact hfin _ (by omega)
theorem wR_mark3 (G : pd_G) (sz : Nat) (hp : pd_P) {q : Nat → Int → Int} {v : Nat → Int} {g : Int} {l4 l5 l6 : Option pv} {R : pd_R} (hR : hp 178 = RO v) (h_now : hp 188 = ia 90 (q 17)) (h_worth : hp 185 = ia 8 (q 7)) (hl : ∀ z, l5 ≠ some (vl z)) (h0 : 0 ≤ g) (h1 : g < 4) (hfin : ∀ z : Int, z = (q 17 (2 + g) + q 7 g) * 2 → R (some (vi z)) sz hp) : pd_t G mR_mark 2 R 76 [some (vr 178), some (vi 3), some (vi g), some (vi 11), l4, none, l6] [] sz hp := by
  refine pt_aload eR_mark_76 rfl ?_
  refine pt_get eR_mark_77 hR rfl ?_
  refine pt_ic eR_mark_80 ?_
  refine pt_iload eR_mark_81 rfl ?_
  refine pt_iadd eR_mark_82 ?_
  refine pt_iald eR_mark_83 h_now (by omega) (by omega) (by decide) ?_
  refine pt_istore6 eR_mark_84 rfl ?_
  refine pt_iload eR_mark_86 rfl ?_
  refine pt_iload eR_mark_88 rfl ?_
  refine pt_ic eR_mark_89 ?_
  refine pt_ks2r eR_mark_90 (cR_has G sz _ (x := 11) (k := 1) (by decide) (by decide)) (Nat.le_of_ble_eq_true rfl) (by decide) (Nat.le_refl _) (Nat.le_refl _) ?_
  refine pt_zeqF eR_mark_93 (by decide) ?_
  refine pt_aload eR_mark_96 rfl ?_
  refine pt_get eR_mark_97 hR rfl ?_
  refine pt_iload eR_mark_100 rfl ?_
  refine pt_iald eR_mark_101 h_worth (by omega) (by omega) (by decide) ?_
  refine pt_goto eR_mark_102 ?_
  refine pt_iadd eR_mark_106 ?_
  refine pt_istore6 eR_mark_107 rfl ?_
  refine pt_iload eR_mark_109 rfl ?_
  refine pt_iload eR_mark_111 rfl ?_
  refine pt_ic eR_mark_112 ?_
  refine pt_ks2r eR_mark_113 (cR_has G sz _ (x := 11) (k := 2) (by decide) (by decide)) (Nat.le_of_ble_eq_true rfl) (by decide) (Nat.le_refl _) (Nat.le_refl _) ?_
  refine pt_zeqT eR_mark_116 (by decide) ?_
  refine pt_ic eR_mark_131 ?_
  refine pt_isub eR_mark_132 ?_
  refine pt_istore6 eR_mark_133 rfl ?_
  refine pt_iload eR_mark_135 rfl ?_
  refine pt_ic eR_mark_136 ?_
  refine pt_ks2r eR_mark_137 (cR_has G sz _ (x := 11) (k := 3) (by decide) (by decide)) (Nat.le_of_ble_eq_true rfl) (by decide) (Nat.le_refl _) (Nat.le_refl _) ?_
  refine pt_zeqF eR_mark_140 (by decide) ?_
  refine pt_ic eR_mark_143 ?_
  refine pt_iload eR_mark_144 rfl ?_
  refine pt_imul eR_mark_146 ?_
  refine pt_goto eR_mark_147 ?_
  refine pt_istore6 eR_mark_152 rfl ?_
  refine pt_iload eR_mark_154 rfl ?_
  refine pt_iload eR_mark_156 rfl ?_
  refine pt_ic eR_mark_157 ?_
  refine pt_ks2r eR_mark_158 (cR_has G sz _ (x := 11) (k := 4) (by decide) (by decide)) (Nat.le_of_ble_eq_true rfl) (by decide) (Nat.le_refl _) (Nat.le_refl _) ?_
  refine pt_zeqT eR_mark_161 (by decide) ?_
  refine pt_ic eR_mark_168 ?_
  refine pt_iadd eR_mark_169 ?_
  refine pt_istore6 eR_mark_170 rfl ?_
  refine pt_iload eR_mark_172 rfl ?_
  refine pt_iload eR_mark_174 rfl ?_
  refine pt_ic eR_mark_175 ?_
  refine pt_ks2r eR_mark_176 (cR_has G sz _ (x := 11) (k := 5) (by decide) (by decide)) (Nat.le_of_ble_eq_true rfl) (by decide) (Nat.le_refl _) (Nat.le_refl _) ?_
  refine pt_zeqT eR_mark_179 (by decide) ?_
  refine pt_ic eR_mark_191 ?_
  refine pt_iadd eR_mark_192 ?_
  refine pt_istore6 eR_mark_193 rfl ?_
  refine pt_iload eR_mark_195 rfl ?_
  refine pt_iret eR_mark_197 (Nat.le_refl _) (Nat.le_refl _) ?_
  exact hfin _ (by omega)
theorem wR_mark4 (G : pd_G) (sz : Nat) (hp : pd_P) {q : Nat → Int → Int} {v : Nat → Int} {g : Int} {l4 l5 l6 : Option pv} {R : pd_R} (hR : hp 178 = RO v) (h_now : hp 188 = ia 90 (q 17)) (h_worth : hp 185 = ia 8 (q 7)) (hl : ∀ z, l5 ≠ some (vl z)) (h0 : 0 ≤ g) (h1 : g < 4) (hfin : ∀ z : Int, z = q 17 (2 + g) - q 17 (6 + g) + g → R (some (vi z)) sz hp) : pd_t G mR_mark 2 R 76 [some (vr 178), some (vi 4), some (vi g), some (vi 21), l4, none, l6] [] sz hp := by
  refine pt_aload eR_mark_76 rfl ?_
  refine pt_get eR_mark_77 hR rfl ?_
  refine pt_ic eR_mark_80 ?_
  refine pt_iload eR_mark_81 rfl ?_
  refine pt_iadd eR_mark_82 ?_
  refine pt_iald eR_mark_83 h_now (by omega) (by omega) (by decide) ?_
  refine pt_istore6 eR_mark_84 rfl ?_
  refine pt_iload eR_mark_86 rfl ?_
  refine pt_iload eR_mark_88 rfl ?_
  refine pt_ic eR_mark_89 ?_
  refine pt_ks2r eR_mark_90 (cR_has G sz _ (x := 21) (k := 1) (by decide) (by decide)) (Nat.le_of_ble_eq_true rfl) (by decide) (Nat.le_refl _) (Nat.le_refl _) ?_
  refine pt_zeqT eR_mark_93 (by decide) ?_
  refine pt_ic eR_mark_105 ?_
  refine pt_iadd eR_mark_106 ?_
  refine pt_istore6 eR_mark_107 rfl ?_
  refine pt_iload eR_mark_109 rfl ?_
  refine pt_iload eR_mark_111 rfl ?_
  refine pt_ic eR_mark_112 ?_
  refine pt_ks2r eR_mark_113 (cR_has G sz _ (x := 21) (k := 2) (by decide) (by decide)) (Nat.le_of_ble_eq_true rfl) (by decide) (Nat.le_refl _) (Nat.le_refl _) ?_
  refine pt_zeqF eR_mark_116 (by decide) ?_
  refine pt_aload eR_mark_119 rfl ?_
  refine pt_get eR_mark_120 hR rfl ?_
  refine pt_ic eR_mark_123 ?_
  refine pt_iload eR_mark_125 rfl ?_
  refine pt_iadd eR_mark_126 ?_
  refine pt_iald eR_mark_127 h_now (by omega) (by omega) (by decide) ?_
  refine pt_goto eR_mark_128 ?_
  refine pt_isub eR_mark_132 ?_
  refine pt_istore6 eR_mark_133 rfl ?_
  refine pt_iload eR_mark_135 rfl ?_
  refine pt_ic eR_mark_136 ?_
  refine pt_ks2r eR_mark_137 (cR_has G sz _ (x := 21) (k := 3) (by decide) (by decide)) (Nat.le_of_ble_eq_true rfl) (by decide) (Nat.le_refl _) (Nat.le_refl _) ?_
  refine pt_zeqT eR_mark_140 (by decide) ?_
  refine pt_iload eR_mark_150 rfl ?_
  refine pt_istore6 eR_mark_152 rfl ?_
  refine pt_iload eR_mark_154 rfl ?_
  refine pt_iload eR_mark_156 rfl ?_
  refine pt_ic eR_mark_157 ?_
  refine pt_ks2r eR_mark_158 (cR_has G sz _ (x := 21) (k := 4) (by decide) (by decide)) (Nat.le_of_ble_eq_true rfl) (by decide) (Nat.le_refl _) (Nat.le_refl _) ?_
  refine pt_zeqF eR_mark_161 (by decide) ?_
  refine pt_iload eR_mark_164 rfl ?_
  refine pt_goto eR_mark_165 ?_
  refine pt_iadd eR_mark_169 ?_
  refine pt_istore6 eR_mark_170 rfl ?_
  refine pt_iload eR_mark_172 rfl ?_
  refine pt_iload eR_mark_174 rfl ?_
  refine pt_ic eR_mark_175 ?_
  refine pt_ks2r eR_mark_176 (cR_has G sz _ (x := 21) (k := 5) (by decide) (by decide)) (Nat.le_of_ble_eq_true rfl) (by decide) (Nat.le_refl _) (Nat.le_refl _) ?_
  refine pt_zeqT eR_mark_179 (by decide) ?_
  refine pt_ic eR_mark_191 ?_
  refine pt_iadd eR_mark_192 ?_
  refine pt_istore6 eR_mark_193 rfl ?_
  refine pt_iload eR_mark_195 rfl ?_
  refine pt_iret eR_mark_197 (Nat.le_refl _) (Nat.le_refl _) ?_
  exact hfin _ (by omega)
theorem wR_mark5 (G : pd_G) (sz : Nat) (hp : pd_P) {q : Nat → Int → Int} {v : Nat → Int} {g : Int} {l4 l5 l6 : Option pv} {R : pd_R} (hR : hp 178 = RO v) (h_now : hp 188 = ia 90 (q 17)) (h_worth : hp 185 = ia 8 (q 7)) (hl : ∀ z, l5 ≠ some (vl z)) (h0 : 0 ≤ g) (h1 : g < 4) (hfin : ∀ z : Int, z = q 17 (2 + g) + q 17 0 → R (some (vi z)) sz hp) : pd_t G mR_mark 2 R 76 [some (vr 178), some (vi 5), some (vi g), some (vi 33), l4, none, l6] [] sz hp := by
  refine pt_aload eR_mark_76 rfl ?_
  refine pt_get eR_mark_77 hR rfl ?_
  refine pt_ic eR_mark_80 ?_
  refine pt_iload eR_mark_81 rfl ?_
  refine pt_iadd eR_mark_82 ?_
  refine pt_iald eR_mark_83 h_now (by omega) (by omega) (by decide) ?_
  refine pt_istore6 eR_mark_84 rfl ?_
  refine pt_iload eR_mark_86 rfl ?_
  refine pt_iload eR_mark_88 rfl ?_
  refine pt_ic eR_mark_89 ?_
  refine pt_ks2r eR_mark_90 (cR_has G sz _ (x := 33) (k := 1) (by decide) (by decide)) (Nat.le_of_ble_eq_true rfl) (by decide) (Nat.le_refl _) (Nat.le_refl _) ?_
  refine pt_zeqT eR_mark_93 (by decide) ?_
  refine pt_ic eR_mark_105 ?_
  refine pt_iadd eR_mark_106 ?_
  refine pt_istore6 eR_mark_107 rfl ?_
  refine pt_iload eR_mark_109 rfl ?_
  refine pt_iload eR_mark_111 rfl ?_
  refine pt_ic eR_mark_112 ?_
  refine pt_ks2r eR_mark_113 (cR_has G sz _ (x := 33) (k := 2) (by decide) (by decide)) (Nat.le_of_ble_eq_true rfl) (by decide) (Nat.le_refl _) (Nat.le_refl _) ?_
  refine pt_zeqT eR_mark_116 (by decide) ?_
  refine pt_ic eR_mark_131 ?_
  refine pt_isub eR_mark_132 ?_
  refine pt_istore6 eR_mark_133 rfl ?_
  refine pt_iload eR_mark_135 rfl ?_
  refine pt_ic eR_mark_136 ?_
  refine pt_ks2r eR_mark_137 (cR_has G sz _ (x := 33) (k := 3) (by decide) (by decide)) (Nat.le_of_ble_eq_true rfl) (by decide) (Nat.le_refl _) (Nat.le_refl _) ?_
  refine pt_zeqT eR_mark_140 (by decide) ?_
  refine pt_iload eR_mark_150 rfl ?_
  refine pt_istore6 eR_mark_152 rfl ?_
  refine pt_iload eR_mark_154 rfl ?_
  refine pt_iload eR_mark_156 rfl ?_
  refine pt_ic eR_mark_157 ?_
  refine pt_ks2r eR_mark_158 (cR_has G sz _ (x := 33) (k := 4) (by decide) (by decide)) (Nat.le_of_ble_eq_true rfl) (by decide) (Nat.le_refl _) (Nat.le_refl _) ?_
  refine pt_zeqT eR_mark_161 (by decide) ?_
  refine pt_ic eR_mark_168 ?_
  refine pt_iadd eR_mark_169 ?_
  refine pt_istore6 eR_mark_170 rfl ?_
  refine pt_iload eR_mark_172 rfl ?_
  refine pt_iload eR_mark_174 rfl ?_
  refine pt_ic eR_mark_175 ?_
  refine pt_ks2r eR_mark_176 (cR_has G sz _ (x := 33) (k := 5) (by decide) (by decide)) (Nat.le_of_ble_eq_true rfl) (by decide) (Nat.le_refl _) (Nat.le_refl _) ?_
  refine pt_zeqF eR_mark_179 (by decide) ?_
  refine pt_aload eR_mark_182 rfl ?_
  refine pt_get eR_mark_183 hR rfl ?_
  refine pt_ic eR_mark_186 ?_
  refine pt_iald eR_mark_187 h_now (by omega) (by omega) (by decide) ?_
  refine pt_goto eR_mark_188 ?_
  refine pt_iadd eR_mark_192 ?_
  refine pt_istore6 eR_mark_193 rfl ?_
  refine pt_iload eR_mark_195 rfl ?_
  refine pt_iret eR_mark_197 (Nat.le_refl _) (Nat.le_refl _) ?_
  exact hfin _ (by omega)
theorem xR_mark (G : pd_G) (sz : Nat) (hp : pd_P) {q : Nat → Int → Int} {v : Nat → Int} (hM : MW hp q v) (hI : IN q v) {k : Int} (j_k : jR k) {g : Int} (j_g : jR g) : pd_c G mR_mark 2 [vr 178, vi k, vi g] sz hp (mPost hp sz (fMark q v k g)) := by
  refine pd_con kR_mark [some (vr 178), some (vi k), some (vi g), none, none, none, none] rfl rfl (Nat.le_of_ble_eq_true rfl) ?_
  obtain ⟨⟨ig0, ig4⟩, ⟨id0, id1, id2, id3⟩, iB, iM, iU, iF, iS, iP, iI, ⟨is0, is4, isx⟩, ⟨im0, im4, imx⟩, it0, it1⟩ := hI
  have k_k := j_k
  unfold jR at k_k
  have k_g := j_g
  unfold jR at k_g
  have hR := hM.1
  have h_goods := hM.w_goods
  refine pt_iload eR_mark_0 rfl ?_
  refine pt_ic eR_mark_1 ?_
  refine pt_ic eR_mark_2 ?_
  refine pt_ks3r eR_mark_3 (cR_in G sz _ (by unfold jR at *; omega) (by unfold jR at *; omega) (by unfold jR at *; omega)) (Nat.le_of_ble_eq_true rfl) (by decide) (Nat.le_refl _) (Nat.le_refl _) ?_
  refine pt_zeq eR_mark_6 (pwi_j _ _ _) (fun c6 => ?_) (fun c6 => ?_)
  · refine pt_ic eR_mark_17 ?_
    refine pt_iret eR_mark_19 (Nat.le_refl _) (Nat.le_refl _) ?_
    first
    | (have c6 := pwi_0 c6
       rw [show fMark q v k g = (q, v, -1000000) by unfold fMark; rw [if_pos (fun z => c6 z.1)]]
       exact ⟨rfl, rfl, hM, fr.rf⟩)
    | (have c14 := pwi_0 c14
       rw [show fMark q v k g = (q, v, -1000000) by unfold fMark; rw [if_pos (fun z => c14 z.2)]]
       exact ⟨rfl, rfl, hM, fr.rf⟩)
  · have c6 := pwi_1 c6
    refine pt_aload eR_mark_9 rfl ?_
    refine pt_iload eR_mark_10 rfl ?_
    refine pt_kv1r eR_mark_11 (cR_isGood G sz _ hR h_goods j_g ig0 ig4) hR rfl (Nat.le_of_ble_eq_true rfl) (by decide) (Nat.le_refl _) (Nat.le_refl _) ?_
    refine pt_zne eR_mark_14 (pwi_j _ _ _) (fun c14 => ?_) (fun c14 => ?_)
    · have c14 := pwi_1 c14
      refine pt_iload eR_mark_20 rfl ?_
      refine pt_ks1r eR_mark_21 (cR_bodiesOf G sz _ c6.1 c6.2) (Nat.le_of_ble_eq_true rfl) (by decide) (Nat.le_refl _) (Nat.le_refl _) ?_
      refine pt_istore3 eR_mark_24 rfl ?_
      refine pt_jc eR_mark_25 ?_
      refine pt_lstore4 eR_mark_26 rfl ?_
      refine pt_ic eR_mark_28 ?_
      refine pt_istore6 eR_mark_29 rfl ?_
      have hbd : bod k < 100 := by unfold bod; split <;> (try split) <;> (try split) <;> (try split) <;> (try split) <;> decide
      refine lR_mark G sz hp (v := v) (b := bod k) hbd (fun hp5 he5 => ?_) 6 0 hp (by omega) (by omega) ?_
      · have hM5 := hM.s_v (va_up v 31 (v 31 + trs (bod k) 6))
        rw [show ((6 : Int).toNat) = 6 from rfl] at he5
        rw [← he5] at hM5
        rw [show fMark q v k g = _ by unfold fMark; rw [if_neg (fun z => z ⟨c6, c14⟩)]]
        have hR := hM5.1
        have h_now : hp5 188 = ia 90 (q 17) := hM5.w_now
        have h_worth : hp5 185 = ia 8 (q 7) := hM5.w_worth
        have hfr5 : fr hp hp5 178 200 := fr.rf.up he5 (by decide) (by decide)
        rcases (show k = 0 ∨ k = 1 ∨ k = 2 ∨ k = 3 ∨ k = 4 ∨ k = 5 by omega) with rfl | rfl | rfl | rfl | rfl | rfl
        · exact wR_mark0 G sz hp5 hR h_now h_worth (l5 := none) (fun z hz => by cases hz) (by omega) (by omega) (fun z hz => ⟨by rw [hz]; rfl, rfl, hM5, hfr5⟩)
        · exact wR_mark1 G sz hp5 hR h_now h_worth (l5 := none) (fun z hz => by cases hz) (by omega) (by omega) (fun z hz => ⟨by rw [hz]; rfl, rfl, hM5, hfr5⟩)
        · exact wR_mark2 G sz hp5 hR h_now h_worth (l5 := none) (fun z hz => by cases hz) (by omega) (by omega) (fun z hz => ⟨by rw [hz]; rfl, rfl, hM5, hfr5⟩)
        · exact wR_mark3 G sz hp5 hR h_now h_worth (l5 := none) (fun z hz => by cases hz) (by omega) (by omega) (fun z hz => ⟨by rw [hz]; rfl, rfl, hM5, hfr5⟩)
        · exact wR_mark4 G sz hp5 hR h_now h_worth (l5 := none) (fun z hz => by cases hz) (by omega) (by omega) (fun z hz => ⟨by rw [hz]; rfl, rfl, hM5, hfr5⟩)
        · exact wR_mark5 G sz hp5 hR h_now h_worth (l5 := none) (fun z hz => by cases hz) (by omega) (by omega) (fun z hz => ⟨by rw [hz]; rfl, rfl, hM5, hfr5⟩)
      · refine pu_self ?_
        rw [hR]
        show RO v = RO (va_up v 31 (v 31 + 0))
        rw [Int.add_zero]
        rfl
    · refine pt_ic eR_mark_17 ?_
      refine pt_iret eR_mark_19 (Nat.le_refl _) (Nat.le_refl _) ?_
      first
      | (have c6 := pwi_0 c6
         rw [show fMark q v k g = (q, v, -1000000) by unfold fMark; rw [if_pos (fun z => c6 z.1)]]
         exact ⟨rfl, rfl, hM, fr.rf⟩)
      | (have c14 := pwi_0 c14
         rw [show fMark q v k g = (q, v, -1000000) by unfold fMark; rw [if_pos (fun z => c14 z.2)]]
         exact ⟨rfl, rfl, hM, fr.rf⟩)
theorem xR_trace (G : pd_G) (sz : Nat) (hp : pd_P) {q : Nat → Int → Int} {v : Nat → Int} (hM : MW hp q v) : pd_c G mR_trace 0 [vr 178] sz hp (fun v' sz' hp' => v' = some (vl (v 31)) ∧ sz' = sz ∧ hp' = hp) := by
  refine pd_con kR_trace [some (vr 178)] rfl rfl (Nat.le_of_ble_eq_true rfl) ?_
  have hR := hM.1
  refine pt_aload eR_trace_0 rfl ?_
  refine pt_get eR_trace_1 hR rfl ?_
  refine pt_lret eR_trace_4 (Nat.le_refl _) (Nat.le_refl _) ?_
  exact ⟨rfl, rfl, rfl⟩
theorem xD_trace (G : pd_G) (sz : Nat) (hp : pd_P) {to dr : Nat} {q : Nat → Int → Int} {v : Nat → Int} (hC : CW hp to dr q v) : pd_c G mD_trace 0 [vr 1] sz hp (fun v' sz' hp' => v' = some (vl (v 31)) ∧ sz' = sz ∧ hp' = hp) := by
  refine pd_con kD_trace [some (vr 1), none, none, none] rfl rfl (Nat.le_of_ble_eq_true rfl) ?_
  obtain ⟨hto, hDo, hTx, hHs, hHd, hLf, hI0, hI1, hGo, hPl⟩ := hC
  have hDo2 := hDo
  obtain ⟨hD, ⟨imf, hIm, him0, him1⟩, hKp, hSg, hSt, hGd, hGt⟩ := hDo2
  have hGo2 := hGo
  obtain ⟨kf, t0, t1, t2, t3, t4, t5, hK, hkf, hg0, hg1, hg2, hg3, hg4, hg5, hgs⟩ := hGo2
  refine pt_jc eD_trace_0 ?_
  refine pt_lstore1 eD_trace_1 rfl ?_
  refine pt_ic eD_trace_2 ?_
  refine pt_istore3 eD_trace_3 rfl ?_
  refine pt_iload eD_trace_4 rfl ?_
  refine pt_aload eD_trace_5 rfl ?_
  refine pt_get eD_trace_6 hD rfl ?_
  refine pt_alen eD_trace_9 hK rfl ?_
  refine pt_cgeF eD_trace_10 ⟨by decide, ⟨by decide, by decide⟩, ⟨by decide, by decide⟩⟩ ?_
  refine pt_lload eD_trace_13 rfl ?_
  refine pt_aload eD_trace_14 rfl ?_
  refine pt_get eD_trace_15 hD rfl ?_
  refine pt_iload eD_trace_18 rfl ?_
  refine pt_aald eD_trace_19 hK rfl (by decide) (by decide) (by decide) (hkf 0 (by decide)) ?_
  refine pt_get eD_trace_20_2 hg0 rfl ?_
  refine pt_ladd eD_trace_23 ?_
  refine pt_lstore1 eD_trace_24 rfl ?_
  refine pt_inc3 eD_trace_25 rfl ?_
  refine pt_goto eD_trace_28 ?_
  refine pt_iload eD_trace_4 rfl ?_
  refine pt_aload eD_trace_5 rfl ?_
  refine pt_get eD_trace_6 hD rfl ?_
  refine pt_alen eD_trace_9 hK rfl ?_
  refine pt_cgeF eD_trace_10 ⟨by decide, ⟨by decide, by decide⟩, ⟨by decide, by decide⟩⟩ ?_
  refine pt_lload eD_trace_13 rfl ?_
  refine pt_aload eD_trace_14 rfl ?_
  refine pt_get eD_trace_15 hD rfl ?_
  refine pt_iload eD_trace_18 rfl ?_
  refine pt_aald eD_trace_19 hK rfl (by decide) (by decide) (by decide) (hkf 1 (by decide)) ?_
  refine pt_get eD_trace_20_9 hg1 rfl ?_
  refine pt_ladd eD_trace_23 ?_
  refine pt_lstore1 eD_trace_24 rfl ?_
  refine pt_inc3 eD_trace_25 rfl ?_
  refine pt_goto eD_trace_28 ?_
  refine pt_iload eD_trace_4 rfl ?_
  refine pt_aload eD_trace_5 rfl ?_
  refine pt_get eD_trace_6 hD rfl ?_
  refine pt_alen eD_trace_9 hK rfl ?_
  refine pt_cgeF eD_trace_10 ⟨by decide, ⟨by decide, by decide⟩, ⟨by decide, by decide⟩⟩ ?_
  refine pt_lload eD_trace_13 rfl ?_
  refine pt_aload eD_trace_14 rfl ?_
  refine pt_get eD_trace_15 hD rfl ?_
  refine pt_iload eD_trace_18 rfl ?_
  refine pt_aald eD_trace_19 hK rfl (by decide) (by decide) (by decide) (hkf 2 (by decide)) ?_
  refine pt_get eD_trace_20_3 hg2 rfl ?_
  refine pt_ladd eD_trace_23 ?_
  refine pt_lstore1 eD_trace_24 rfl ?_
  refine pt_inc3 eD_trace_25 rfl ?_
  refine pt_goto eD_trace_28 ?_
  refine pt_iload eD_trace_4 rfl ?_
  refine pt_aload eD_trace_5 rfl ?_
  refine pt_get eD_trace_6 hD rfl ?_
  refine pt_alen eD_trace_9 hK rfl ?_
  refine pt_cgeF eD_trace_10 ⟨by decide, ⟨by decide, by decide⟩, ⟨by decide, by decide⟩⟩ ?_
  refine pt_lload eD_trace_13 rfl ?_
  refine pt_aload eD_trace_14 rfl ?_
  refine pt_get eD_trace_15 hD rfl ?_
  refine pt_iload eD_trace_18 rfl ?_
  refine pt_aald eD_trace_19 hK rfl (by decide) (by decide) (by decide) (hkf 3 (by decide)) ?_
  refine pt_get eD_trace_20_1 hg3 rfl ?_
  refine pt_ladd eD_trace_23 ?_
  refine pt_lstore1 eD_trace_24 rfl ?_
  refine pt_inc3 eD_trace_25 rfl ?_
  refine pt_goto eD_trace_28 ?_
  refine pt_iload eD_trace_4 rfl ?_
  refine pt_aload eD_trace_5 rfl ?_
  refine pt_get eD_trace_6 hD rfl ?_
  refine pt_alen eD_trace_9 hK rfl ?_
  refine pt_cgeF eD_trace_10 ⟨by decide, ⟨by decide, by decide⟩, ⟨by decide, by decide⟩⟩ ?_
  refine pt_lload eD_trace_13 rfl ?_
  refine pt_aload eD_trace_14 rfl ?_
  refine pt_get eD_trace_15 hD rfl ?_
  refine pt_iload eD_trace_18 rfl ?_
  refine pt_aald eD_trace_19 hK rfl (by decide) (by decide) (by decide) (hkf 4 (by decide)) ?_
  refine pt_get eD_trace_20_5 hg4 rfl ?_
  refine pt_ladd eD_trace_23 ?_
  refine pt_lstore1 eD_trace_24 rfl ?_
  refine pt_inc3 eD_trace_25 rfl ?_
  refine pt_goto eD_trace_28 ?_
  refine pt_iload eD_trace_4 rfl ?_
  refine pt_aload eD_trace_5 rfl ?_
  refine pt_get eD_trace_6 hD rfl ?_
  refine pt_alen eD_trace_9 hK rfl ?_
  refine pt_cgeF eD_trace_10 ⟨by decide, ⟨by decide, by decide⟩, ⟨by decide, by decide⟩⟩ ?_
  refine pt_lload eD_trace_13 rfl ?_
  refine pt_aload eD_trace_14 rfl ?_
  refine pt_get eD_trace_15 hD rfl ?_
  refine pt_iload eD_trace_18 rfl ?_
  refine pt_aald eD_trace_19 hK rfl (by decide) (by decide) (by decide) (hkf 5 (by decide)) ?_
  refine pt_get eD_trace_20_0 hg5 rfl ?_
  refine pt_ladd eD_trace_23 ?_
  refine pt_lstore1 eD_trace_24 rfl ?_
  refine pt_inc3 eD_trace_25 rfl ?_
  refine pt_goto eD_trace_28 ?_
  refine pt_iload eD_trace_4 rfl ?_
  refine pt_aload eD_trace_5 rfl ?_
  refine pt_get eD_trace_6 hD rfl ?_
  refine pt_alen eD_trace_9 hK rfl ?_
  refine pt_cgeT eD_trace_10 ⟨by decide, ⟨by decide, by decide⟩, ⟨by decide, by decide⟩⟩ ?_
  refine pt_lload eD_trace_31 rfl ?_
  refine pt_lret eD_trace_32 (Nat.le_refl _) (Nat.le_refl _) ?_
  exact ⟨by rw [← hgs, Int.zero_add], rfl, rfl⟩
theorem xD_mark (G : pd_G) (sz : Nat) (hp : pd_P) {to dr : Nat} {q : Nat → Int → Int} {v : Nat → Int} (hC : CW hp to dr q v) (hI : IN q v) {k : Int} (j_k : jR k) {g : Int} (j_g : jR g) : pd_c G mD_mark 4 [vr 1, vi k, vi g] sz hp (cPost hp sz (fMark q v k g)) := by
  refine pd_con kD_mark [some (vr 1), some (vi k), some (vi g)] rfl rfl (Nat.le_of_ble_eq_true rfl) ?_
  obtain ⟨⟨ig0, ig4⟩, ⟨id0, id1, id2, id3⟩, iB, iM, iU, iF, iS, iP, iI, ⟨is0, is4, isx⟩, ⟨im0, im4, imx⟩, it0, it1⟩ := hI
  have k_k := j_k
  unfold jR at k_k
  have k_g := j_g
  unfold jR at k_g
  have hC0 := hC
  obtain ⟨hto, hDo, hTx, hHs, hHd, hLf, hI0, hI1, hGo, hPl⟩ := hC
  have hDo2 := hDo
  obtain ⟨hD, ⟨imf, hIm, him0, him1⟩, hKp, hSg, hSt, hGd, hGt⟩ := hDo2
  have hHs2 := hHs
  obtain ⟨fi, us, we, wo, stt, hHo, hag, hstt⟩ := hHs2
  have hHo2 := hHo
  obtain ⟨hH, hH1, hH2, hH3, hH4, hH5, hH6, hH7⟩ := hHo2
  have hLf2 := hLf
  obtain ⟨Q, hLi, hQ⟩ := hLf2
  have hL := hLi.1
  obtain ⟨hN, hNt, hNl, hNk⟩ := hLi.2.1
  have hGo2 := hGo
  obtain ⟨kf, t0, t1, t2, t3, t4, t5, hK, hkf, hg0, hg1, hg2, hg3, hg4, hg5, hgs⟩ := hGo2
  refine pt_iload eD_mark_0 rfl ?_
  refine pt_ic eD_mark_1 ?_
  refine pt_aload eD_mark_2 rfl ?_
  refine pt_get eD_mark_3 hD rfl ?_
  refine pt_alen eD_mark_6 hK rfl ?_
  refine pt_ic eD_mark_7 ?_
  refine pt_isub eD_mark_8 ?_
  refine pt_ks3r eD_mark_9 (cD_within G sz _ (by unfold jR at *; omega) (by unfold jR at *; omega) (by unfold jR at *; omega)) (Nat.le_of_ble_eq_true rfl) (by decide) (Nat.le_refl _) (Nat.le_refl _) ?_
  refine pt_zeq eD_mark_12 (pwi_j _ _ _) (fun c12 => ?_) (fun c12 => ?_)
  · refine pt_ic eD_mark_26 ?_
    refine pt_iret eD_mark_29 (Nat.le_refl _) (Nat.le_refl _) ?_
    first
    | (have c12 := pwi_0 c12
       rw [show fMark q v k g = (q, v, -1000000) by unfold fMark; rw [if_pos (fun z => c12 z.1)]]
       exact ⟨rfl, rfl, ⟨to, dr, hC0⟩, fr.rf⟩)
    | (have c23 := pwi_0 c23
       rw [show fMark q v k g = (q, v, -1000000) by unfold fMark; rw [if_pos (fun z => c23 z.2)]]
       exact ⟨rfl, rfl, ⟨to, dr, hC0⟩, fr.rf⟩)
  · have c12 := pwi_1 c12
    refine pt_aload eD_mark_15 rfl ?_
    refine pt_get eD_mark_16 hD rfl ?_
    refine pt_iload eD_mark_19 rfl ?_
    refine pt_kv1r eD_mark_20 (cH_has G sz _ hH j_g ig0 ig4) hH rfl (Nat.le_of_ble_eq_true rfl) (by decide) (Nat.le_refl _) (Nat.le_refl _) ?_
    refine pt_zne eD_mark_23 (pwi_j _ _ _) (fun c23 => ?_) (fun c23 => ?_)
    · have c23 := pwi_1 c23
      rcases (show k = 0 ∨ k = 1 ∨ k = 2 ∨ k = 3 ∨ k = 4 ∨ k = 5 by omega) with rfl | rfl | rfl | rfl | rfl | rfl
      · refine pt_aload eD_mark_30 rfl ?_
        refine pt_get eD_mark_31 hD rfl ?_
        refine pt_iload eD_mark_34 rfl ?_
        refine pt_aald eD_mark_35 hK rfl (by decide) (by decide) (by decide) (hkf 0 (by decide)) ?_
        refine pt_aload eD_mark_36 rfl ?_
        refine pt_get eD_mark_37 hD rfl ?_
        refine pt_aload eD_mark_40 rfl ?_
        refine pt_get eD_mark_41 hD rfl ?_
        refine pt_get eD_mark_44 hL rfl ?_
        refine pt_iload eD_mark_47 rfl ?_
        refine pt_kv3 eD_mark_48_2 (cG_marks_2 G sz _ hg0 hLi.2.1 (by decide) (by omega) (by omega) hH hH4 (by omega)) hg0 rfl (Nat.le_of_ble_eq_true rfl) (by decide) (Nat.le_refl _) (Nat.le_refl _) ?_
        rintro v2 sz2 hpx ⟨rfl, hz9, hx9⟩
        obtain rfl := hz9.symm
        have hx9a := pg_s hx9
        refine pt_iret eD_mark_51 (Nat.le_refl _) (Nat.le_refl _) ?_
        have hfr : fr hp hpx 63 70 := fr.rf.up hx9 (by decide) (by decide)
        rw [show fMark q v 0 g = _ by unfold fMark; rw [if_neg (fun z => z ⟨c12, c23⟩)]]
        refine ⟨?_, rfl, ⟨to, dr, hto, hDo.keep hfr (by omega), hTx.keep hfr (by omega), hHs.keep hfr (by omega), hHd.keep hfr (by omega), hLf.keep hfr (by omega), hI0.keep hfr (by omega), hI1.keep hfr (by omega), ⟨kf, t0 + 1, t1, t2, t3, t4, t5, pg_n hx9 (by decide) hK, hkf, hx9a, pg_n hx9 (by decide) hg1, pg_n hx9 (by decide) hg2, pg_n hx9 (by decide) hg3, pg_n hx9 (by decide) hg4, pg_n hx9 (by decide) hg5, ?_⟩, hPl.keep hfr (by omega)⟩, fun k hk => hfr k (by omega)⟩
        · show some (vi _) = some (vi (mkv q 0 g))
          congr 2
          try rw [(hag g c23.1 (by omega)).2.2.2]
          try rfl
        · show _ = v 31 + trs (bod 0) 6
          rw [show trs (bod 0) 6 = 1 from by decide]
          omega
      · refine pt_aload eD_mark_30 rfl ?_
        refine pt_get eD_mark_31 hD rfl ?_
        refine pt_iload eD_mark_34 rfl ?_
        refine pt_aald eD_mark_35 hK rfl (by decide) (by decide) (by decide) (hkf 1 (by decide)) ?_
        refine pt_aload eD_mark_36 rfl ?_
        refine pt_get eD_mark_37 hD rfl ?_
        refine pt_aload eD_mark_40 rfl ?_
        refine pt_get eD_mark_41 hD rfl ?_
        refine pt_get eD_mark_44 hL rfl ?_
        refine pt_iload eD_mark_47 rfl ?_
        refine pt_ku3 eD_mark_48_9 (cSu_marks_9 G sz _ hg1 hLi.2.1 (by decide) (by omega) (by omega) hH hH4 (by omega)) hg1 rfl (Nat.le_of_ble_eq_true rfl) (by decide) (Nat.le_refl _) (Nat.le_refl _) ?_
        rintro v2 sz2 hpx ⟨rfl, hz9, hx9⟩
        obtain rfl := hz9.symm
        have hx9a := pg_s hx9
        refine pt_iret eD_mark_51 (Nat.le_refl _) (Nat.le_refl _) ?_
        have hfr : fr hp hpx 63 70 := fr.rf.up hx9 (by decide) (by decide)
        rw [show fMark q v 1 g = _ by unfold fMark; rw [if_neg (fun z => z ⟨c12, c23⟩)]]
        refine ⟨?_, rfl, ⟨to, dr, hto, hDo.keep hfr (by omega), hTx.keep hfr (by omega), hHs.keep hfr (by omega), hHd.keep hfr (by omega), hLf.keep hfr (by omega), hI0.keep hfr (by omega), hI1.keep hfr (by omega), ⟨kf, t0, t1 + 11, t2, t3, t4, t5, pg_n hx9 (by decide) hK, hkf, pg_n hx9 (by decide) hg0, hx9a, pg_n hx9 (by decide) hg2, pg_n hx9 (by decide) hg3, pg_n hx9 (by decide) hg4, pg_n hx9 (by decide) hg5, ?_⟩, hPl.keep hfr (by omega)⟩, fun k hk => hfr k (by omega)⟩
        · show some (vi _) = some (vi (mkv q 1 g))
          congr 2
          try rw [(hag g c23.1 (by omega)).2.2.2]
          try rfl
        · show _ = v 31 + trs (bod 1) 6
          rw [show trs (bod 1) 6 = 11 from by decide]
          omega
      · refine pt_aload eD_mark_30 rfl ?_
        refine pt_get eD_mark_31 hD rfl ?_
        refine pt_iload eD_mark_34 rfl ?_
        refine pt_aald eD_mark_35 hK rfl (by decide) (by decide) (by decide) (hkf 2 (by decide)) ?_
        refine pt_aload eD_mark_36 rfl ?_
        refine pt_get eD_mark_37 hD rfl ?_
        refine pt_aload eD_mark_40 rfl ?_
        refine pt_get eD_mark_41 hD rfl ?_
        refine pt_get eD_mark_44 hL rfl ?_
        refine pt_iload eD_mark_47 rfl ?_
        refine pt_ku3 eD_mark_48_3 (cHa_marks_3 G sz _ hg2 hLi.2.1 (by decide) (by omega) (by omega) hH hH4 (by omega)) hg2 rfl (Nat.le_of_ble_eq_true rfl) (by decide) (Nat.le_refl _) (Nat.le_refl _) ?_
        rintro v2 sz2 hpx ⟨rfl, hz9, hx9⟩
        obtain rfl := hz9.symm
        have hx9a := pg_s hx9
        refine pt_iret eD_mark_51 (Nat.le_refl _) (Nat.le_refl _) ?_
        have hfr : fr hp hpx 63 70 := fr.rf.up hx9 (by decide) (by decide)
        rw [show fMark q v 2 g = _ by unfold fMark; rw [if_neg (fun z => z ⟨c12, c23⟩)]]
        refine ⟨?_, rfl, ⟨to, dr, hto, hDo.keep hfr (by omega), hTx.keep hfr (by omega), hHs.keep hfr (by omega), hHd.keep hfr (by omega), hLf.keep hfr (by omega), hI0.keep hfr (by omega), hI1.keep hfr (by omega), ⟨kf, t0, t1, t2 + 101, t3, t4, t5, pg_n hx9 (by decide) hK, hkf, pg_n hx9 (by decide) hg0, pg_n hx9 (by decide) hg1, hx9a, pg_n hx9 (by decide) hg3, pg_n hx9 (by decide) hg4, pg_n hx9 (by decide) hg5, ?_⟩, hPl.keep hfr (by omega)⟩, fun k hk => hfr k (by omega)⟩
        · show some (vi _) = some (vi (mkv q 2 g))
          congr 2
          try rw [(hag g c23.1 (by omega)).2.2.2]
          try rfl
        · show _ = v 31 + trs (bod 2) 6
          rw [show trs (bod 2) 6 = 101 from by decide]
          omega
      · refine pt_aload eD_mark_30 rfl ?_
        refine pt_get eD_mark_31 hD rfl ?_
        refine pt_iload eD_mark_34 rfl ?_
        refine pt_aald eD_mark_35 hK rfl (by decide) (by decide) (by decide) (hkf 3 (by decide)) ?_
        refine pt_aload eD_mark_36 rfl ?_
        refine pt_get eD_mark_37 hD rfl ?_
        refine pt_aload eD_mark_40 rfl ?_
        refine pt_get eD_mark_41 hD rfl ?_
        refine pt_get eD_mark_44 hL rfl ?_
        refine pt_iload eD_mark_47 rfl ?_
        refine pt_ku3 eD_mark_48_1 (cCo_marks_1 G sz _ hg3 hLi.2.1 (by decide) (by omega) (by omega) hH hH4 (by omega)) hg3 rfl (Nat.le_of_ble_eq_true rfl) (by decide) (Nat.le_refl _) (Nat.le_refl _) ?_
        rintro v2 sz2 hpx ⟨rfl, hz9, hx9⟩
        obtain rfl := hz9.symm
        have hx9a := pg_s hx9
        refine pt_iret eD_mark_51 (Nat.le_refl _) (Nat.le_refl _) ?_
        have hfr : fr hp hpx 63 70 := fr.rf.up hx9 (by decide) (by decide)
        rw [show fMark q v 3 g = _ by unfold fMark; rw [if_neg (fun z => z ⟨c12, c23⟩)]]
        refine ⟨?_, rfl, ⟨to, dr, hto, hDo.keep hfr (by omega), hTx.keep hfr (by omega), hHs.keep hfr (by omega), hHd.keep hfr (by omega), hLf.keep hfr (by omega), hI0.keep hfr (by omega), hI1.keep hfr (by omega), ⟨kf, t0, t1, t2, t3 + 1011, t4, t5, pg_n hx9 (by decide) hK, hkf, pg_n hx9 (by decide) hg0, pg_n hx9 (by decide) hg1, pg_n hx9 (by decide) hg2, hx9a, pg_n hx9 (by decide) hg4, pg_n hx9 (by decide) hg5, ?_⟩, hPl.keep hfr (by omega)⟩, fun k hk => hfr k (by omega)⟩
        · show some (vi _) = some (vi (mkv q 3 g))
          congr 2
          try rw [(hag g c23.1 (by omega)).2.2.2]
          try rfl
        · show _ = v 31 + trs (bod 3) 6
          rw [show trs (bod 3) 6 = 1011 from by decide]
          omega
      · refine pt_aload eD_mark_30 rfl ?_
        refine pt_get eD_mark_31 hD rfl ?_
        refine pt_iload eD_mark_34 rfl ?_
        refine pt_aald eD_mark_35 hK rfl (by decide) (by decide) (by decide) (hkf 4 (by decide)) ?_
        refine pt_aload eD_mark_36 rfl ?_
        refine pt_get eD_mark_37 hD rfl ?_
        refine pt_aload eD_mark_40 rfl ?_
        refine pt_get eD_mark_41 hD rfl ?_
        refine pt_get eD_mark_44 hL rfl ?_
        refine pt_iload eD_mark_47 rfl ?_
        refine pt_ku3 eD_mark_48_5 (cJe_marks_5 G sz _ hg4 hLi.2.1 (by decide) (by omega) (by omega) hH hH4 (by omega)) hg4 rfl (Nat.le_of_ble_eq_true rfl) (by decide) (Nat.le_refl _) (Nat.le_refl _) ?_
        rintro v2 sz2 hpx ⟨rfl, hz9, hx9⟩
        obtain rfl := hz9.symm
        have hx9a := pg_s hx9
        refine pt_iret eD_mark_51 (Nat.le_refl _) (Nat.le_refl _) ?_
        have hfr : fr hp hpx 63 70 := fr.rf.up hx9 (by decide) (by decide)
        rw [show fMark q v 4 g = _ by unfold fMark; rw [if_neg (fun z => z ⟨c12, c23⟩)]]
        refine ⟨?_, rfl, ⟨to, dr, hto, hDo.keep hfr (by omega), hTx.keep hfr (by omega), hHs.keep hfr (by omega), hHd.keep hfr (by omega), hLf.keep hfr (by omega), hI0.keep hfr (by omega), hI1.keep hfr (by omega), ⟨kf, t0, t1, t2, t3, t4 + 10101, t5, pg_n hx9 (by decide) hK, hkf, pg_n hx9 (by decide) hg0, pg_n hx9 (by decide) hg1, pg_n hx9 (by decide) hg2, pg_n hx9 (by decide) hg3, hx9a, pg_n hx9 (by decide) hg5, ?_⟩, hPl.keep hfr (by omega)⟩, fun k hk => hfr k (by omega)⟩
        · show some (vi _) = some (vi (mkv q 4 g))
          congr 2
          try rw [(hag g c23.1 (by omega)).2.2.2]
          try rfl
        · show _ = v 31 + trs (bod 4) 6
          rw [show trs (bod 4) 6 = 10101 from by decide]
          omega
      · refine pt_aload eD_mark_30 rfl ?_
        refine pt_get eD_mark_31 hD rfl ?_
        refine pt_iload eD_mark_34 rfl ?_
        refine pt_aald eD_mark_35 hK rfl (by decide) (by decide) (by decide) (hkf 5 (by decide)) ?_
        refine pt_aload eD_mark_36 rfl ?_
        refine pt_get eD_mark_37 hD rfl ?_
        refine pt_aload eD_mark_40 rfl ?_
        refine pt_get eD_mark_41 hD rfl ?_
        refine pt_get eD_mark_44 hL rfl ?_
        refine pt_iload eD_mark_47 rfl ?_
        refine pt_ku3 eD_mark_48_0 (cCa_marks_0 G sz _ hg5 hLi.2.1 (by decide) (by omega) (by omega) hH hH4 (by omega)) hg5 rfl (Nat.le_of_ble_eq_true rfl) (by decide) (Nat.le_refl _) (Nat.le_refl _) ?_
        rintro v2 sz2 hpx ⟨rfl, hz9, hx9⟩
        obtain rfl := hz9.symm
        have hx9a := pg_s hx9
        refine pt_iret eD_mark_51 (Nat.le_refl _) (Nat.le_refl _) ?_
        have hfr : fr hp hpx 63 70 := fr.rf.up hx9 (by decide) (by decide)
        rw [show fMark q v 5 g = _ by unfold fMark; rw [if_neg (fun z => z ⟨c12, c23⟩)]]
        refine ⟨?_, rfl, ⟨to, dr, hto, hDo.keep hfr (by omega), hTx.keep hfr (by omega), hHs.keep hfr (by omega), hHd.keep hfr (by omega), hLf.keep hfr (by omega), hI0.keep hfr (by omega), hI1.keep hfr (by omega), ⟨kf, t0, t1, t2, t3, t4, t5 + 100001, pg_n hx9 (by decide) hK, hkf, pg_n hx9 (by decide) hg0, pg_n hx9 (by decide) hg1, pg_n hx9 (by decide) hg2, pg_n hx9 (by decide) hg3, pg_n hx9 (by decide) hg4, hx9a, ?_⟩, hPl.keep hfr (by omega)⟩, fun k hk => hfr k (by omega)⟩
        · show some (vi _) = some (vi (mkv q 5 g))
          congr 2
          try rw [(hag g c23.1 (by omega)).2.2.2]
          try rfl
        · show _ = v 31 + trs (bod 5) 6
          rw [show trs (bod 5) 6 = 100001 from by decide]
          omega
    · refine pt_ic eD_mark_26 ?_
      refine pt_iret eD_mark_29 (Nat.le_refl _) (Nat.le_refl _) ?_
      first
      | (have c12 := pwi_0 c12
         rw [show fMark q v k g = (q, v, -1000000) by unfold fMark; rw [if_pos (fun z => c12 z.1)]]
         exact ⟨rfl, rfl, ⟨to, dr, hC0⟩, fr.rf⟩)
      | (have c23 := pwi_0 c23
         rw [show fMark q v k g = (q, v, -1000000) by unfold fMark; rw [if_pos (fun z => c23 z.2)]]
         exact ⟨rfl, rfl, ⟨to, dr, hC0⟩, fr.rf⟩)
