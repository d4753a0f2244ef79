/-! a house out of a text -/
def DIN (q : Nat → Int → Int) : Prop := (0 ≤ q 3 1 ∧ q 3 1 ≤ 4) ∧ (1 ≤ q 2 2 ∧ q 2 2 ≤ 9 ∧ 1 ≤ q 2 3 ∧ q 2 3 ≤ 9) ∧ (∀ k, 80 ≤ k → k < 160 → (0 ≤ q 8 k ∧ q 8 k ≤ 30) ∧ (0 ≤ q 9 k ∧ q 9 k ≤ 30)) ∧ ∀ g, 0 ≤ g → g < q 3 1 → (0 ≤ q 4 (4 + g) ∧ q 4 (4 + g) ≤ 60) ∧ (0 ≤ q 5 (4 + g) ∧ q 5 (4 + g) ≤ 9) ∧ (1 ≤ q 6 (4 + g) ∧ q 6 (4 + g) ≤ 9) ∧ (0 ≤ q 7 (4 + g) ∧ q 7 (4 + g) ≤ 9)
theorem okI_1 {b : Int → Int} {n gd L a : Int} {i : Nat} (h : okI b n gd L a i = 1) : loN L i ≤ tv b n (tk b n a (i + 1)) ∧ tv b n (tk b n a (i + 1)) ≤ hiN gd L i := by
  unfold okI okt at h
  split at h
  · rename_i h1; exact h1.2
  · cases h
theorem uI_b {f : Int → Int} {z x lo hi : Int} {k : Int} (hx : lo ≤ x ∧ x ≤ hi) (hf : k ≠ z → lo ≤ f k ∧ f k ≤ hi) : lo ≤ uI f z x k ∧ uI f z x k ≤ hi := by
  by_cases h : k = z
  · rw [h, uI_s]; exact hx
  · rw [uI_n _ _ h]; exact hf h
theorem ipa_ok {b : Int → Int} {n h a : Int} {q : Nat → Int → Int} (hD : DIN q) (hm : ifl b n (q 3 1) h a = -1) : DIN (ipa b n q a) ∧ LV q (ipa b n q a) := by
  obtain ⟨h1, h2, h3⟩ := ifl_m hm
  obtain ⟨-, h4⟩ := beI_1 h1
  obtain ⟨⟨d0, d1⟩, ⟨d2, d3, d4, d5⟩, d6, d7⟩ := hD
  unfold ipa
  generalize tv b n a = L at h2 h4 ⊢
  rcases h4 with ⟨rfl, hg⟩ | rfl | rfl | ⟨rfl, -⟩
  · have x0 := okI_1 (h2 0 (by decide))
    have x1 := okI_1 (h2 1 (by decide))
    have x2 := okI_1 (h2 2 (by decide))
    have x3 := okI_1 (h2 3 (by decide))
    have x0' : 0 ≤ tv b n (tk b n a 1) ∧ tv b n (tk b n a 1) ≤ 60 := x0
    have x1' : 0 ≤ tv b n (tk b n a 2) ∧ tv b n (tk b n a 2) ≤ 9 := x1
    have x2' : 1 ≤ tv b n (tk b n a 3) ∧ tv b n (tk b n a 3) ≤ 9 := x2
    have x3' : 0 ≤ tv b n (tk b n a 4) ∧ tv b n (tk b n a 4) ≤ 9 := x3
    refine ⟨⟨?_, ⟨d2, d3, d4, d5⟩, d6, ?_⟩, rgq_LV d0⟩
    · show 0 ≤ uI (q 3) 1 (q 3 1 + 1) 1 ∧ uI (q 3) 1 (q 3 1 + 1) 1 ≤ 4
      rw [uI_s]; omega
    · intro g g0 g1
      have g2 : g < uI (q 3) 1 (q 3 1 + 1) 1 := g1
      rw [uI_s] at g2
      refine ⟨?_, ?_, ?_, ?_⟩
      · exact uI_b (f := q 4) (z := 4 + q 3 1) (k := 4 + g) x0' (fun hz => (d7 g g0 (by omega)).1)
      · exact uI_b (f := q 5) (z := 4 + q 3 1) (k := 4 + g) x1' (fun hz => (d7 g g0 (by omega)).2.1)
      · exact uI_b (f := q 6) (z := 4 + q 3 1) (k := 4 + g) x2' (fun hz => (d7 g g0 (by omega)).2.2.1)
      · exact uI_b (f := q 7) (z := 4 + q 3 1) (k := 4 + g) x3' (fun hz => (d7 g g0 (by omega)).2.2.2)
  · have x0 : 0 ≤ tv b n (tk b n a 1) ∧ tv b n (tk b n a 1) ≤ 19 := okI_1 (h2 0 (by decide))
    have x1 : 0 ≤ tv b n (tk b n a 2) ∧ tv b n (tk b n a 2) ≤ q 3 1 - 1 := okI_1 (h2 1 (by decide))
    have x2 : 0 ≤ tv b n (tk b n a 3) ∧ tv b n (tk b n a 3) ≤ 30 := okI_1 (h2 2 (by decide))
    refine ⟨⟨⟨d0, d1⟩, ⟨d2, d3, d4, d5⟩, fun k k0 k1 => ⟨?_, (d6 k k0 k1).2⟩, d7⟩, roq_LV8 x0.1 x1.1⟩
    exact uI_b (f := q 8) (k := k) x2 (fun _ => (d6 k k0 k1).1)
  · have x0 : 0 ≤ tv b n (tk b n a 1) ∧ tv b n (tk b n a 1) ≤ 19 := okI_1 (h2 0 (by decide))
    have x1 : 0 ≤ tv b n (tk b n a 2) ∧ tv b n (tk b n a 2) ≤ q 3 1 - 1 := okI_1 (h2 1 (by decide))
    have x2 : 0 ≤ tv b n (tk b n a 3) ∧ tv b n (tk b n a 3) ≤ 30 := okI_1 (h2 2 (by decide))
    refine ⟨⟨⟨d0, d1⟩, ⟨d2, d3, d4, d5⟩, fun k k0 k1 => ⟨(d6 k k0 k1).1, ?_⟩, d7⟩, roq_LV9 x0.1 x1.1⟩
    exact uI_b (f := q 9) (k := k) x2 (fun _ => (d6 k k0 k1).2)
  · have x0 : 1 ≤ tv b n (tk b n a 1) ∧ tv b n (tk b n a 1) ≤ 9 := okI_1 (h2 0 (by decide))
    have x1 : 1 ≤ tv b n (tk b n a 2) ∧ tv b n (tk b n a 2) ≤ 9 := okI_1 (h2 1 (by decide))
    refine ⟨⟨⟨d0, d1⟩, ⟨?_, ?_, ?_, ?_⟩, d6, d7⟩, rdq_LV⟩
    · show 1 ≤ uI (uI (q 2) 2 (tv b n (tk b n a 1))) 3 (tv b n (tk b n a 2)) 2; rw [uI_n _ _ (by decide), uI_s]; exact x0.1
    · show uI (uI (q 2) 2 (tv b n (tk b n a 1))) 3 (tv b n (tk b n a 2)) 2 ≤ 9; rw [uI_n _ _ (by decide), uI_s]; exact x0.2
    · show 1 ≤ uI (uI (q 2) 2 (tv b n (tk b n a 1))) 3 (tv b n (tk b n a 2)) 3; rw [uI_s]; exact x1.1
    · show uI (uI (q 2) 2 (tv b n (tk b n a 1))) 3 (tv b n (tk b n a 2)) 3 ≤ 9; rw [uI_s]; exact x1.2
theorem ifl_r {b : Int → Int} {n gd h a : Int} : ifl b n gd h a = -1 ∨ 0 ≤ ifl b n gd h a := by
  by_cases h0 : beI b n gd h a = 1
  · rw [ifl_1 h0]; exact upF_r (chF_m _)
  · rw [ifl_0 h0]; exact Or.inr (Int.le_refl 0)
theorem rdf_ok {b : Int → Int} {n : Int} : ∀ (f : Nat) (q : Nat → Int → Int) (h a k : Int), DIN q → DIN (rdf b n f q h a k).2 ∧ LV q (rdf b n f q h a k).2
  | 0, q, h, a, k, hD => ⟨hD, LV.rf⟩
  | f + 1, q, h, a, k, hD => by
    rw [rdf]
    split
    · exact ⟨hD, LV.rf⟩
    · split
      · exact ⟨hD, LV.rf⟩
      · rename_i h2
        have hm : ifl b n (q 3 1) h a = -1 := by
          have := ifl_r (b := b) (n := n) (gd := q 3 1) (h := h) (a := a)
          omega
        have h3 := ipa_ok hD hm
        have h4 := rdf_ok (b := b) (n := n) f (ipa b n q a) (iph h (tv b n a)) (tk b n a (nuN (tv b n a) + 2)) (k + 1) h3.1
        exact ⟨h4.1, h3.2.tr h4.2⟩
theorem rq0_D {q : Nat → Int → Int} : DIN (rq0 q) := by
  refine ⟨?_, ⟨?_, ?_, ?_, ?_⟩, fun k k0 k1 => ?_, fun g g0 g1 => ?_⟩
  · show 0 ≤ uI (q 3) 1 0 1 ∧ uI (q 3) 1 0 1 ≤ 4; rw [uI_s]; omega
  · show 1 ≤ uI (uI (q 2) 2 2) 3 3 2; rw [uI_n _ _ (by decide), uI_s]; decide
  · show uI (uI (q 2) 2 2) 3 3 2 ≤ 9; rw [uI_n _ _ (by decide), uI_s]; decide
  · show 1 ≤ uI (uI (q 2) 2 2) 3 3 3; rw [uI_s]; decide
  · show uI (uI (q 2) 2 2) 3 3 3 ≤ 9; rw [uI_s]; decide
  · show (0 ≤ blk (q 8) (fun _ => 0) 80 80 k ∧ blk (q 8) (fun _ => 0) 80 80 k ≤ 30) ∧ (0 ≤ blk (q 9) (fun _ => 0) 80 80 k ∧ blk (q 9) (fun _ => 0) 80 80 k ≤ 30)
    rw [blk_in (by omega) (by omega), blk_in (by omega) (by omega)]
    omega
  · have g2 : g < uI (q 3) 1 0 1 := g1
    rw [uI_s] at g2
    omega
/-- the rows behind a text that stands -/
def hsq (r : Nat → Int → Int) : Nat → Int → Int := fun j => if j = 2 then uI (uI (r 2) 0 (r 2 2)) 1 (r 2 3) else if j = 3 then uI (r 3) 0 (r 3 1) else if 4 ≤ j ∧ j ≤ 7 then blk (r j) (fun g => r j (4 + g)) 0 4 else if j = 8 ∨ j = 9 then blk (r j) (fun k => r j (80 + k)) 0 80 else if j = 17 then beg (fun g => r 4 (4 + g)) (r 3 1) else if j = 18 then uI (r 18) 0 0 else if j = 21 then uI (uI (r 21) 0 0) 1 0 else r j
def hsv (v : Nat → Int) : Nat → Int := va_up (va_up (va_up v 26 0) 29 0) 1 0
def hrd (q : Nat → Int → Int) (v : Nat → Int) : Int × (Nat → Int → Int) := rdf (fun x => q 0 x % 2 ^ 8) (v 1) 151 (rq0 q) 0 0 0
def fHouse (q : Nat → Int → Int) (v : Nat → Int) : Sg := if (hrd q v).1 < 0 then (q, v, (hrd q v).1) else (hsq (hrd q v).2, hsv v, (hrd q v).1)
def mPosH (hp : pd_P) (sz : Nat) (s : Sg) : pd_R := fun v' sz' hp' => v' = some (vi s.2.2) ∧ sz' = sz ∧ (∃ q1 v1, MW hp' q1 v1 ∧ LV s.1 q1 ∧ VV s.2.1 v1) ∧ fr hp hp' 178 200
theorem lR_h1 (G : pd_G) (sz : Nat) (hp : pd_P) {v : Nat → Int} {σ : Int → Int} (hR : hp 178 = RO v) {R : pd_R} (hx : ∀  (hp0 : pd_P), hp0 = (va_up hp (188) (ia 90 (blk σ (fun _ => 0) 0 (90)))) → pd_t G mR_house 8 R 76 [some (vr 178), some (vi (90))] [] sz hp0) : ∀ (n : Nat) (i : Int)  (hp0 : pd_P), 0 ≤ i → i + n = 90 → hp0 = (va_up hp (188) (ia 90 (blk σ (fun _ => 0) 0 (i)))) → pd_t G mR_house 8 R 57 [some (vr 178), some (vi (i))] [] sz hp0 := by
  intro n
  induction n with
  | zero =>
    intro i  hp0 hi0 hiE he0
    have hiE2 : 90 = i := by omega
    subst hiE2
    have hx2 := hx  hp0 he0
    have hR := pg_n he0 (by omega) hR
    have h_now := pg_s he0
    refine pt_iload eR_house_57 rfl ?_
    refine pt_ic eR_house_58 ?_
    refine pt_cge eR_house_60 ⟨by omega, by omega⟩ ⟨by omega, by omega⟩ (fun c60 => ?_) (fun c60 => ?_)
    · exact hx2
    · exfalso; omega
  | succ n ih =>
    intro i  hp0 hi0 hiE he0
    have hR := pg_n he0 (by omega) hR
    have h_now := pg_s he0
    refine pt_iload eR_house_57 rfl ?_
    refine pt_ic eR_house_58 ?_
    refine pt_cge eR_house_60 ⟨by omega, by omega⟩ ⟨by omega, by omega⟩ (fun c60 => ?_) (fun c60 => ?_)
    · exfalso; omega
    · refine pt_aload eR_house_63 rfl ?_
      refine pt_get eR_house_64 hR rfl ?_
      refine pt_iload eR_house_67 rfl ?_
      refine pt_ic eR_house_68 ?_
      refine pt_iast eR_house_69 h_now (by omega) (by omega) (by decide) ?_
      refine pt_gen ?_
      intro hp1 ev1
      have hR := pg_n ev1 (by omega) hR
      have h_now := pg_s ev1
      refine pt_inc1 eR_house_70 rfl ?_
      refine pt_goto eR_house_73 ?_
      have hfin : hp1 = (va_up hp (188) (ia 90 (blk σ (fun _ => 0) 0 ((i + 1))))) := by
        rw [ev1, he0]
        have k2 := blk_s (f := σ) (g := fun _ => 0) (a := 0) (n := i) hi0
        rw [Int.zero_add] at k2
        rw [bx_uu, ← k2]
      exact ih (i + 1)  _ (by omega) (by omega) hfin 
theorem beg_m {fi : Int → Int} {gd i : Int} (h0 : 0 ≤ i) (hg : 0 ≤ gd) {x : Int} (hx : x = if i < gd then fi i else 0) : uI (beg fi (min i gd)) (2 + i) x = beg fi (min (i + 1) gd) := by
  subst hx
  by_cases h : i < gd
  · rw [if_pos h, show min i gd = i by omega, show min (i + 1) gd = i + 1 by omega]
    exact beg_s h0
  · rw [if_neg h, show min i gd = gd by omega, show min (i + 1) gd = gd by omega]
    funext y
    unfold uI
    split
    · rename_i hy; unfold beg; rw [if_neg (by omega)]
    · rfl
theorem lR_h2 (G : pd_G) (sz : Nat) {hp : pd_P} {r : Nat → Int → Int} {v : Nat → Int} (hg0 : 0 ≤ r 3 0) (hg4 : r 3 0 ≤ 4) {R : pd_R} (hx : ∀  (hp0 : pd_P), (∃ u : Nat → Int → Int, MW hp0 u v ∧ (∀ j, j ≠ 4 → j ≠ 5 → j ≠ 6 → j ≠ 7 → j ≠ 17 → u j = r j) ∧ u 4 = blk (r 4) (fun g => r 4 (4 + g)) 0 (4) ∧ u 5 = blk (r 5) (fun g => r 5 (4 + g)) 0 (4) ∧ u 6 = blk (r 6) (fun g => r 6 (4 + g)) 0 (4) ∧ u 7 = blk (r 7) (fun g => r 7 (4 + g)) 0 (4) ∧ u 17 = beg (fun g => r 4 (4 + g)) (min (4) (r 3 0))) ∧ fr hp hp0 178 200 → pd_t G mR_house 8 R 173 [some (vr 178), some (vi (4))] [] sz hp0) : ∀ (n : Nat) (i : Int)  (hp0 : pd_P), 0 ≤ i → i + n = 4 → (∃ u : Nat → Int → Int, MW hp0 u v ∧ (∀ j, j ≠ 4 → j ≠ 5 → j ≠ 6 → j ≠ 7 → j ≠ 17 → u j = r j) ∧ u 4 = blk (r 4) (fun g => r 4 (4 + g)) 0 (i) ∧ u 5 = blk (r 5) (fun g => r 5 (4 + g)) 0 (i) ∧ u 6 = blk (r 6) (fun g => r 6 (4 + g)) 0 (i) ∧ u 7 = blk (r 7) (fun g => r 7 (4 + g)) 0 (i) ∧ u 17 = beg (fun g => r 4 (4 + g)) (min (i) (r 3 0))) ∧ fr hp hp0 178 200 → pd_t G mR_house 8 R 78 [some (vr 178), some (vi (i))] [] sz hp0 := by
  intro n
  induction n with
  | zero =>
    intro i  hp0 hi0 hiE hI
    have hiE2 : 4 = i := by omega
    subst hiE2
    have hx2 := hx  hp0 hI
    obtain ⟨⟨u, hM, hj, u4, u5, u6, u7, u17⟩, hf0⟩ := hI
    have hR := hM.1
    have h_goods := hM.w_goods
    have h_first := hM.w_first
    have h_use := hM.w_use
    have h_weight := hM.w_weight
    have h_worth := hM.w_worth
    have h_now := hM.w_now
    rw [hj 3 (by decide) (by decide) (by decide) (by decide) (by decide)] at h_goods
    rw [u4] at h_first
    rw [u5] at h_use
    rw [u6] at h_weight
    rw [u7] at h_worth
    rw [u17] at h_now
    refine pt_iload eR_house_78 rfl ?_
    refine pt_ic eR_house_79 ?_
    refine pt_cge eR_house_80 ⟨by omega, by omega⟩ ⟨by omega, by omega⟩ (fun c80 => ?_) (fun c80 => ?_)
    · exact hx2
    · exfalso; omega
  | succ n ih =>
    intro i  hp0 hi0 hiE hI
    obtain ⟨⟨u, hM, hj, u4, u5, u6, u7, u17⟩, hf0⟩ := hI
    have hR := hM.1
    have h_goods := hM.w_goods
    have h_first := hM.w_first
    have h_use := hM.w_use
    have h_weight := hM.w_weight
    have h_worth := hM.w_worth
    have h_now := hM.w_now
    rw [hj 3 (by decide) (by decide) (by decide) (by decide) (by decide)] at h_goods
    rw [u4] at h_first
    rw [u5] at h_use
    rw [u6] at h_weight
    rw [u7] at h_worth
    rw [u17] at h_now
    refine pt_iload eR_house_78 rfl ?_
    refine pt_ic eR_house_79 ?_
    refine pt_cge eR_house_80 ⟨by omega, by omega⟩ ⟨by omega, by omega⟩ (fun c80 => ?_) (fun c80 => ?_)
    · exfalso; omega
    · refine pt_aload eR_house_83 rfl ?_
      refine pt_get eR_house_84 hR rfl ?_
      refine pt_iload eR_house_87 rfl ?_
      refine pt_aload eR_house_88 rfl ?_
      refine pt_get eR_house_89 hR rfl ?_
      refine pt_ic eR_house_92 ?_
      refine pt_iload eR_house_93 rfl ?_
      refine pt_iadd eR_house_94 ?_
      refine pt_iald eR_house_95 h_first (by omega) (by omega) (by decide) ?_
      rw [blk_out (by omega)]
      refine pt_iast eR_house_96 h_first (by omega) (by omega) (by decide) ?_
      refine pt_gen ?_
      intro hp1 ev1
      have hR := pg_n ev1 (by omega) hR
      have h_goods := pg_n ev1 (by omega) h_goods
      have h_first := pg_s ev1
      have h_use := pg_n ev1 (by omega) h_use
      have h_weight := pg_n ev1 (by omega) h_weight
      have h_worth := pg_n ev1 (by omega) h_worth
      have h_now := pg_n ev1 (by omega) h_now
      refine pt_aload eR_house_97 rfl ?_
      refine pt_get eR_house_98 hR rfl ?_
      refine pt_iload eR_house_101 rfl ?_
      refine pt_aload eR_house_102 rfl ?_
      refine pt_get eR_house_103 hR rfl ?_
      refine pt_ic eR_house_106 ?_
      refine pt_iload eR_house_107 rfl ?_
      refine pt_iadd eR_house_108 ?_
      refine pt_iald eR_house_109 h_use (by omega) (by omega) (by decide) ?_
      rw [blk_out (by omega)]
      refine pt_iast eR_house_110 h_use (by omega) (by omega) (by decide) ?_
      refine pt_gen ?_
      intro hp2 ev2
      have hR := pg_n ev2 (by omega) hR
      have h_goods := pg_n ev2 (by omega) h_goods
      have h_first := pg_n ev2 (by omega) h_first
      have h_use := pg_s ev2
      have h_weight := pg_n ev2 (by omega) h_weight
      have h_worth := pg_n ev2 (by omega) h_worth
      have h_now := pg_n ev2 (by omega) h_now
      refine pt_aload eR_house_111 rfl ?_
      refine pt_get eR_house_112 hR rfl ?_
      refine pt_iload eR_house_115 rfl ?_
      refine pt_aload eR_house_116 rfl ?_
      refine pt_get eR_house_117 hR rfl ?_
      refine pt_ic eR_house_120 ?_
      refine pt_iload eR_house_121 rfl ?_
      refine pt_iadd eR_house_122 ?_
      refine pt_iald eR_house_123 h_weight (by omega) (by omega) (by decide) ?_
      rw [blk_out (by omega)]
      refine pt_iast eR_house_124 h_weight (by omega) (by omega) (by decide) ?_
      refine pt_gen ?_
      intro hp3 ev3
      have hR := pg_n ev3 (by omega) hR
      have h_goods := pg_n ev3 (by omega) h_goods
      have h_first := pg_n ev3 (by omega) h_first
      have h_use := pg_n ev3 (by omega) h_use
      have h_weight := pg_s ev3
      have h_worth := pg_n ev3 (by omega) h_worth
      have h_now := pg_n ev3 (by omega) h_now
      refine pt_aload eR_house_125 rfl ?_
      refine pt_get eR_house_126 hR rfl ?_
      refine pt_iload eR_house_129 rfl ?_
      refine pt_aload eR_house_130 rfl ?_
      refine pt_get eR_house_131 hR rfl ?_
      refine pt_ic eR_house_134 ?_
      refine pt_iload eR_house_135 rfl ?_
      refine pt_iadd eR_house_136 ?_
      refine pt_iald eR_house_137 h_worth (by omega) (by omega) (by decide) ?_
      rw [blk_out (by omega)]
      refine pt_iast eR_house_138 h_worth (by omega) (by omega) (by decide) ?_
      refine pt_gen ?_
      intro hp4 ev4
      have hR := pg_n ev4 (by omega) hR
      have h_goods := pg_n ev4 (by omega) h_goods
      have h_first := pg_n ev4 (by omega) h_first
      have h_use := pg_n ev4 (by omega) h_use
      have h_weight := pg_n ev4 (by omega) h_weight
      have h_worth := pg_s ev4
      have h_now := pg_n ev4 (by omega) h_now
      refine pt_aload eR_house_139 rfl ?_
      refine pt_get eR_house_140 hR rfl ?_
      refine pt_ic eR_house_143 ?_
      refine pt_iload eR_house_144 rfl ?_
      refine pt_iadd eR_house_145 ?_
      refine pt_iload eR_house_146 rfl ?_
      refine pt_aload eR_house_147 rfl ?_
      refine pt_get eR_house_148 hR rfl ?_
      refine pt_ic eR_house_151 ?_
      refine pt_iald eR_house_152 h_goods (by omega) (by omega) (by decide) ?_
      refine pt_cge eR_house_153 ⟨by omega, by omega⟩ ⟨by omega, by omega⟩ (fun c153 => ?_) (fun c153 => ?_)
      · refine pt_ic eR_house_165 ?_
        refine pt_iast eR_house_166 h_now (by omega) (by omega) (by decide) ?_
        refine pt_gen ?_
        intro hp5 ev5
        have hR := pg_n ev5 (by omega) hR
        have h_goods := pg_n ev5 (by omega) h_goods
        have h_first := pg_n ev5 (by omega) h_first
        have h_use := pg_n ev5 (by omega) h_use
        have h_weight := pg_n ev5 (by omega) h_weight
        have h_worth := pg_n ev5 (by omega) h_worth
        have h_now := pg_s ev5
        refine pt_inc1 eR_house_167 rfl ?_
        refine pt_goto eR_house_170 ?_
        refine ih (i + 1)  _ (by omega) (by omega) ?_
        refine ⟨⟨va_up (va_up (va_up (va_up (va_up u 4 (uI (blk (r 4) (fun g => r 4 (4 + g)) 0 i) i (r 4 (4 + i)))) 5 (uI (blk (r 5) (fun g => r 5 (4 + g)) 0 i) i (r 5 (4 + i)))) 6 (uI (blk (r 6) (fun g => r 6 (4 + g)) 0 i) i (r 6 (4 + i)))) 7 (uI (blk (r 7) (fun g => r 7 (4 + g)) 0 i) i (r 7 (4 + i)))) 17 (beg (fun g => r 4 (4 + g)) (min (i + 1) (r 3 0))), ?_, ?_, (by have k := blk_s (f := r 4) (g := fun g => r 4 (4 + g)) (a := 0) (n := i) (by omega); rw [Int.zero_add] at k; exact k), (by have k := blk_s (f := r 5) (g := fun g => r 5 (4 + g)) (a := 0) (n := i) (by omega); rw [Int.zero_add] at k; exact k), (by have k := blk_s (f := r 6) (g := fun g => r 6 (4 + g)) (a := 0) (n := i) (by omega); rw [Int.zero_add] at k; exact k), (by have k := blk_s (f := r 7) (g := fun g => r 7 (4 + g)) (a := 0) (n := i) (by omega); rw [Int.zero_add] at k; exact k), rfl⟩, ?_⟩
        · first
          | (have hb := beg_m (fi := fun g => r 4 (4 + g)) (gd := r 3 0) (i := i) (by omega) hg0 (x := 0) (by rw [if_neg (by omega)])
             rw [← hb]
             rw [ev5, ev4, ev3, ev2, ev1]
             exact ((((hM.s_first _).s_use _).s_weight _).s_worth _).s_now _)
          | (have hb := beg_m (fi := fun g => r 4 (4 + g)) (gd := r 3 0) (i := i) (by omega) hg0 (x := r 4 (4 + i)) (by rw [if_pos (by omega)])
             rw [← hb]
             rw [ev5, ev4, ev3, ev2, ev1]
             exact ((((hM.s_first _).s_use _).s_weight _).s_worth _).s_now _)
        · intro j k4 k5 k6 k7 k17
          rw [va_up_ne _ _ k17, va_up_ne _ _ k7, va_up_ne _ _ k6, va_up_ne _ _ k5, va_up_ne _ _ k4]
          exact hj j k4 k5 k6 k7 k17
        · exact (((((hf0.up ev1 (by decide) (by decide)).up ev2 (by decide) (by decide)).up ev3 (by decide) (by decide)).up ev4 (by decide) (by decide)).up ev5 (by decide) (by decide))
      · refine pt_aload eR_house_156 rfl ?_
        refine pt_get eR_house_157 hR rfl ?_
        refine pt_iload eR_house_160 rfl ?_
        refine pt_iald eR_house_161 h_first (by omega) (by omega) (by decide) ?_
        rw [uI_s]
        refine pt_goto eR_house_162 ?_
        refine pt_iast eR_house_166 h_now (by omega) (by omega) (by decide) ?_
        refine pt_gen ?_
        intro hp6 ev6
        have hR := pg_n ev6 (by omega) hR
        have h_goods := pg_n ev6 (by omega) h_goods
        have h_first := pg_n ev6 (by omega) h_first
        have h_use := pg_n ev6 (by omega) h_use
        have h_weight := pg_n ev6 (by omega) h_weight
        have h_worth := pg_n ev6 (by omega) h_worth
        have h_now := pg_s ev6
        refine pt_inc1 eR_house_167 rfl ?_
        refine pt_goto eR_house_170 ?_
        refine ih (i + 1)  _ (by omega) (by omega) ?_
        refine ⟨⟨va_up (va_up (va_up (va_up (va_up u 4 (uI (blk (r 4) (fun g => r 4 (4 + g)) 0 i) i (r 4 (4 + i)))) 5 (uI (blk (r 5) (fun g => r 5 (4 + g)) 0 i) i (r 5 (4 + i)))) 6 (uI (blk (r 6) (fun g => r 6 (4 + g)) 0 i) i (r 6 (4 + i)))) 7 (uI (blk (r 7) (fun g => r 7 (4 + g)) 0 i) i (r 7 (4 + i)))) 17 (beg (fun g => r 4 (4 + g)) (min (i + 1) (r 3 0))), ?_, ?_, (by have k := blk_s (f := r 4) (g := fun g => r 4 (4 + g)) (a := 0) (n := i) (by omega); rw [Int.zero_add] at k; exact k), (by have k := blk_s (f := r 5) (g := fun g => r 5 (4 + g)) (a := 0) (n := i) (by omega); rw [Int.zero_add] at k; exact k), (by have k := blk_s (f := r 6) (g := fun g => r 6 (4 + g)) (a := 0) (n := i) (by omega); rw [Int.zero_add] at k; exact k), (by have k := blk_s (f := r 7) (g := fun g => r 7 (4 + g)) (a := 0) (n := i) (by omega); rw [Int.zero_add] at k; exact k), rfl⟩, ?_⟩
        · first
          | (have hb := beg_m (fi := fun g => r 4 (4 + g)) (gd := r 3 0) (i := i) (by omega) hg0 (x := 0) (by rw [if_neg (by omega)])
             rw [← hb]
             rw [ev6, ev4, ev3, ev2, ev1]
             exact ((((hM.s_first _).s_use _).s_weight _).s_worth _).s_now _)
          | (have hb := beg_m (fi := fun g => r 4 (4 + g)) (gd := r 3 0) (i := i) (by omega) hg0 (x := r 4 (4 + i)) (by rw [if_pos (by omega)])
             rw [← hb]
             rw [ev6, ev4, ev3, ev2, ev1]
             exact ((((hM.s_first _).s_use _).s_weight _).s_worth _).s_now _)
        · intro j k4 k5 k6 k7 k17
          rw [va_up_ne _ _ k17, va_up_ne _ _ k7, va_up_ne _ _ k6, va_up_ne _ _ k5, va_up_ne _ _ k4]
          exact hj j k4 k5 k6 k7 k17
        · exact (((((hf0.up ev1 (by decide) (by decide)).up ev2 (by decide) (by decide)).up ev3 (by decide) (by decide)).up ev4 (by decide) (by decide)).up ev6 (by decide) (by decide))
theorem lR_h3 (G : pd_G) (sz : Nat) (hp : pd_P) {v : Nat → Int} {f8 f9 : Int → Int} (hR : hp 178 = RO v) {R : pd_R} (hx : ∀  (hp0 : pd_P), hp0 = (va_up (va_up hp (186) (ia 160 (blk f8 (fun k => f8 (80 + k)) 0 (80)))) (187) (ia 160 (blk f9 (fun k => f9 (80 + k)) 0 (80)))) → pd_t G mR_house 8 R 217 [some (vr 178), some (vi (80))] [] sz hp0) : ∀ (n : Nat) (i : Int)  (hp0 : pd_P), 0 ≤ i → i + n = 80 → hp0 = (va_up (va_up hp (186) (ia 160 (blk f8 (fun k => f8 (80 + k)) 0 (i)))) (187) (ia 160 (blk f9 (fun k => f9 (80 + k)) 0 (i)))) → pd_t G mR_house 8 R 175 [some (vr 178), some (vi (i))] [] sz hp0 := by
  intro n
  induction n with
  | zero =>
    intro i  hp0 hi0 hiE he0
    have hiE2 : 80 = i := by omega
    subst hiE2
    have hx2 := hx  hp0 he0
    obtain ⟨hq0, eq0⟩ : ∃ z : pd_P, z = va_up hp (186) (ia 160 (blk f8 (fun k => f8 (80 + k)) 0 ((80)))) := ⟨_, rfl⟩
    rw [← eq0] at he0
    have hR := pg_n eq0 (by omega) hR
    have h_brought := pg_s eq0
    have hR := pg_n he0 (by omega) hR
    have h_brought := pg_n he0 (by omega) h_brought
    have h_missed := pg_s he0
    refine pt_iload eR_house_175 rfl ?_
    refine pt_ic eR_house_176 ?_
    refine pt_cge eR_house_178 ⟨by omega, by omega⟩ ⟨by omega, by omega⟩ (fun c178 => ?_) (fun c178 => ?_)
    · exact hx2
    · exfalso; omega
  | succ n ih =>
    intro i  hp0 hi0 hiE he0
    obtain ⟨hq0, eq0⟩ : ∃ z : pd_P, z = va_up hp (186) (ia 160 (blk f8 (fun k => f8 (80 + k)) 0 (i))) := ⟨_, rfl⟩
    rw [← eq0] at he0
    have hR := pg_n eq0 (by omega) hR
    have h_brought := pg_s eq0
    have hR := pg_n he0 (by omega) hR
    have h_brought := pg_n he0 (by omega) h_brought
    have h_missed := pg_s he0
    refine pt_iload eR_house_175 rfl ?_
    refine pt_ic eR_house_176 ?_
    refine pt_cge eR_house_178 ⟨by omega, by omega⟩ ⟨by omega, by omega⟩ (fun c178 => ?_) (fun c178 => ?_)
    · exfalso; omega
    · refine pt_aload eR_house_181 rfl ?_
      refine pt_get eR_house_182 hR rfl ?_
      refine pt_iload eR_house_185 rfl ?_
      refine pt_aload eR_house_186 rfl ?_
      refine pt_get eR_house_187 hR rfl ?_
      refine pt_ic eR_house_190 ?_
      refine pt_iload eR_house_192 rfl ?_
      refine pt_iadd eR_house_193 ?_
      refine pt_iald eR_house_194 h_brought (by omega) (by omega) (by decide) ?_
      rw [blk_out (by omega)]
      refine pt_iast eR_house_195 h_brought (by omega) (by omega) (by decide) ?_
      refine pt_gen ?_
      intro hp1 ev1
      have hR := pg_n ev1 (by omega) hR
      have h_brought := pg_s ev1
      have h_missed := pg_n ev1 (by omega) h_missed
      refine pt_aload eR_house_196 rfl ?_
      refine pt_get eR_house_197 hR rfl ?_
      refine pt_iload eR_house_200 rfl ?_
      refine pt_aload eR_house_201 rfl ?_
      refine pt_get eR_house_202 hR rfl ?_
      refine pt_ic eR_house_205 ?_
      refine pt_iload eR_house_207 rfl ?_
      refine pt_iadd eR_house_208 ?_
      refine pt_iald eR_house_209 h_missed (by omega) (by omega) (by decide) ?_
      rw [blk_out (by omega)]
      refine pt_iast eR_house_210 h_missed (by omega) (by omega) (by decide) ?_
      refine pt_gen ?_
      intro hp2 ev2
      have hR := pg_n ev2 (by omega) hR
      have h_brought := pg_n ev2 (by omega) h_brought
      have h_missed := pg_s ev2
      refine pt_inc1 eR_house_211 rfl ?_
      refine pt_goto eR_house_214 ?_
      have hfin : hp2 = (va_up (va_up hp (186) (ia 160 (blk f8 (fun k => f8 (80 + k)) 0 ((i + 1))))) (187) (ia 160 (blk f9 (fun k => f9 (80 + k)) 0 ((i + 1))))) := by
        rw [ev2, ev1, he0, eq0]
        have k1 := blk_s (f := f8) (g := fun k => f8 (80 + k)) (a := 0) (n := i) (by omega)
        have k2 := blk_s (f := f9) (g := fun k => f9 (80 + k)) (a := 0) (n := i) (by omega)
        rw [Int.zero_add] at k1 k2
        rw [bx_4 (by decide), ← k1, ← k2]
      exact ih (i + 1)  _ (by omega) (by omega) hfin 
theorem xR_house (G : pd_G) (sz : Nat) (hp : pd_P) {q : Nat → Int → Int} {v : Nat → Int} (hM : MW hp q v) (hX : okX (fun x => q 0 x % 2 ^ 8) (v 1)) : pd_c G mR_house 8 [vr 178] sz hp (mPosH hp sz (fHouse q v)) := by
  refine pd_con kR_house [some (vr 178), none] rfl rfl (Nat.le_of_ble_eq_true rfl) ?_
  have hR := hM.1
  refine pt_aload eR_house_0 rfl ?_
  refine pt_kv0 eR_house_1 (cR_read G sz _ hM hX) hR rfl (Nat.le_of_ble_eq_true rfl) (by decide) (Nat.le_refl _) (Nat.le_refl _) ?_
  rintro v2 sz2 hpx ⟨rfl, hz9, ⟨r, w, hMr, hLr, hVr, hres, hVk⟩, hf9⟩
  obtain rfl := hz9.symm
  have hr0 : hrd q v = rdf (fun x => q 0 x % 2 ^ 8) (v 1) 151 (rq0 q) 0 0 0 := rfl
  rw [← hr0] at hres
  have hR := hMr.1
  have hw14 := hVk.2.2.2.2.2.1
  have hw11 := hVk.2.2.1
  have hDr := rdf_ok (b := (fun x => q 0 x % 2 ^ 8)) (n := v 1) 151 (rq0 q) 0 0 0 rq0_D
  rw [← hr0] at hDr
  refine pt_aload eR_house_4 rfl ?_
  refine pt_get eR_house_5 hR rfl ?_
  refine pt_zeq eR_house_8 ⟨by omega, by omega⟩ (fun c8 => ?_) (fun c8 => ?_)
  · obtain ⟨e1, e2, e3, e4⟩ : 0 ≤ (hrd q v).1 ∧ w 14 = 0 ∧ w 15 = (hrd q v).1 ∧ r = (hrd q v).2 := by
      rcases hres with ⟨e1, e2, e3⟩ | h
      · omega
      · exact h
    rw [← e4] at hDr
    obtain ⟨hDD, -⟩ := hDr
    have h_door := hMr.w_door
    have h_goods := hMr.w_goods
    refine pt_aload eR_house_19 rfl ?_
    refine pt_get eR_house_20 hR rfl ?_
    refine pt_ic eR_house_23 ?_
    refine pt_aload eR_house_24 rfl ?_
    refine pt_get eR_house_25 hR rfl ?_
    refine pt_ic eR_house_28 ?_
    refine pt_iald eR_house_29 h_door (by omega) (by omega) (by decide) ?_
    refine pt_iast eR_house_30 h_door (by omega) (by omega) (by decide) ?_
    refine pt_gen ?_
    intro hp1 ev1
    have hR := pg_n ev1 (by omega) hR
    have h_door := pg_s ev1
    have h_goods := pg_n ev1 (by omega) h_goods
    refine pt_aload eR_house_31 rfl ?_
    refine pt_get eR_house_32 hR rfl ?_
    refine pt_ic eR_house_35 ?_
    refine pt_aload eR_house_36 rfl ?_
    refine pt_get eR_house_37 hR rfl ?_
    refine pt_ic eR_house_40 ?_
    refine pt_iald eR_house_41 h_door (by omega) (by omega) (by decide) ?_
    rw [uI_n _ _ (by decide)]
    refine pt_iast eR_house_42 h_door (by omega) (by omega) (by decide) ?_
    refine pt_gen ?_
    intro hp2 ev2
    have hR := pg_n ev2 (by omega) hR
    have h_door := pg_s ev2
    have h_goods := pg_n ev2 (by omega) h_goods
    refine pt_aload eR_house_43 rfl ?_
    refine pt_get eR_house_44 hR rfl ?_
    refine pt_ic eR_house_47 ?_
    refine pt_aload eR_house_48 rfl ?_
    refine pt_get eR_house_49 hR rfl ?_
    refine pt_ic eR_house_52 ?_
    refine pt_iald eR_house_53 h_goods (by omega) (by omega) (by decide) ?_
    refine pt_iast eR_house_54 h_goods (by omega) (by omega) (by decide) ?_
    refine pt_gen ?_
    intro hp3 ev3
    have hR := pg_n ev3 (by omega) hR
    have h_door := pg_n ev3 (by omega) h_door
    have h_goods := pg_s ev3
    refine pt_ic eR_house_55 ?_
    refine pt_istore1 eR_house_56 rfl ?_
    obtain ⟨r1, hr1⟩ : ∃ r1, r1 = va_up (va_up r 2 (uI (uI (r 2) 0 (r 2 2)) 1 (r 2 3))) 3 (uI (r 3) 0 (r 3 1)) := ⟨_, rfl⟩
    have hM1 : MW hp3 r1 w := by
      rw [ev3, ev2, ev1, hr1]
      have hm := (hMr.s_door (uI (r 2) 0 (r 2 2))).s_door (uI (uI (r 2) 0 (r 2 2)) 1 (r 2 3))
      rw [uq_uu] at hm
      exact hm.s_goods (uI (r 3) 0 (r 3 1))
    have hfa : fr hp hp3 178 200 := (((hf9.up ev1 (by decide) (by decide)).up ev2 (by decide) (by decide)).up ev3 (by decide) (by decide))
    refine lR_h1 G sz hp3 (σ := r 17) hM1.1 (fun hp5 he5 => ?_) 90 0 hp3 (by omega) (by omega) (by rw [blk_0]; exact pu_self (by rw [hM1.w_now, hr1]; rfl))
    refine pt_ext (pg_s he5) (g := beg (fun g => r 4 (4 + g)) 0) (fun i h1 h2 => by rw [blk_in (by omega) (by omega), beg_0]) ?_
    refine pt_gen ?_
    intro hp6 ev6'
    rw [he5, bx_uu] at ev6'
    have hM2 : MW hp6 (va_up r1 17 (beg (fun g => r 4 (4 + g)) 0)) w := by rw [ev6']; exact hM1.s_now _
    have hfb : fr hp hp6 178 200 := hfa.up ev6' (by decide) (by decide)
    have hR := hM2.1
    have hr13 : r1 3 0 = r 3 1 := by rw [hr1]; show uI (r 3) 0 (r 3 1) 0 = _; rw [uI_s]
    have hr14 : r1 4 = r 4 := by rw [hr1]; rfl
    have hr15 : r1 5 = r 5 := by rw [hr1]; rfl
    have hr16 : r1 6 = r 6 := by rw [hr1]; rfl
    have hr17 : r1 7 = r 7 := by rw [hr1]; rfl
    refine pt_ic eR_house_76 ?_
    refine pt_istore1 eR_house_77 rfl ?_
    refine lR_h2 G sz (hp := hp) (r := r1) (v := w) (by rw [hr13]; exact hDD.1.1) (by rw [hr13]; exact hDD.1.2) (fun hp8 hI8 => ?_) 4 0 hp6 (by omega) (by omega) ⟨⟨_, hM2, fun j _ _ _ _ k17 => va_up_ne _ _ k17, ?_, ?_, ?_, ?_, ?_⟩, hfb⟩
    rotate_left
    · rw [blk_0]; rfl
    · rw [blk_0]; rfl
    · rw [blk_0]; rfl
    · rw [blk_0]; rfl
    · rw [hr14, show min 0 (r1 3 0) = 0 by rw [hr13]; have := hDD.1.1; omega]; rfl
    obtain ⟨⟨u, hM3, hj, u4, u5, u6, u7, u17⟩, hfc⟩ := hI8
    have hR := hM3.1
    refine pt_ic eR_house_173 ?_
    refine pt_istore1 eR_house_174 rfl ?_
    have hu8 : u 8 = r 8 := by rw [hj 8 (by decide) (by decide) (by decide) (by decide) (by decide), hr1]; rfl
    have hu9 : u 9 = r 9 := by rw [hj 9 (by decide) (by decide) (by decide) (by decide) (by decide), hr1]; rfl
    refine lR_h3 G sz hp8 (f8 := r 8) (f9 := r 9) hR (fun hp9 he9 => ?_) 80 0 hp8 (by omega) (by omega) (by rw [blk_0, blk_0, ← pu_self (show hp8 186 = ia 160 (r 8) by rw [← hu8]; exact hM3.w_brought)]; exact pu_self (by rw [← hu9]; exact hM3.w_missed))
    have hM4 : MW hp9 (va_up (va_up u 8 (blk (r 8) (fun k => r 8 (80 + k)) 0 80)) 9 (blk (r 9) (fun k => r 9 (80 + k)) 0 80)) w := by rw [he9]; exact (hM3.s_brought _).s_missed _
    obtain ⟨hq8, eq8⟩ : ∃ z : pd_P, z = va_up hp8 186 (ia 160 (blk (r 8) (fun k => r 8 (80 + k)) 0 80)) := ⟨_, rfl⟩
    rw [← eq8] at he9
    have hfd : fr hp hp9 178 200 := (hfc.up eq8 (by decide) (by decide)).up he9 (by decide) (by decide)
    obtain ⟨u1, hu1⟩ : ∃ u1, u1 = va_up (va_up u 8 (blk (r 8) (fun k => r 8 (80 + k)) 0 80)) 9 (blk (r 9) (fun k => r 9 (80 + k)) 0 80) := ⟨_, rfl⟩
    rw [← hu1] at hM4
    have hR := hM4.1
    have h_known : hp9 189 = ia 3 (r 18) := by rw [hM4.w_known, hu1]; show ia 3 (u 18) = _; rw [hj 18 (by decide) (by decide) (by decide) (by decide) (by decide), hr1]; rfl
    have h_isKept : hp9 192 = za 2 (r 21) := by rw [hM4.w_isKept, hu1]; show za 2 (u 21) = _; rw [hj 21 (by decide) (by decide) (by decide) (by decide) (by decide), hr1]; rfl
    refine pt_aload eR_house_217 rfl ?_
    refine pt_get eR_house_218 hR rfl ?_
    refine pt_ic eR_house_221 ?_
    refine pt_ic eR_house_222 ?_
    refine pt_iast eR_house_223 h_known (by omega) (by omega) (by decide) ?_
    refine pt_gen ?_
    intro hp41 ev41
    have hR := pg_n ev41 (by omega) hR
    have h_known := pg_s ev41
    have h_isKept := pg_n ev41 (by omega) h_isKept
    refine pt_aload eR_house_224 rfl ?_
    refine pt_get eR_house_225 hR rfl ?_
    refine pt_ic eR_house_228 ?_
    refine pt_ic eR_house_229 ?_
    refine pt_zast eR_house_230 h_isKept (by omega) (by omega) (by decide) (Or.inl rfl) ?_
    refine pt_gen ?_
    intro hp42 ev42
    have hR := pg_n ev42 (by omega) hR
    have h_known := pg_n ev42 (by omega) h_known
    have h_isKept := pg_s ev42
    refine pt_aload eR_house_231 rfl ?_
    refine pt_get eR_house_232 hR rfl ?_
    refine pt_ic eR_house_235 ?_
    refine pt_ic eR_house_236 ?_
    refine pt_zast eR_house_237 h_isKept (by omega) (by omega) (by decide) (Or.inl rfl) ?_
    refine pt_gen ?_
    intro hp43 ev43
    have hR := pg_n ev43 (by omega) hR
    have h_known := pg_n ev43 (by omega) h_known
    have h_isKept := pg_s ev43
    refine pt_aload eR_house_238 rfl ?_
    refine pt_ic eR_house_239 ?_
    refine pt_put26 eR_house_240 hR trivial ?_
    refine pt_gen ?_
    intro hp44 ev44
    have hR := pg_s ev44
    have h_known := pg_n ev44 (by omega) h_known
    have h_isKept := pg_n ev44 (by omega) h_isKept
    refine pt_aload eR_house_243 rfl ?_
    refine pt_ic eR_house_244 ?_
    refine pt_put29 eR_house_245 hR trivial ?_
    refine pt_gen ?_
    intro hp45 ev45
    have hR := pg_s ev45
    have h_known := pg_n ev45 (by omega) h_known
    have h_isKept := pg_n ev45 (by omega) h_isKept
    refine pt_aload eR_house_248 rfl ?_
    refine pt_ic eR_house_249 ?_
    refine pt_put1 eR_house_250 hR trivial ?_
    refine pt_gen ?_
    intro hp46 ev46
    have hR := pg_s ev46
    have h_known := pg_n ev46 (by omega) h_known
    have h_isKept := pg_n ev46 (by omega) h_isKept
    refine pt_aload eR_house_253 rfl ?_
    refine pt_get eR_house_254 hR rfl ?_
    refine pt_iret eR_house_257 (Nat.le_refl _) (Nat.le_refl _) ?_
    rw [show fHouse q v = (hsq (hrd q v).2, hsv v, (hrd q v).1) by unfold fHouse; rw [if_neg (by omega)]]
    refine ⟨by rw [← e3], rfl, ⟨va_up (va_up u1 18 (uI (r 18) 0 0)) 21 (uI (uI (r 21) 0 0) 1 0), hsv w, ?_, ?_, ?_⟩, ((((((hfd.up ev41 (by decide) (by decide)).up ev42 (by decide) (by decide)).up ev43 (by decide) (by decide)).up ev44 (by decide) (by decide)).up ev45 (by decide) (by decide)).up ev46 (by decide) (by decide))⟩
    · have hm := (((((hM4.s_known (uI (r 18) 0 0)).s_isKept (uI (r 21) 0 0)).s_isKept (uI (uI (r 21) 0 0) 1 0)).s_v (va_up w 26 0)).s_v (va_up (va_up w 26 0) 29 0)).s_v (hsv w)
      rw [uq_uu] at hm
      rw [ev46, ev45, ev44, ev43, ev42, ev41]
      exact hm
    · rw [← e4]
      have hgd : min 4 (r1 3 0) = r 3 1 := by rw [hr13]; have := hDD.1.2; omega
      have hjr : ∀ j, j ≠ 2 → j ≠ 3 → r1 j = r j := fun j k2 k3 => by rw [hr1, va_up_ne _ _ k3, va_up_ne _ _ k2]
      refine ⟨fun j hj2 => ?_, ⟨?_, ?_, ?_⟩, fun g g0 g4 => ⟨?_, ?_, ?_, ?_⟩, fun k k0 k1 => ⟨?_, ?_⟩⟩
      · show va_up (va_up u1 18 (uI (r 18) 0 0)) 21 (uI (uI (r 21) 0 0) 1 0) j = hsq r j
        unfold hsq
        rw [if_neg (show ¬ j = 2 by omega), if_neg (show ¬ j = 3 by omega), if_neg (show ¬ (4 ≤ j ∧ j ≤ 7) by omega), if_neg (show ¬ (j = 8 ∨ j = 9) by omega)]
        by_cases k17 : j = 17
        · rw [if_pos k17, k17, hu1]
          show u 17 = _
          rw [u17, hgd, hr14]
        · rw [if_neg k17]
          by_cases k18 : j = 18
          · rw [if_pos k18, k18]; rfl
          · rw [if_neg k18]
            by_cases k21 : j = 21
            · rw [if_pos k21, k21]; rfl
            · rw [if_neg k21, va_up_ne _ _ k21, va_up_ne _ _ k18, hu1, va_up_ne _ _ (by omega), va_up_ne _ _ (by omega), hj j (by omega) (by omega) (by omega) (by omega) k17, hjr j (by omega) (by omega)]
      · rw [hu1]; show u 2 0 = uI (uI (r 2) 0 (r 2 2)) 1 (r 2 3) 0
        rw [hj 2 (by decide) (by decide) (by decide) (by decide) (by decide), hr1]; rfl
      · rw [hu1]; show u 2 1 = uI (uI (r 2) 0 (r 2 2)) 1 (r 2 3) 1
        rw [hj 2 (by decide) (by decide) (by decide) (by decide) (by decide), hr1]; rfl
      · rw [hu1]; show u 3 0 = uI (r 3) 0 (r 3 1) 0
        rw [hj 3 (by decide) (by decide) (by decide) (by decide) (by decide), hr1]; rfl
      · rw [hu1]; show u 4 g = blk (r 4) (fun g => r 4 (4 + g)) 0 4 g
        rw [u4, hr14]
      · rw [hu1]; show u 5 g = blk (r 5) (fun g => r 5 (4 + g)) 0 4 g
        rw [u5, hr15]
      · rw [hu1]; show u 6 g = blk (r 6) (fun g => r 6 (4 + g)) 0 4 g
        rw [u6, hr16]
      · rw [hu1]; show u 7 g = blk (r 7) (fun g => r 7 (4 + g)) 0 4 g
        rw [u7, hr17]
      · rw [hu1]; rfl
      · rw [hu1]; rfl
    · intro j hj2
      show hsv w j = hsv v j
      unfold hsv
      unfold va_up
      split
      · rfl
      · split
        · rfl
        · split
          · rfl
          · exact hVr j hj2
  · refine pt_ic eR_house_11 ?_
    refine pt_aload eR_house_13 rfl ?_
    refine pt_get eR_house_14 hR rfl ?_
    refine pt_isub eR_house_17 ?_
    refine pt_iret eR_house_18 (Nat.le_refl _) (Nat.le_refl _) ?_
    rcases hres with ⟨e1, e2, e3⟩ | ⟨e1, e2, e3, e4⟩
    · rw [show fHouse q v = (q, v, (hrd q v).1) by unfold fHouse; rw [if_pos e1]]
      refine ⟨?_, rfl, ⟨r, w, hMr, hLr, hVr⟩, hf9⟩
      show some (vi (-10 - w 11)) = some (vi (hrd q v).1)
      rw [e3]
      congr 2
      omega
    · omega
