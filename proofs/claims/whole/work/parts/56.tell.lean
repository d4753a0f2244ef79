/-! a house is told: the class -/
def FR (h : Nat) (hp hp1 : pd_P) : Prop := ∀ k, k ≠ 2 → k ≠ 4 → (k < h ∨ h + 8 ≤ k) → hp1 k = hp k
theorem FR.rf {h : Nat} {hp : pd_P} : FR h hp hp := fun _ _ _ _ => rfl
theorem FR.up {h a : Nat} {hp hp1 hp2 : pd_P} {e : pd_E} (f : FR h hp hp1) (he : hp2 = va_up hp1 a e) (ha : a = 2 ∨ a = 4 ∨ (h ≤ a ∧ a < h + 8)) : FR h hp hp2 := fun k k2 k4 kh => by rw [he, va_up_ne _ _ (by omega)]; exact f k k2 k4 kh
theorem FR.tr {h : Nat} {hp hp1 hp2 : pd_P} (f : FR h hp hp1) (g : FR h hp1 hp2) : FR h hp hp2 := fun k k2 k4 kh => (g k k2 k4 kh).trans (f k k2 k4 kh)
theorem FR.at {h k : Nat} {hp hp1 : pd_P} {e : pd_E} (f : FR h hp hp1) (hk : k ≠ 2 ∧ k ≠ 4 ∧ (k < h ∨ h + 8 ≤ k)) (he : hp k = e) : hp1 k = e := (f k hk.1 hk.2.1 hk.2.2).trans he
theorem FR.ofH {h : Nat} {hp hp1 : pd_P} (f : fr hp hp1 h (h + 8)) : FR h hp hp1 := fun k _ _ kh => f k kh
theorem FR.ofL {h : Nat} {hp hp1 : pd_P} (f : ∀ k, k ≠ 2 → k ≠ 4 → hp1 k = hp k) : FR h hp hp1 := fun k k2 k4 _ => f k k2 k4
/-- the house that is told holds what the reference's rows hold behind the told one -/
def HR (hp : pd_P) (h : Nat) (r : Nat → Int → Int) : Prop := ∃ fi us we wo br ms st : Int → Int, HoA hp h (r 3 1) (r 2 2) (r 2 3) fi us we wo br ms st ∧ (∀ g, 0 ≤ g → g < r 3 1 → fi g = r 4 (4 + g) ∧ us g = r 5 (4 + g) ∧ we g = r 6 (4 + g) ∧ wo g = r 7 (4 + g)) ∧ ∀ k, 0 ≤ k → k < 80 → br k = r 8 (80 + k) ∧ ms k = r 9 (80 + k)
theorem HR.Hd {hp : pd_P} {h : Nat} {r : Nat → Int → Int} (H : HR hp h r) : HdA hp h := by
  obtain ⟨fi, us, we, wo, br, ms, st, h1, -⟩ := H
  exact ⟨_, _, _, fi, us, we, wo, br, ms, st, h1⟩
def LN (hp hp1 : pd_P) : Prop := ∀ k, k ≠ 2 → k ≠ 4 → hp1 k = hp k
theorem LN.rf {hp : pd_P} : LN hp hp := fun _ _ _ => rfl
theorem LN.up {a : Nat} {hp hp1 hp2 : pd_P} {e : pd_E} (f : LN hp hp1) (he : hp2 = va_up hp1 a e) (ha : a = 2 ∨ a = 4) : LN hp hp2 := fun k k2 k4 => by rw [he, va_up_ne _ _ (by omega)]; exact f k k2 k4
theorem LN.at {k : Nat} {hp hp1 : pd_P} {e : pd_E} (f : LN hp hp1) (hk : k ≠ 2 ∧ k ≠ 4) (he : hp k = e) : hp1 k = e := (f k hk.1 hk.2).trans he
theorem HR.ln {hp hp1 : pd_P} {h : Nat} {r : Nat → Int → Int} (H : HR hp h r) (f : LN hp hp1) (hh : 5 ≤ h) : HR hp1 h r := by
  obtain ⟨fi, us, we, wo, br, ms, st, ⟨h1, h2, h3, h4, h5, h6, h7, h8⟩, h9⟩ := H
  exact ⟨fi, us, we, wo, br, ms, st, ⟨f.at (by omega) h1, f.at (by omega) h2, f.at (by omega) h3, f.at (by omega) h4, f.at (by omega) h5, f.at (by omega) h6, f.at (by omega) h7, f.at (by omega) h8⟩, h9⟩
theorem ctk_b {s : Int} (h : 1 ≤ s ∧ s ≤ 5) : (0 ≤ ctk s ∧ ctk s ≤ 4) ∧ (ctk s = 0 ↔ s = 4) ∧ (ctk s = 1 ↔ s = 1) ∧ (ctk s = 2 ↔ s = 2) ∧ (ctk s = 3 ↔ s = 3) := by
  unfold ctk
  split
  · omega
  · split <;> omega
theorem loN_b (L : Int) (i : Nat) : 0 ≤ loN L i ∧ loN L i ≤ 1 := by unfold loN; split <;> omega
theorem hiN_b {gd L : Int} {i : Nat} (h : 0 ≤ gd ∧ gd ≤ 4) : -1 ≤ hiN gd L i ∧ hiN gd L i ≤ 60 := by
  unfold hiN
  split
  · split <;> omega
  · split
    · omega
    · split
      · omega
      · split <;> omega
theorem nuN_b (L : Int) : 2 ≤ nuN L ∧ nuN L ≤ 4 := by
  unfold nuN
  split
  · omega
  · split <;> omega
/-- where an item falls -/
theorem ifl_f {b : Int → Int} {n gd h a : Int} {i : Nat} (h0 : beI b n gd h a = 1) (hi : i < nuN (tv b n a)) (hc : chF (-1) (okI b n gd (tv b n a) a) i = -1) (ho : okI b n gd (tv b n a) a i ≠ 1) : ifl b n gd h a = ((i + 1 : Nat) : Int) := by
  rw [ifl_1 h0]
  have e1 : chF (-1) (okI b n gd (tv b n a) a) (i + 1) = ((i + 1 : Nat) : Int) := by
    show upF (chF (-1) (okI b n gd (tv b n a) a) i) (i + 1) (okI b n gd (tv b n a) a i) = _
    rw [hc, upF_0 ho]
  have e2 := chF_st (F0 := -1) (ok := okI b n gd (tv b n a) a) (i := i + 1) (by rw [e1]; omega) (nuN (tv b n a) - (i + 1))
  rw [show i + 1 + (nuN (tv b n a) - (i + 1)) = nuN (tv b n a) by omega] at e2
  rw [e2, e1, upF_st (by omega)]
theorem ifl_e {b : Int → Int} {n gd h a : Int} (h0 : beI b n gd h a = 1) (hc : chF (-1) (okI b n gd (tv b n a) a) (nuN (tv b n a)) = -1) (ho : enI b n (tk b n a (nuN (tv b n a) + 1)) ≠ 1) : ifl b n gd h a = ((nuN (tv b n a) + 1 : Nat) : Int) := by
  rw [ifl_1 h0, hc, upF_0 ho]
theorem ifl_k {b : Int → Int} {n gd h a : Int} (h0 : beI b n gd h a = 1) (hc : chF (-1) (okI b n gd (tv b n a) a) (nuN (tv b n a)) = -1) (ho : enI b n (tk b n a (nuN (tv b n a) + 1)) = 1) : ifl b n gd h a = -1 := by
  rw [ifl_1 h0, hc, upF_1 ho]
theorem lH_em (G : pd_G) (sz : Nat) (hp : pd_P) {h : Nat} {br ms : Int → Int} (hH : hp h = HO h 0 2 3) {R : pd_R} (hx : ∀  (hp0 : pd_P), hp0 = (va_up (va_up hp (h + 5) (ia 80 (blk br (fun _ => 0) 0 (80)))) (h + 6) (ia 80 (blk ms (fun _ => 0) 0 (80)))) → pd_t G mH_empty 0 R 43 [some (vr h), some (vi (80))] [] sz hp0) : ∀ (n : Nat) (i : Int)  (hp0 : pd_P), 0 ≤ i → i + n = 80 → hp0 = (va_up (va_up hp (h + 5) (ia 80 (blk br (fun _ => 0) 0 (i)))) (h + 6) (ia 80 (blk ms (fun _ => 0) 0 (i)))) → pd_t G mH_empty 0 R 17 [some (vr h), some (vi (i))] [] sz hp0 := by
  intro n
  induction n with
  | zero =>
    intro i  hp0 hi0 hiE he0
    have hiE2 : 80 = i := by omega
    subst hiE2
    have hx2 := hx  hp0 he0
    obtain ⟨hq0, eq0⟩ : ∃ z : pd_P, z = va_up hp (h + 5) (ia 80 (blk br (fun _ => 0) 0 ((80)))) := ⟨_, rfl⟩
    rw [← eq0] at he0
    have hH := pg_n eq0 (by omega) hH
    have hH5 := pg_s eq0
    have hH := pg_n he0 (by omega) hH
    have hH5 := pg_n he0 (by omega) hH5
    have hH6 := pg_s he0
    refine pt_iload eH_empty_17 rfl ?_
    refine pt_ic eH_empty_18 ?_
    refine pt_cge eH_empty_20 ⟨by omega, by omega⟩ ⟨by omega, by omega⟩ (fun c20 => ?_) (fun c20 => ?_)
    · exact hx2
    · exfalso; omega
  | succ n ih =>
    intro i  hp0 hi0 hiE he0
    obtain ⟨hq0, eq0⟩ : ∃ z : pd_P, z = va_up hp (h + 5) (ia 80 (blk br (fun _ => 0) 0 (i))) := ⟨_, rfl⟩
    rw [← eq0] at he0
    have hH := pg_n eq0 (by omega) hH
    have hH5 := pg_s eq0
    have hH := pg_n he0 (by omega) hH
    have hH5 := pg_n he0 (by omega) hH5
    have hH6 := pg_s he0
    refine pt_iload eH_empty_17 rfl ?_
    refine pt_ic eH_empty_18 ?_
    refine pt_cge eH_empty_20 ⟨by omega, by omega⟩ ⟨by omega, by omega⟩ (fun c20 => ?_) (fun c20 => ?_)
    · exfalso; omega
    · refine pt_aload eH_empty_23 rfl ?_
      refine pt_get eH_empty_24 hH rfl ?_
      refine pt_iload eH_empty_27 rfl ?_
      refine pt_ic eH_empty_28 ?_
      refine pt_iast eH_empty_29 hH5 (by omega) (by omega) (by decide) ?_
      refine pt_gen ?_
      intro hp1 ev1
      have hH := pg_n ev1 (by omega) hH
      have hH5 := pg_s ev1
      have hH6 := pg_n ev1 (by omega) hH6
      refine pt_aload eH_empty_30 rfl ?_
      refine pt_get eH_empty_31 hH rfl ?_
      refine pt_iload eH_empty_34 rfl ?_
      refine pt_ic eH_empty_35 ?_
      refine pt_iast eH_empty_36 hH6 (by omega) (by omega) (by decide) ?_
      refine pt_gen ?_
      intro hp2 ev2
      have hH := pg_n ev2 (by omega) hH
      have hH5 := pg_n ev2 (by omega) hH5
      have hH6 := pg_s ev2
      refine pt_inc1 eH_empty_37 rfl ?_
      refine pt_goto eH_empty_40 ?_
      have hfin : hp2 = (va_up (va_up hp (h + 5) (ia 80 (blk br (fun _ => 0) 0 ((i + 1))))) (h + 6) (ia 80 (blk ms (fun _ => 0) 0 ((i + 1))))) := by
        rw [ev2, ev1, he0, eq0]
        have k1 := blk_s (f := br) (g := fun _ => 0) (a := 0) (n := i) (by omega)
        have k2 := blk_s (f := ms) (g := fun _ => 0) (a := 0) (n := i) (by omega)
        rw [Int.zero_add] at k1 k2
        rw [bx_4 (by omega), ← k1, ← k2]
      exact ih (i + 1)  _ (by omega) (by omega) hfin 
theorem cH_empty (G : pd_G) (sz : Nat) (hp : pd_P) {h : Nat} (hHd : HdA hp h) : pd_c G mH_empty 0 [vr h] sz hp (fun v' sz' hp' => v' = none ∧ sz' = sz ∧ (∃ fi us we wo br ms st : Int → Int, HoA hp' h 0 2 3 fi us we wo br ms st ∧ ∀ k, 0 ≤ k → k < 80 → br k = 0 ∧ ms k = 0) ∧ fr hp hp' h (h + 8)) := by
  refine pd_con kH_empty [some (vr h), none] rfl rfl (Nat.le_of_ble_eq_true rfl) ?_
  obtain ⟨gd, ev, bk, fi, us, we, wo, br, ms, st, hH, hH1, hH2, hH3, hH4, hH5, hH6, hH7⟩ := hHd
  refine pt_aload eH_empty_0 rfl ?_
  refine pt_ic eH_empty_1 ?_
  refine pt_put7 eH_empty_2 hH trivial ?_
  refine pt_gen ?_
  intro hp1 ev1
  have hH := pg_s ev1
  have hH1 := pg_n ev1 (by omega) hH1
  have hH2 := pg_n ev1 (by omega) hH2
  have hH3 := pg_n ev1 (by omega) hH3
  have hH4 := pg_n ev1 (by omega) hH4
  have hH5 := pg_n ev1 (by omega) hH5
  have hH6 := pg_n ev1 (by omega) hH6
  have hH7 := pg_n ev1 (by omega) hH7
  refine pt_aload eH_empty_5 rfl ?_
  refine pt_ic eH_empty_6 ?_
  refine pt_put8 eH_empty_7 hH trivial ?_
  refine pt_gen ?_
  intro hp2 ev2
  have hH := pg_s ev2
  have hH1 := pg_n ev2 (by omega) hH1
  have hH2 := pg_n ev2 (by omega) hH2
  have hH3 := pg_n ev2 (by omega) hH3
  have hH4 := pg_n ev2 (by omega) hH4
  have hH5 := pg_n ev2 (by omega) hH5
  have hH6 := pg_n ev2 (by omega) hH6
  have hH7 := pg_n ev2 (by omega) hH7
  refine pt_aload eH_empty_10 rfl ?_
  refine pt_ic eH_empty_11 ?_
  refine pt_put9 eH_empty_12 hH trivial ?_
  refine pt_gen ?_
  intro hp3 ev3
  have hH := pg_s ev3
  have hH1 := pg_n ev3 (by omega) hH1
  have hH2 := pg_n ev3 (by omega) hH2
  have hH3 := pg_n ev3 (by omega) hH3
  have hH4 := pg_n ev3 (by omega) hH4
  have hH5 := pg_n ev3 (by omega) hH5
  have hH6 := pg_n ev3 (by omega) hH6
  have hH7 := pg_n ev3 (by omega) hH7
  refine pt_ic eH_empty_15 ?_
  refine pt_istore1 eH_empty_16 rfl ?_
  refine lH_em G sz hp3 (br := br) (ms := ms) hH (fun hp5 he5 => ?_) 80 0 hp3 (by omega) (by omega) (by rw [blk_0, blk_0, ← pu_self hH5]; exact pu_self hH6)
  obtain ⟨hq8, eq8⟩ : ∃ z : pd_P, z = va_up hp3 (h + 5) (ia 80 (blk br (fun _ => 0) 0 80)) := ⟨_, rfl⟩
  rw [← eq8] at he5
  refine pt_vret eH_empty_43 (Nat.le_refl _) (Nat.le_refl _) ?_
  refine ⟨rfl, rfl, ⟨fi, us, we, wo, _, _, st, ⟨pg_n he5 (by omega) (pg_n eq8 (by omega) hH), pg_n he5 (by omega) (pg_n eq8 (by omega) hH1), pg_n he5 (by omega) (pg_n eq8 (by omega) hH2), pg_n he5 (by omega) (pg_n eq8 (by omega) hH3), pg_n he5 (by omega) (pg_n eq8 (by omega) hH4), pg_n he5 (by omega) (pg_s eq8), pg_s he5, pg_n he5 (by omega) (pg_n eq8 (by omega) hH7)⟩, fun k k0 k1 => ?_⟩, ?_⟩
  · rw [blk_in (by omega) (by omega), blk_in (by omega) (by omega)]
    exact ⟨rfl, rfl⟩
  · exact (((((fr.rf.up ev1 (by omega) (by omega)).up ev2 (by omega) (by omega)).up ev3 (by omega) (by omega)).up eq8 (by omega) (by omega)).up he5 (by omega) (by omega))
theorem cT_canBegin (G : pd_G) (sz : Nat) (hp : pd_P) {h : Nat} {n x1 x2 x3 x4 dt gd ev bk L : Int} (hT : hp 2 = TO n x1 x2 x3 x4 dt) (hH : hp h = HO h gd ev bk) (hg0 : 0 ≤ gd) (hg4 : gd ≤ 4) (hd : dt = 0 ∨ dt = 1) (hL0 : 0 ≤ L) (hL1 : L ≤ 999) : pd_c G mT_canBegin 0 [vr 2, vr h, vi L] sz hp (pd_pure (vi (mayf gd dt L)) sz hp) := by
  refine pd_con kT_canBegin [some (vr 2), some (vr h), some (vi L)] rfl rfl (Nat.le_of_ble_eq_true rfl) ?_
  refine pt_iload eT_canBegin_0 rfl ?_
  rcases (show L = 98 ∨ L = 100 ∨ L = 103 ∨ L = 109 ∨ (L ≠ 98 ∧ L ≠ 100 ∧ L ≠ 103 ∧ L ≠ 109) by omega) with rfl | rfl | rfl | rfl | hsw
  · refine pt_lsw (t := 58) (off := 57) eT_canBegin_1 ⟨by decide, by decide⟩ (by decide) rfl (by decide) ?_
    refine pt_ic eT_canBegin_58 ?_
    refine pt_iret (eT_canBegin_59 (by omega)) (Nat.le_refl _) (Nat.le_refl _) ?_
    exact ⟨rfl, rfl, rfl⟩
  · refine pt_lsw (t := 62) (off := 61) eT_canBegin_1 ⟨by decide, by decide⟩ (by decide) rfl (by decide) ?_
    refine pt_aload eT_canBegin_62 rfl ?_
    refine pt_get eT_canBegin_63 hT rfl ?_
    refine pt_zne eT_canBegin_66 ⟨by omega, by omega⟩ (fun c66 => ?_) (fun c66 => ?_)
    · refine pt_ic eT_canBegin_73 ?_
      refine pt_iret (eT_canBegin_74 (by omega)) (Nat.le_refl _) (Nat.le_refl _) ?_
      refine ⟨?_, rfl, rfl⟩
      unfold mayf
      congr 2
      rw [if_neg (by decide), if_neg (by decide)]
      first | (rw [if_pos (by omega)]; done) | (rw [if_neg (by omega)]; done)
    · refine pt_ic eT_canBegin_69 ?_
      refine pt_goto eT_canBegin_70 ?_
      refine pt_iret (eT_canBegin_74 (by omega)) (Nat.le_refl _) (Nat.le_refl _) ?_
      refine ⟨?_, rfl, rfl⟩
      unfold mayf
      congr 2
      rw [if_neg (by decide), if_neg (by decide)]
      first | (rw [if_pos (by omega)]; done) | (rw [if_neg (by omega)]; done)
  · refine pt_lsw (t := 44) (off := 43) eT_canBegin_1 ⟨by decide, by decide⟩ (by decide) rfl (by decide) ?_
    refine pt_aload eT_canBegin_44 rfl ?_
    refine pt_get eT_canBegin_45 hH rfl ?_
    refine pt_ic eT_canBegin_48 ?_
    refine pt_cge eT_canBegin_49 ⟨by omega, by omega⟩ ⟨by omega, by omega⟩ (fun c49 => ?_) (fun c49 => ?_)
    · refine pt_ic eT_canBegin_56 ?_
      refine pt_iret (eT_canBegin_57 (by omega)) (Nat.le_refl _) (Nat.le_refl _) ?_
      refine ⟨?_, rfl, rfl⟩
      unfold mayf
      congr 2
      first | (rw [if_pos (by decide), if_pos (by omega)]; done) | (rw [if_pos (by decide), if_neg (by omega)]; done)
    · refine pt_ic eT_canBegin_52 ?_
      refine pt_goto eT_canBegin_53 ?_
      refine pt_iret (eT_canBegin_57 (by omega)) (Nat.le_refl _) (Nat.le_refl _) ?_
      refine ⟨?_, rfl, rfl⟩
      unfold mayf
      congr 2
      first | (rw [if_pos (by decide), if_pos (by omega)]; done) | (rw [if_pos (by decide), if_neg (by omega)]; done)
  · refine pt_lsw (t := 60) (off := 59) eT_canBegin_1 ⟨by decide, by decide⟩ (by decide) rfl (by decide) ?_
    refine pt_ic eT_canBegin_60 ?_
    refine pt_iret (eT_canBegin_61 (by omega)) (Nat.le_refl _) (Nat.le_refl _) ?_
    exact ⟨rfl, rfl, rfl⟩
  · refine pt_lsw (t := 75) (off := 74) eT_canBegin_1 ⟨by omega, by omega⟩ (by decide) (by rw [Op.lookupswitch.offset_cons, if_neg (by omega), Op.lookupswitch.offset_cons, if_neg (by omega), Op.lookupswitch.offset_cons, if_neg (by omega), Op.lookupswitch.offset_cons, if_neg (by omega), Op.lookupswitch.offset_nil]) (by decide) ?_
    refine pt_ic eT_canBegin_75 ?_
    refine pt_iret (eT_canBegin_76 (by omega)) (Nat.le_refl _) (Nat.le_refl _) ?_
    refine ⟨?_, rfl, rfl⟩
    unfold mayf
    congr 2
    rw [if_neg (by omega), if_neg (by omega), if_neg (by omega)]
theorem cT_numbersOf (G : pd_G) (sz : Nat) (hp : pd_P) {L : Int} (hL0 : 0 ≤ L) (hL1 : L ≤ 999) : pd_c G mT_numbersOf 0 [vi L] sz hp (pd_pure (vi (nuN L : Int)) sz hp) := by
  refine pd_con kT_numbersOf [some (vi L)] rfl rfl (Nat.le_of_ble_eq_true rfl) ?_
  refine pt_iload eT_numbersOf_0 rfl ?_
  refine pt_ic eT_numbersOf_1 ?_
  refine pt_cne eT_numbersOf_3 ⟨by omega, by omega⟩ ⟨by omega, by omega⟩ (fun c3 => ?_) (fun c3 => ?_)
  · refine pt_iload eT_numbersOf_10 rfl ?_
    refine pt_ic eT_numbersOf_11 ?_
    refine pt_cne eT_numbersOf_13 ⟨by omega, by omega⟩ ⟨by omega, by omega⟩ (fun c13 => ?_) (fun c13 => ?_)
    · refine pt_ic eT_numbersOf_20 ?_
      refine pt_iret eT_numbersOf_21 (Nat.le_refl _) (Nat.le_refl _) ?_
      refine ⟨?_, rfl, rfl⟩
      unfold nuN
      congr 2
      first
      | (rw [if_pos (by omega)]; first | done | rfl)
      | (rw [if_neg (by omega)]; first | done | rfl)
      | (rw [if_neg (by omega), if_pos (by omega)]; first | done | rfl)
      | (rw [if_neg (by omega), if_neg (by omega)]; first | done | rfl)
    · refine pt_ic eT_numbersOf_16 ?_
      refine pt_goto eT_numbersOf_17 ?_
      refine pt_iret eT_numbersOf_21 (Nat.le_refl _) (Nat.le_refl _) ?_
      refine ⟨?_, rfl, rfl⟩
      unfold nuN
      congr 2
      first
      | (rw [if_pos (by omega)]; first | done | rfl)
      | (rw [if_neg (by omega)]; first | done | rfl)
      | (rw [if_neg (by omega), if_pos (by omega)]; first | done | rfl)
      | (rw [if_neg (by omega), if_neg (by omega)]; first | done | rfl)
  · refine pt_ic eT_numbersOf_6 ?_
    refine pt_goto eT_numbersOf_7 ?_
    refine pt_iret eT_numbersOf_21 (Nat.le_refl _) (Nat.le_refl _) ?_
    refine ⟨?_, rfl, rfl⟩
    unfold nuN
    congr 2
    first
    | (rw [if_pos (by omega)]; first | done | rfl)
    | (rw [if_neg (by omega)]; first | done | rfl)
    | (rw [if_neg (by omega), if_pos (by omega)]; first | done | rfl)
    | (rw [if_neg (by omega), if_neg (by omega)]; first | done | rfl)
theorem cT_leastOf (G : pd_G) (sz : Nat) (hp : pd_P) {L : Int} {i : Nat} (hL0 : 0 ≤ L) (hL1 : L ≤ 999) (hi : i < 4) : pd_c G mT_leastOf 0 [vi L, vi (i : Int)] sz hp (pd_pure (vi (loN L i)) sz hp) := by
  refine pd_con kT_leastOf [some (vi L), some (vi (i : Int))] rfl rfl (Nat.le_of_ble_eq_true rfl) ?_
  refine pt_iload eT_leastOf_0 rfl ?_
  refine pt_ic eT_leastOf_1 ?_
  refine pt_ceq eT_leastOf_3 ⟨by omega, by omega⟩ ⟨by omega, by omega⟩ (fun c3 => ?_) (fun c3 => ?_)
  · refine pt_ic eT_leastOf_17 ?_
    refine pt_goto eT_leastOf_18 ?_
    refine pt_iret eT_leastOf_22 (Nat.le_refl _) (Nat.le_refl _) ?_
    refine ⟨?_, rfl, rfl⟩
    unfold loN
    congr 2
    first
    | (rw [if_pos (by omega)]; first | done | rfl)
    | (rw [if_neg (by omega)]; first | done | rfl)
  · refine pt_iload eT_leastOf_6 rfl ?_
    refine pt_ic eT_leastOf_7 ?_
    refine pt_cne eT_leastOf_9 ⟨by omega, by omega⟩ ⟨by omega, by omega⟩ (fun c9 => ?_) (fun c9 => ?_)
    · refine pt_ic eT_leastOf_21 ?_
      refine pt_iret eT_leastOf_22 (Nat.le_refl _) (Nat.le_refl _) ?_
      refine ⟨?_, rfl, rfl⟩
      unfold loN
      congr 2
      first
      | (rw [if_pos (by omega)]; first | done | rfl)
      | (rw [if_neg (by omega)]; first | done | rfl)
    · refine pt_iload eT_leastOf_12 rfl ?_
      refine pt_ic eT_leastOf_13 ?_
      refine pt_cne eT_leastOf_14 ⟨by omega, by omega⟩ ⟨by omega, by omega⟩ (fun c14 => ?_) (fun c14 => ?_)
      · refine pt_ic eT_leastOf_21 ?_
        refine pt_iret eT_leastOf_22 (Nat.le_refl _) (Nat.le_refl _) ?_
        refine ⟨?_, rfl, rfl⟩
        unfold loN
        congr 2
        first
        | (rw [if_pos (by omega)]; first | done | rfl)
        | (rw [if_neg (by omega)]; first | done | rfl)
      · refine pt_ic eT_leastOf_17 ?_
        refine pt_goto eT_leastOf_18 ?_
        refine pt_iret eT_leastOf_22 (Nat.le_refl _) (Nat.le_refl _) ?_
        refine ⟨?_, rfl, rfl⟩
        unfold loN
        congr 2
        first
        | (rw [if_pos (by omega)]; first | done | rfl)
        | (rw [if_neg (by omega)]; first | done | rfl)
theorem cT_mostOf (G : pd_G) (sz : Nat) (hp : pd_P) {h : Nat} {gd ev bk L : Int} {i : Nat} (hH : hp h = HO h gd ev bk) (hL0 : 0 ≤ L) (hL1 : L ≤ 999) (hi : i < 4) : pd_c G mT_mostOf 0 [vr h, vi L, vi (i : Int)] sz hp (pd_pure (vi (hiN gd L i)) sz hp) := by
  refine pd_con kT_mostOf [some (vr h), some (vi L), some (vi (i : Int))] rfl rfl (Nat.le_of_ble_eq_true rfl) ?_
  refine pt_iload eT_mostOf_0 rfl ?_
  rcases (show L = 100 ∨ L = 103 ∨ (L ≠ 100 ∧ L ≠ 103) by omega) with rfl | rfl | hsw
  · refine pt_lsw (t := 40) (off := 39) eT_mostOf_1 ⟨by decide, by decide⟩ (by decide) rfl (by decide) ?_
    refine pt_ic eT_mostOf_40 ?_
    refine pt_iret eT_mostOf_42 (Nat.le_refl _) (Nat.le_refl _) ?_
    exact ⟨rfl, rfl, rfl⟩
  · refine pt_lsw (t := 28) (off := 27) eT_mostOf_1 ⟨by decide, by decide⟩ (by decide) rfl (by decide) ?_
    refine pt_iload eT_mostOf_28 rfl ?_
    refine pt_zne eT_mostOf_29 ⟨by omega, by omega⟩ (fun c29 => ?_) (fun c29 => ?_)
    · refine pt_ic eT_mostOf_37 ?_
      refine pt_iret eT_mostOf_39 (Nat.le_refl _) (Nat.le_refl _) ?_
      refine ⟨?_, rfl, rfl⟩
      unfold hiN
      congr 2
      rw [if_pos rfl]
      first
      | (rw [if_pos (by omega)]; done)
      | (rw [if_neg (by omega)]; done)
    · refine pt_ic eT_mostOf_32 ?_
      refine pt_goto eT_mostOf_34 ?_
      refine pt_iret eT_mostOf_39 (Nat.le_refl _) (Nat.le_refl _) ?_
      refine ⟨?_, rfl, rfl⟩
      unfold hiN
      congr 2
      rw [if_pos rfl]
      first
      | (rw [if_pos (by omega)]; done)
      | (rw [if_neg (by omega)]; done)
  · refine pt_lsw (t := 43) (off := 42) eT_mostOf_1 ⟨by omega, by omega⟩ (by decide) (by rw [Op.lookupswitch.offset_cons, if_neg (by omega), Op.lookupswitch.offset_cons, if_neg (by omega), Op.lookupswitch.offset_nil]) (by decide) ?_
    refine pt_iload eT_mostOf_43 rfl ?_
    refine pt_zne eT_mostOf_44 ⟨by omega, by omega⟩ (fun c44 => ?_) (fun c44 => ?_)
    · refine pt_iload eT_mostOf_52 rfl ?_
      refine pt_ic eT_mostOf_53 ?_
      refine pt_cne eT_mostOf_54 ⟨by omega, by omega⟩ ⟨by omega, by omega⟩ (fun c54 => ?_) (fun c54 => ?_)
      · refine pt_ic eT_mostOf_66 ?_
        refine pt_iret eT_mostOf_68 (Nat.le_refl _) (Nat.le_refl _) ?_
        refine ⟨?_, rfl, rfl⟩
        unfold hiN
        congr 2
        rw [if_neg (by omega), if_neg (by omega)]
        first
        | (rw [if_pos (by omega)]; done)
        | (rw [if_neg (by omega), if_pos (by omega)]; done)
        | (rw [if_neg (by omega), if_neg (by omega)]; done)
      · refine pt_aload eT_mostOf_57 rfl ?_
        refine pt_get eT_mostOf_58 hH rfl ?_
        refine pt_ic eT_mostOf_61 ?_
        refine pt_isub eT_mostOf_62 ?_
        refine pt_goto eT_mostOf_63 ?_
        refine pt_iret eT_mostOf_68 (Nat.le_refl _) (Nat.le_refl _) ?_
        refine ⟨?_, rfl, rfl⟩
        unfold hiN
        congr 2
        rw [if_neg (by omega), if_neg (by omega)]
        first
        | (rw [if_pos (by omega)]; done)
        | (rw [if_neg (by omega), if_pos (by omega)]; done)
        | (rw [if_neg (by omega), if_neg (by omega)]; done)
    · refine pt_ic eT_mostOf_47 ?_
      refine pt_goto eT_mostOf_49 ?_
      refine pt_iret eT_mostOf_68 (Nat.le_refl _) (Nat.le_refl _) ?_
      refine ⟨?_, rfl, rfl⟩
      unfold hiN
      congr 2
      rw [if_neg (by omega), if_neg (by omega)]
      first
      | (rw [if_pos (by omega)]; done)
      | (rw [if_neg (by omega), if_pos (by omega)]; done)
      | (rw [if_neg (by omega), if_neg (by omega)]; done)
theorem uI_g {f e : Int → Int} {gd x g o : Int} (hg : g < gd + 1) (h : g < gd → f g = e (o + g)) : uI f gd x g = uI e (o + gd) x (o + g) := by
  by_cases hk : g = gd
  · rw [hk, uI_s, uI_s]
  · rw [uI_n _ _ hk, uI_n _ _ (by omega)]
    exact h (by omega)
theorem cT_putGood (G : pd_G) (sz : Nat) (hp : pd_P) {h : Nat} {n x1 x2 x3 x4 dt : Int} {nu : Int → Int} {r : Nat → Int → Int} (hh : 5 ≤ h) (hT : hp 2 = TO n x1 x2 x3 x4 dt) (hTn : hp 4 = ia 4 nu) (hHR : HR hp h r) (hg0 : 0 ≤ r 3 1) (hg4 : r 3 1 ≤ 4) (hgl : r 3 1 < 4) : pd_c G mT_putGood 0 [vr 2, vr h] sz hp (fun v' sz' hp' => v' = none ∧ sz' = sz ∧ hp' 2 = TO n x1 x2 x3 x4 (dt) ∧ hp' 4 = ia 4 nu ∧ HR hp' h (rgq r (nu 0) (nu 1) (nu 2) (nu 3)) ∧ FR h hp hp') := by
  refine pd_con kT_putGood [some (vr 2), some (vr h), none] rfl rfl (Nat.le_of_ble_eq_true rfl) ?_
  obtain ⟨fi, us, we, wo, br, ms, st, ⟨hH, hH1, hH2, hH3, hH4, hH5, hH6, hH7⟩, hag, hab⟩ := hHR
  refine pt_aload eT_putGood_0 rfl ?_
  refine pt_get eT_putGood_1 hH rfl ?_
  refine pt_istore2 eT_putGood_4 rfl ?_
  refine pt_iload eT_putGood_5 rfl ?_
  refine pt_ic eT_putGood_6 ?_
  refine pt_cge eT_putGood_7 ⟨by omega, by omega⟩ ⟨by omega, by omega⟩ (fun c7 => ?_) (fun c7 => ?_)
  · refine pt_vret eT_putGood_68 (Nat.le_refl _) (Nat.le_refl _) ?_
    first
    | (exfalso; omega)
    | (refine ⟨rfl, rfl, hT, hTn, ⟨_, _, _, _, _, _, _, ⟨hH, hH1, hH2, hH3, hH4, hH5, hH6, hH7⟩, ?_, ?_⟩, FR.rf⟩
       · intro g g0 g1
         have g2 : g < r 3 1 + 1 := g1
         exact ⟨uI_g (o := 4) g2 (fun k => (hag g g0 k).1), uI_g (o := 4) g2 (fun k => (hag g g0 k).2.1), uI_g (o := 4) g2 (fun k => (hag g g0 k).2.2.1), uI_g (o := 4) g2 (fun k => (hag g g0 k).2.2.2)⟩
       · exact hab)
  · refine pt_aload eT_putGood_10 rfl ?_
    refine pt_get eT_putGood_11 hH rfl ?_
    refine pt_iload eT_putGood_14 rfl ?_
    refine pt_aload eT_putGood_15 rfl ?_
    refine pt_get eT_putGood_16 hT rfl ?_
    refine pt_ic eT_putGood_19 ?_
    refine pt_iald eT_putGood_20 hTn (by omega) (by omega) (by decide) ?_
    refine pt_iast eT_putGood_21 hH1 (by omega) (by omega) (by decide) ?_
    refine pt_gen ?_
    intro hp1 ev1
    have hH := pg_n ev1 (by omega) hH
    have hH1 := pg_s ev1
    have hH2 := pg_n ev1 (by omega) hH2
    have hH3 := pg_n ev1 (by omega) hH3
    have hH4 := pg_n ev1 (by omega) hH4
    have hH5 := pg_n ev1 (by omega) hH5
    have hH6 := pg_n ev1 (by omega) hH6
    have hH7 := pg_n ev1 (by omega) hH7
    have hT := pg_n ev1 (by omega) hT
    have hTn := pg_n ev1 (by omega) hTn
    refine pt_aload eT_putGood_22 rfl ?_
    refine pt_get eT_putGood_23 hH rfl ?_
    refine pt_iload eT_putGood_26 rfl ?_
    refine pt_aload eT_putGood_27 rfl ?_
    refine pt_get eT_putGood_28 hT rfl ?_
    refine pt_ic eT_putGood_31 ?_
    refine pt_iald eT_putGood_32 hTn (by omega) (by omega) (by decide) ?_
    refine pt_iast eT_putGood_33 hH2 (by omega) (by omega) (by decide) ?_
    refine pt_gen ?_
    intro hp2 ev2
    have hH := pg_n ev2 (by omega) hH
    have hH1 := pg_n ev2 (by omega) hH1
    have hH2 := pg_s ev2
    have hH3 := pg_n ev2 (by omega) hH3
    have hH4 := pg_n ev2 (by omega) hH4
    have hH5 := pg_n ev2 (by omega) hH5
    have hH6 := pg_n ev2 (by omega) hH6
    have hH7 := pg_n ev2 (by omega) hH7
    have hT := pg_n ev2 (by omega) hT
    have hTn := pg_n ev2 (by omega) hTn
    refine pt_aload eT_putGood_34 rfl ?_
    refine pt_get eT_putGood_35 hH rfl ?_
    refine pt_iload eT_putGood_38 rfl ?_
    refine pt_aload eT_putGood_39 rfl ?_
    refine pt_get eT_putGood_40 hT rfl ?_
    refine pt_ic eT_putGood_43 ?_
    refine pt_iald eT_putGood_44 hTn (by omega) (by omega) (by decide) ?_
    refine pt_iast eT_putGood_45 hH3 (by omega) (by omega) (by decide) ?_
    refine pt_gen ?_
    intro hp3 ev3
    have hH := pg_n ev3 (by omega) hH
    have hH1 := pg_n ev3 (by omega) hH1
    have hH2 := pg_n ev3 (by omega) hH2
    have hH3 := pg_s ev3
    have hH4 := pg_n ev3 (by omega) hH4
    have hH5 := pg_n ev3 (by omega) hH5
    have hH6 := pg_n ev3 (by omega) hH6
    have hH7 := pg_n ev3 (by omega) hH7
    have hT := pg_n ev3 (by omega) hT
    have hTn := pg_n ev3 (by omega) hTn
    refine pt_aload eT_putGood_46 rfl ?_
    refine pt_get eT_putGood_47 hH rfl ?_
    refine pt_iload eT_putGood_50 rfl ?_
    refine pt_aload eT_putGood_51 rfl ?_
    refine pt_get eT_putGood_52 hT rfl ?_
    refine pt_ic eT_putGood_55 ?_
    refine pt_iald eT_putGood_56 hTn (by omega) (by omega) (by decide) ?_
    refine pt_iast eT_putGood_57 hH4 (by omega) (by omega) (by decide) ?_
    refine pt_gen ?_
    intro hp4 ev4
    have hH := pg_n ev4 (by omega) hH
    have hH1 := pg_n ev4 (by omega) hH1
    have hH2 := pg_n ev4 (by omega) hH2
    have hH3 := pg_n ev4 (by omega) hH3
    have hH4 := pg_s ev4
    have hH5 := pg_n ev4 (by omega) hH5
    have hH6 := pg_n ev4 (by omega) hH6
    have hH7 := pg_n ev4 (by omega) hH7
    have hT := pg_n ev4 (by omega) hT
    have hTn := pg_n ev4 (by omega) hTn
    refine pt_aload eT_putGood_58 rfl ?_
    refine pt_dupr eT_putGood_59 ?_
    refine pt_get eT_putGood_60 hH rfl ?_
    refine pt_ic eT_putGood_63 ?_
    refine pt_iadd eT_putGood_64 ?_
    refine pt_put7 eT_putGood_65 hH trivial ?_
    refine pt_gen ?_
    intro hp5 ev5
    have hH := pg_s ev5
    have hH1 := pg_n ev5 (by omega) hH1
    have hH2 := pg_n ev5 (by omega) hH2
    have hH3 := pg_n ev5 (by omega) hH3
    have hH4 := pg_n ev5 (by omega) hH4
    have hH5 := pg_n ev5 (by omega) hH5
    have hH6 := pg_n ev5 (by omega) hH6
    have hH7 := pg_n ev5 (by omega) hH7
    have hT := pg_n ev5 (by omega) hT
    have hTn := pg_n ev5 (by omega) hTn
    refine pt_vret eT_putGood_68 (Nat.le_refl _) (Nat.le_refl _) ?_
    first
    | (exfalso; omega)
    | (refine ⟨rfl, rfl, hT, hTn, ⟨_, _, _, _, _, _, _, ⟨hH, hH1, hH2, hH3, hH4, hH5, hH6, hH7⟩, ?_, ?_⟩, (((((FR.rf.up ev1 (by omega)).up ev2 (by omega)).up ev3 (by omega)).up ev4 (by omega)).up ev5 (by omega))⟩
       · intro g g0 g1
         have g2 : g < r 3 1 + 1 := g1
         exact ⟨uI_g (o := 4) g2 (fun k => (hag g g0 k).1), uI_g (o := 4) g2 (fun k => (hag g g0 k).2.1), uI_g (o := 4) g2 (fun k => (hag g g0 k).2.2.1), uI_g (o := 4) g2 (fun k => (hag g g0 k).2.2.2)⟩
       · exact hab)
theorem cT_putDoor (G : pd_G) (sz : Nat) (hp : pd_P) {h : Nat} {n x1 x2 x3 x4 dt : Int} {nu : Int → Int} {r : Nat → Int → Int} (hh : 5 ≤ h) (hT : hp 2 = TO n x1 x2 x3 x4 dt) (hTn : hp 4 = ia 4 nu) (hHR : HR hp h r) (hg0 : 0 ≤ r 3 1) (hg4 : r 3 1 ≤ 4) : pd_c G mT_putDoor 0 [vr 2, vr h] sz hp (fun v' sz' hp' => v' = none ∧ sz' = sz ∧ hp' 2 = TO n x1 x2 x3 x4 (1) ∧ hp' 4 = ia 4 nu ∧ HR hp' h (rdq r (nu 0) (nu 1)) ∧ FR h hp hp') := by
  refine pd_con kT_putDoor [some (vr 2), some (vr h)] rfl rfl (Nat.le_of_ble_eq_true rfl) ?_
  obtain ⟨fi, us, we, wo, br, ms, st, ⟨hH, hH1, hH2, hH3, hH4, hH5, hH6, hH7⟩, hag, hab⟩ := hHR
  refine pt_aload eT_putDoor_0 rfl ?_
  refine pt_ic eT_putDoor_1 ?_
  refine pt_put7 eT_putDoor_2 hT (Or.inr rfl) ?_
  refine pt_gen ?_
  intro hp1 ev1
  have hH := pg_n ev1 (by omega) hH
  have hH1 := pg_n ev1 (by omega) hH1
  have hH2 := pg_n ev1 (by omega) hH2
  have hH3 := pg_n ev1 (by omega) hH3
  have hH4 := pg_n ev1 (by omega) hH4
  have hH5 := pg_n ev1 (by omega) hH5
  have hH6 := pg_n ev1 (by omega) hH6
  have hH7 := pg_n ev1 (by omega) hH7
  have hT := pg_s ev1
  have hTn := pg_n ev1 (by omega) hTn
  refine pt_aload eT_putDoor_5 rfl ?_
  refine pt_aload eT_putDoor_6 rfl ?_
  refine pt_get eT_putDoor_7 hT rfl ?_
  refine pt_ic eT_putDoor_10 ?_
  refine pt_iald eT_putDoor_11 hTn (by omega) (by omega) (by decide) ?_
  refine pt_put8 eT_putDoor_12 hH trivial ?_
  refine pt_gen ?_
  intro hp2 ev2
  have hH := pg_s ev2
  have hH1 := pg_n ev2 (by omega) hH1
  have hH2 := pg_n ev2 (by omega) hH2
  have hH3 := pg_n ev2 (by omega) hH3
  have hH4 := pg_n ev2 (by omega) hH4
  have hH5 := pg_n ev2 (by omega) hH5
  have hH6 := pg_n ev2 (by omega) hH6
  have hH7 := pg_n ev2 (by omega) hH7
  have hT := pg_n ev2 (by omega) hT
  have hTn := pg_n ev2 (by omega) hTn
  refine pt_aload eT_putDoor_15 rfl ?_
  refine pt_aload eT_putDoor_16 rfl ?_
  refine pt_get eT_putDoor_17 hT rfl ?_
  refine pt_ic eT_putDoor_20 ?_
  refine pt_iald eT_putDoor_21 hTn (by omega) (by omega) (by decide) ?_
  refine pt_put9 eT_putDoor_22 hH trivial ?_
  refine pt_gen ?_
  intro hp3 ev3
  have hH := pg_s ev3
  have hH1 := pg_n ev3 (by omega) hH1
  have hH2 := pg_n ev3 (by omega) hH2
  have hH3 := pg_n ev3 (by omega) hH3
  have hH4 := pg_n ev3 (by omega) hH4
  have hH5 := pg_n ev3 (by omega) hH5
  have hH6 := pg_n ev3 (by omega) hH6
  have hH7 := pg_n ev3 (by omega) hH7
  have hT := pg_n ev3 (by omega) hT
  have hTn := pg_n ev3 (by omega) hTn
  refine pt_vret eT_putDoor_25 (Nat.le_refl _) (Nat.le_refl _) ?_
  refine ⟨rfl, rfl, hT, hTn, ⟨_, _, _, _, _, _, _, ⟨hH, hH1, hH2, hH3, hH4, hH5, hH6, hH7⟩, ?_, ?_⟩, (((FR.rf.up ev1 (by omega)).up ev2 (by omega)).up ev3 (by omega))⟩
  · exact hag
  · exact hab
theorem uI_k {f e : Int → Int} {a c x k : Int} (h : f k = e (80 + k)) : uI f (a * 4 + c) x k = uI e (80 + 4 * a + c) x (80 + k) := by
  by_cases hk : k = a * 4 + c
  · rw [hk, uI_s, show 80 + (a * 4 + c) = 80 + 4 * a + c by omega, uI_s]
  · rw [uI_n _ _ hk, uI_n _ _ (by omega)]
    exact h
theorem cT_put (G : pd_G) (sz : Nat) (hp : pd_P) {h : Nat} {n x1 x2 x3 x4 dt : Int} {nu : Int → Int} {r : Nat → Int → Int} (hh : 5 ≤ h) (hT : hp 2 = TO n x1 x2 x3 x4 dt) (hTn : hp 4 = ia 4 nu) (hHR : HR hp h r) (hg0 : 0 ≤ r 3 1) (hg4 : r 3 1 ≤ 4) {L : Int} (hL : (L = 103 ∧ r 3 1 < 4) ∨ L = 98 ∨ L = 109 ∨ L = 100) (hlo : ∀ i : Nat, i < nuN L → loN L i ≤ nu i ∧ nu i ≤ hiN (r 3 1) L i) : pd_c G mT_put 1 [vr 2, vr h, vi L] sz hp (fun v' sz' hp' => v' = none ∧ sz' = sz ∧ hp' 2 = TO n x1 x2 x3 x4 (iph dt L) ∧ hp' 4 = ia 4 nu ∧ HR hp' h (ipq r L (nu 0) (nu 1) (nu 2) (nu 3)) ∧ FR h hp hp') := by
  refine pd_con kT_put [some (vr 2), some (vr h), some (vi L)] rfl rfl (Nat.le_of_ble_eq_true rfl) ?_
  have hHR0 := hHR
  obtain ⟨fi, us, we, wo, br, ms, st, ⟨hH, hH1, hH2, hH3, hH4, hH5, hH6, hH7⟩, hag, hab⟩ := hHR
  refine pt_iload eT_put_0 rfl ?_
  rcases (show L = 98 ∨ L = 103 ∨ L = 109 ∨ (L ≠ 98 ∧ L ≠ 103 ∧ L ≠ 109) by omega) with rfl | rfl | rfl | hsw
  · refine pt_lsw (t := 44) (off := 43) eT_put_1 ⟨by decide, by decide⟩ (by decide) rfl (by decide) ?_
    have l0 : 0 ≤ nu 0 ∧ nu 0 ≤ 19 := hlo 0 (by decide)
    have l1 : 0 ≤ nu 1 ∧ nu 1 ≤ r 3 1 - 1 := hlo 1 (by decide)
    refine pt_aload eT_put_44 rfl ?_
    refine pt_get eT_put_45 hH rfl ?_
    refine pt_aload eT_put_48 rfl ?_
    refine pt_get eT_put_49 hT rfl ?_
    refine pt_ic eT_put_52 ?_
    refine pt_iald eT_put_53 hTn (by omega) (by omega) (by decide) ?_
    refine pt_ic eT_put_54 ?_
    refine pt_imul eT_put_55 ?_
    refine pt_aload eT_put_56 rfl ?_
    refine pt_get eT_put_57 hT rfl ?_
    refine pt_ic eT_put_60 ?_
    refine pt_iald eT_put_61 hTn (by omega) (by omega) (by decide) ?_
    refine pt_iadd eT_put_62 ?_
    refine pt_aload eT_put_63 rfl ?_
    refine pt_get eT_put_64 hT rfl ?_
    refine pt_ic eT_put_67 ?_
    refine pt_iald eT_put_68 hTn (by omega) (by omega) (by decide) ?_
    refine pt_iast eT_put_69 hH5 (by omega) (by omega) (by decide) ?_
    refine pt_gen ?_
    intro hp1 ev1
    have hH := pg_n ev1 (by omega) hH
    have hH1 := pg_n ev1 (by omega) hH1
    have hH2 := pg_n ev1 (by omega) hH2
    have hH3 := pg_n ev1 (by omega) hH3
    have hH4 := pg_n ev1 (by omega) hH4
    have hH5 := pg_s ev1
    have hH6 := pg_n ev1 (by omega) hH6
    have hH7 := pg_n ev1 (by omega) hH7
    have hT := pg_n ev1 (by omega) hT
    have hTn := pg_n ev1 (by omega) hTn
    refine pt_goto eT_put_70 ?_
    refine pt_vret eT_put_107 (Nat.le_refl _) (Nat.le_refl _) ?_
    first
    | exact ⟨rfl, rfl, p1, p2, p3, p4⟩
    | (refine ⟨rfl, rfl, ?_, p2, ?_, p4⟩
       · rw [show iph dt L = 1 by unfold iph; rw [if_pos (by omega)]]; exact p1
       · rw [show ipq r L (nu 0) (nu 1) (nu 2) (nu 3) = rdq r (nu 0) (nu 1) by unfold ipq; rw [if_neg (by omega), if_neg (by omega), if_neg (by omega)]]; exact p3)
    | (refine ⟨rfl, rfl, hT, hTn, ⟨_, _, _, _, _, _, _, ⟨hH, hH1, hH2, hH3, hH4, hH5, hH6, hH7⟩, ?_, ?_⟩, (FR.rf.up ev1 (by omega))⟩
       · exact hag
       · exact fun k k0 k1 => ⟨uI_k (hab k k0 k1).1, (hab k k0 k1).2⟩)
    | (refine ⟨rfl, rfl, hT, hTn, ⟨_, _, _, _, _, _, _, ⟨hH, hH1, hH2, hH3, hH4, hH5, hH6, hH7⟩, ?_, ?_⟩, (FR.rf.up ev1 (by omega))⟩
       · exact hag
       · exact fun k k0 k1 => ⟨(hab k k0 k1).1, uI_k (hab k k0 k1).2⟩)
  · refine pt_lsw (t := 36) (off := 35) eT_put_1 ⟨by decide, by decide⟩ (by decide) rfl (by decide) ?_
    refine pt_aload eT_put_36 rfl ?_
    refine pt_aload eT_put_37 rfl ?_
    refine pt_kv1 eT_put_38 (cT_putGood G sz _ hh hT hTn hHR0 hg0 hg4 (by omega)) hT rfl (Nat.le_of_ble_eq_true rfl) (by decide) (Nat.le_refl _) (Nat.le_refl _) ?_
    rintro v2 sz2 hpx ⟨rfl, hz9, p1, p2, p3, p4⟩
    obtain rfl := hz9.symm
    refine pt_goto eT_put_41 ?_
    refine pt_vret eT_put_107 (Nat.le_refl _) (Nat.le_refl _) ?_
    first
    | exact ⟨rfl, rfl, p1, p2, p3, p4⟩
    | (refine ⟨rfl, rfl, ?_, p2, ?_, p4⟩
       · rw [show iph dt L = 1 by unfold iph; rw [if_pos (by omega)]]; exact p1
       · rw [show ipq r L (nu 0) (nu 1) (nu 2) (nu 3) = rdq r (nu 0) (nu 1) by unfold ipq; rw [if_neg (by omega), if_neg (by omega), if_neg (by omega)]]; exact p3)
    | (refine ⟨rfl, rfl, hT, hTn, ⟨_, _, _, _, _, _, _, ⟨hH, hH1, hH2, hH3, hH4, hH5, hH6, hH7⟩, ?_, ?_⟩, FR.rf⟩
       · exact hag
       · exact fun k k0 k1 => ⟨uI_k (hab k k0 k1).1, (hab k k0 k1).2⟩)
    | (refine ⟨rfl, rfl, hT, hTn, ⟨_, _, _, _, _, _, _, ⟨hH, hH1, hH2, hH3, hH4, hH5, hH6, hH7⟩, ?_, ?_⟩, FR.rf⟩
       · exact hag
       · exact fun k k0 k1 => ⟨(hab k k0 k1).1, uI_k (hab k k0 k1).2⟩)
  · refine pt_lsw (t := 73) (off := 72) eT_put_1 ⟨by decide, by decide⟩ (by decide) rfl (by decide) ?_
    have l0 : 0 ≤ nu 0 ∧ nu 0 ≤ 19 := hlo 0 (by decide)
    have l1 : 0 ≤ nu 1 ∧ nu 1 ≤ r 3 1 - 1 := hlo 1 (by decide)
    refine pt_aload eT_put_73 rfl ?_
    refine pt_get eT_put_74 hH rfl ?_
    refine pt_aload eT_put_77 rfl ?_
    refine pt_get eT_put_78 hT rfl ?_
    refine pt_ic eT_put_81 ?_
    refine pt_iald eT_put_82 hTn (by omega) (by omega) (by decide) ?_
    refine pt_ic eT_put_83 ?_
    refine pt_imul eT_put_84 ?_
    refine pt_aload eT_put_85 rfl ?_
    refine pt_get eT_put_86 hT rfl ?_
    refine pt_ic eT_put_89 ?_
    refine pt_iald eT_put_90 hTn (by omega) (by omega) (by decide) ?_
    refine pt_iadd eT_put_91 ?_
    refine pt_aload eT_put_92 rfl ?_
    refine pt_get eT_put_93 hT rfl ?_
    refine pt_ic eT_put_96 ?_
    refine pt_iald eT_put_97 hTn (by omega) (by omega) (by decide) ?_
    refine pt_iast eT_put_98 hH6 (by omega) (by omega) (by decide) ?_
    refine pt_gen ?_
    intro hp3 ev3
    have hH := pg_n ev3 (by omega) hH
    have hH1 := pg_n ev3 (by omega) hH1
    have hH2 := pg_n ev3 (by omega) hH2
    have hH3 := pg_n ev3 (by omega) hH3
    have hH4 := pg_n ev3 (by omega) hH4
    have hH5 := pg_n ev3 (by omega) hH5
    have hH6 := pg_s ev3
    have hH7 := pg_n ev3 (by omega) hH7
    have hT := pg_n ev3 (by omega) hT
    have hTn := pg_n ev3 (by omega) hTn
    refine pt_goto eT_put_99 ?_
    refine pt_vret eT_put_107 (Nat.le_refl _) (Nat.le_refl _) ?_
    first
    | exact ⟨rfl, rfl, p1, p2, p3, p4⟩
    | (refine ⟨rfl, rfl, ?_, p2, ?_, p4⟩
       · rw [show iph dt L = 1 by unfold iph; rw [if_pos (by omega)]]; exact p1
       · rw [show ipq r L (nu 0) (nu 1) (nu 2) (nu 3) = rdq r (nu 0) (nu 1) by unfold ipq; rw [if_neg (by omega), if_neg (by omega), if_neg (by omega)]]; exact p3)
    | (refine ⟨rfl, rfl, hT, hTn, ⟨_, _, _, _, _, _, _, ⟨hH, hH1, hH2, hH3, hH4, hH5, hH6, hH7⟩, ?_, ?_⟩, (FR.rf.up ev3 (by omega))⟩
       · exact hag
       · exact fun k k0 k1 => ⟨uI_k (hab k k0 k1).1, (hab k k0 k1).2⟩)
    | (refine ⟨rfl, rfl, hT, hTn, ⟨_, _, _, _, _, _, _, ⟨hH, hH1, hH2, hH3, hH4, hH5, hH6, hH7⟩, ?_, ?_⟩, (FR.rf.up ev3 (by omega))⟩
       · exact hag
       · exact fun k k0 k1 => ⟨(hab k k0 k1).1, uI_k (hab k k0 k1).2⟩)
  · refine pt_lsw (t := 102) (off := 101) eT_put_1 ⟨by omega, by omega⟩ (by decide) (by rw [Op.lookupswitch.offset_cons, if_neg (by omega), Op.lookupswitch.offset_cons, if_neg (by omega), Op.lookupswitch.offset_cons, if_neg (by omega), Op.lookupswitch.offset_nil]) (by decide) ?_
    refine pt_aload eT_put_102 rfl ?_
    refine pt_aload eT_put_103 rfl ?_
    refine pt_kv1 eT_put_104 (cT_putDoor G sz _ hh hT hTn hHR0 hg0 hg4) hT rfl (Nat.le_of_ble_eq_true rfl) (by decide) (Nat.le_refl _) (Nat.le_refl _) ?_
    rintro v2 sz2 hpx ⟨rfl, hz9, p1, p2, p3, p4⟩
    obtain rfl := hz9.symm
    refine pt_vret eT_put_107 (Nat.le_refl _) (Nat.le_refl _) ?_
    first
    | exact ⟨rfl, rfl, p1, p2, p3, p4⟩
    | (refine ⟨rfl, rfl, ?_, p2, ?_, p4⟩
       · rw [show iph dt L = 1 by unfold iph; rw [if_pos (by omega)]]; exact p1
       · rw [show ipq r L (nu 0) (nu 1) (nu 2) (nu 3) = rdq r (nu 0) (nu 1) by unfold ipq; rw [if_neg (by omega), if_neg (by omega), if_neg (by omega)]]; exact p3)
    | (refine ⟨rfl, rfl, hT, hTn, ⟨_, _, _, _, _, _, _, ⟨hH, hH1, hH2, hH3, hH4, hH5, hH6, hH7⟩, ?_, ?_⟩, FR.rf⟩
       · exact hag
       · exact fun k k0 k1 => ⟨uI_k (hab k k0 k1).1, (hab k k0 k1).2⟩)
    | (refine ⟨rfl, rfl, hT, hTn, ⟨_, _, _, _, _, _, _, ⟨hH, hH1, hH2, hH3, hH4, hH5, hH6, hH7⟩, ?_, ?_⟩, FR.rf⟩
       · exact hag
       · exact fun k k0 k1 => ⟨(hab k k0 k1).1, uI_k (hab k k0 k1).2⟩)
