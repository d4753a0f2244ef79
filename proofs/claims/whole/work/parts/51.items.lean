/-! items: the reference's -/
theorem uq_uu {α : Type} (f : Nat → α) (k : Nat) (x y : α) : va_up (va_up f k x) k y = va_up f k y := by
  funext j
  unfold va_up
  split <;> rfl
def rgq (q : Nat → Int → Int) (x0 x1 x2 x3 : Int) : Nat → Int → Int := va_up (va_up (va_up (va_up (va_up q 4 (uI (q 4) (4 + q 3 1) x0)) 5 (uI (q 5) (4 + q 3 1) x1)) 6 (uI (q 6) (4 + q 3 1) x2)) 7 (uI (q 7) (4 + q 3 1) x3)) 3 (uI (q 3) 1 (q 3 1 + 1))
def rdq (q : Nat → Int → Int) (x0 x1 : Int) : Nat → Int → Int := va_up q 2 (uI (uI (q 2) 2 x0) 3 x1)
def roq (q : Nat → Int → Int) (k : Nat) (x0 x1 x2 : Int) : Nat → Int → Int := va_up q k (uI (q k) (80 + 4 * x0 + x1) x2)
def vG (b : Int → Int) (v : Nat → Int) : Nat → Int := nuf b (nuf b (nuf b (nuf b v 0 60) 0 9) 1 9) 0 9
def vO (b : Int → Int) (gd : Int) (v : Nat → Int) : Nat → Int := nuf b (nuf b (nuf b v 0 19) 0 (gd - 1)) 0 30
def vD (b : Int → Int) (v : Nat → Int) : Nat → Int := va_up (nuf b (nuf b v 1 9) 1 9) 16 1
abbrev Sq : Type := (Nat → Int → Int) × (Nat → Int)
def iG (b : Int → Int) (q : Nat → Int → Int) (v : Nat → Int) : Sq := (rgq q (v 13) (nuf b v 0 60 13) (nuf b (nuf b v 0 60) 0 9 13) (nuf b (nuf b (nuf b v 0 60) 0 9) 1 9 13), vG b v)
def iO (b : Int → Int) (k : Nat) (q : Nat → Int → Int) (v : Nat → Int) : Sq := (if vO b (q 3 1) v 14 = 0 then roq q k (v 13) (nuf b v 0 19 13) (nuf b (nuf b v 0 19) 0 (q 3 1 - 1) 13) else q, vO b (q 3 1) v)
def iD (b : Int → Int) (q : Nat → Int → Int) (v : Nat → Int) : Sq := (rdq q (v 13) (nuf b v 1 9 13), vD b v)
def itq (b : Int → Int) (q : Nat → Int → Int) (v : Nat → Int) (L : Int) : Sq := if L = 103 then iG b q v else if L = 98 then iO b 8 q v else if L = 109 then iO b 9 q v else iD b q v
def qPost (hp : pd_P) (sz : Nat) (r : Sq) : pd_R := fun v' sz' hp' => v' = none ∧ sz' = sz ∧ MW hp' r.1 r.2 ∧ fr hp hp' 178 200
theorem uq_m {q : Nat → Int → Int} {f : Int → Int} {j k : Nat} (h : k ≠ j) : va_up q j f k = q k := va_up_ne _ _ h
theorem cR_readGood (G : pd_G) (sz : Nat) (hp : pd_P) {q : Nat → Int → Int} {v : Nat → Int} (hM : MW hp q v) (hV : vok (fun x => q 0 x % 2 ^ 8) v) (hg0 : 0 ≤ q 3 1) (hg4 : q 3 1 < 4) : pd_c G mR_readGood 5 [vr 178] sz hp (qPost hp sz (iG (fun x => q 0 x % 2 ^ 8) q v)) := by
  refine pd_con kR_readGood [some (vr 178), none] rfl rfl (Nat.le_of_ble_eq_true rfl) ?_
  have hR := hM.1
  have h_text := hM.w_text
  have h_goods := hM.w_goods
  have h_first := hM.w_first
  have h_use := hM.w_use
  have h_weight := hM.w_weight
  have h_worth := hM.w_worth
  have hV1 := (nuf_ok (lo := 0) (hi := 60) hV).1
  have hV2 := (nuf_ok (lo := 0) (hi := 9) hV1).1
  have hV3 := (nuf_ok (lo := 1) (hi := 9) hV2).1
  refine pt_ic eR_readGood_0 ?_
  refine pt_aload eR_readGood_1 rfl ?_
  refine pt_get eR_readGood_2 hR rfl ?_
  refine pt_ic eR_readGood_5 ?_
  refine pt_iald eR_readGood_6 h_goods (by omega) (by omega) (by decide) ?_
  refine pt_iadd eR_readGood_7 ?_
  refine pt_istore1 eR_readGood_8 rfl ?_
  refine pt_aload eR_readGood_9 rfl ?_
  refine pt_get eR_readGood_10 hR rfl ?_
  refine pt_iload eR_readGood_13 rfl ?_
  refine pt_aload eR_readGood_14 rfl ?_
  refine pt_ic eR_readGood_15 ?_
  refine pt_ic eR_readGood_16 ?_
  refine pt_kv2 eR_readGood_18 (cR_number G sz _ (v := v) hR h_text hV ⟨by omega, by omega⟩ ⟨by omega, by omega⟩) hR rfl (Nat.le_of_ble_eq_true rfl) (by decide) (Nat.le_refl _) (Nat.le_refl _) ?_
  rintro v2 sz2 hpn1 ⟨rfl, hz9, hx1⟩
  obtain rfl := hz9.symm
  have hR := pg_s hx1
  have h_text := pg_n hx1 (by decide) h_text
  have h_goods := pg_n hx1 (by decide) h_goods
  have h_first := pg_n hx1 (by decide) h_first
  have h_use := pg_n hx1 (by decide) h_use
  have h_weight := pg_n hx1 (by decide) h_weight
  have h_worth := pg_n hx1 (by decide) h_worth
  refine pt_iast eR_readGood_21 h_first (by omega) (by omega) (by decide) ?_
  refine pt_gen ?_
  intro hp2 ev2
  have hR := pg_n ev2 (by omega) hR
  have h_text := pg_n ev2 (by omega) h_text
  have h_goods := pg_n ev2 (by omega) h_goods
  have h_first := pg_s ev2
  have h_use := pg_n ev2 (by omega) h_use
  have h_weight := pg_n ev2 (by omega) h_weight
  have h_worth := pg_n ev2 (by omega) h_worth
  refine pt_aload eR_readGood_22 rfl ?_
  refine pt_get eR_readGood_23 hR rfl ?_
  refine pt_iload eR_readGood_26 rfl ?_
  refine pt_aload eR_readGood_27 rfl ?_
  refine pt_ic eR_readGood_28 ?_
  refine pt_ic eR_readGood_29 ?_
  refine pt_kv2 eR_readGood_31 (cR_number G sz _ (v := (nuf (fun x => q 0 x % 2 ^ 8) v 0 60)) hR h_text hV1 ⟨by omega, by omega⟩ ⟨by omega, by omega⟩) hR rfl (Nat.le_of_ble_eq_true rfl) (by decide) (Nat.le_refl _) (Nat.le_refl _) ?_
  rintro v2 sz2 hpn2 ⟨rfl, hz9, hx2⟩
  obtain rfl := hz9.symm
  have hR := pg_s hx2
  have h_text := pg_n hx2 (by decide) h_text
  have h_goods := pg_n hx2 (by decide) h_goods
  have h_first := pg_n hx2 (by decide) h_first
  have h_use := pg_n hx2 (by decide) h_use
  have h_weight := pg_n hx2 (by decide) h_weight
  have h_worth := pg_n hx2 (by decide) h_worth
  refine pt_iast eR_readGood_34 h_use (by omega) (by omega) (by decide) ?_
  refine pt_gen ?_
  intro hp4 ev4
  have hR := pg_n ev4 (by omega) hR
  have h_text := pg_n ev4 (by omega) h_text
  have h_goods := pg_n ev4 (by omega) h_goods
  have h_first := pg_n ev4 (by omega) h_first
  have h_use := pg_s ev4
  have h_weight := pg_n ev4 (by omega) h_weight
  have h_worth := pg_n ev4 (by omega) h_worth
  refine pt_aload eR_readGood_35 rfl ?_
  refine pt_get eR_readGood_36 hR rfl ?_
  refine pt_iload eR_readGood_39 rfl ?_
  refine pt_aload eR_readGood_40 rfl ?_
  refine pt_ic eR_readGood_41 ?_
  refine pt_ic eR_readGood_42 ?_
  refine pt_kv2 eR_readGood_44 (cR_number G sz _ (v := (nuf (fun x => q 0 x % 2 ^ 8) (nuf (fun x => q 0 x % 2 ^ 8) v 0 60) 0 9)) hR h_text hV2 ⟨by omega, by omega⟩ ⟨by omega, by omega⟩) hR rfl (Nat.le_of_ble_eq_true rfl) (by decide) (Nat.le_refl _) (Nat.le_refl _) ?_
  rintro v2 sz2 hpn3 ⟨rfl, hz9, hx3⟩
  obtain rfl := hz9.symm
  have hR := pg_s hx3
  have h_text := pg_n hx3 (by decide) h_text
  have h_goods := pg_n hx3 (by decide) h_goods
  have h_first := pg_n hx3 (by decide) h_first
  have h_use := pg_n hx3 (by decide) h_use
  have h_weight := pg_n hx3 (by decide) h_weight
  have h_worth := pg_n hx3 (by decide) h_worth
  refine pt_iast eR_readGood_47 h_weight (by omega) (by omega) (by decide) ?_
  refine pt_gen ?_
  intro hp6 ev6
  have hR := pg_n ev6 (by omega) hR
  have h_text := pg_n ev6 (by omega) h_text
  have h_goods := pg_n ev6 (by omega) h_goods
  have h_first := pg_n ev6 (by omega) h_first
  have h_use := pg_n ev6 (by omega) h_use
  have h_weight := pg_s ev6
  have h_worth := pg_n ev6 (by omega) h_worth
  refine pt_aload eR_readGood_48 rfl ?_
  refine pt_get eR_readGood_49 hR rfl ?_
  refine pt_iload eR_readGood_52 rfl ?_
  refine pt_aload eR_readGood_53 rfl ?_
  refine pt_ic eR_readGood_54 ?_
  refine pt_ic eR_readGood_55 ?_
  refine pt_kv2 eR_readGood_57 (cR_number G sz _ (v := (nuf (fun x => q 0 x % 2 ^ 8) (nuf (fun x => q 0 x % 2 ^ 8) (nuf (fun x => q 0 x % 2 ^ 8) v 0 60) 0 9) 1 9)) hR h_text hV3 ⟨by omega, by omega⟩ ⟨by omega, by omega⟩) hR rfl (Nat.le_of_ble_eq_true rfl) (by decide) (Nat.le_refl _) (Nat.le_refl _) ?_
  rintro v2 sz2 hpn4 ⟨rfl, hz9, hx4⟩
  obtain rfl := hz9.symm
  have hR := pg_s hx4
  have h_text := pg_n hx4 (by decide) h_text
  have h_goods := pg_n hx4 (by decide) h_goods
  have h_first := pg_n hx4 (by decide) h_first
  have h_use := pg_n hx4 (by decide) h_use
  have h_weight := pg_n hx4 (by decide) h_weight
  have h_worth := pg_n hx4 (by decide) h_worth
  refine pt_iast eR_readGood_60 h_worth (by omega) (by omega) (by decide) ?_
  refine pt_gen ?_
  intro hp8 ev8
  have hR := pg_n ev8 (by omega) hR
  have h_text := pg_n ev8 (by omega) h_text
  have h_goods := pg_n ev8 (by omega) h_goods
  have h_first := pg_n ev8 (by omega) h_first
  have h_use := pg_n ev8 (by omega) h_use
  have h_weight := pg_n ev8 (by omega) h_weight
  have h_worth := pg_s ev8
  refine pt_aload eR_readGood_61 rfl ?_
  refine pt_get eR_readGood_62 hR rfl ?_
  refine pt_ic eR_readGood_65 ?_
  refine pt_dup2 eR_readGood_66 ?_
  refine pt_iald eR_readGood_67 h_goods (by omega) (by omega) (by decide) ?_
  refine pt_ic eR_readGood_68 ?_
  refine pt_iadd eR_readGood_69 ?_
  refine pt_iast eR_readGood_70 h_goods (by omega) (by omega) (by decide) ?_
  refine pt_gen ?_
  intro hp9 ev9
  have hR := pg_n ev9 (by omega) hR
  have h_text := pg_n ev9 (by omega) h_text
  have h_goods := pg_s ev9
  have h_first := pg_n ev9 (by omega) h_first
  have h_use := pg_n ev9 (by omega) h_use
  have h_weight := pg_n ev9 (by omega) h_weight
  have h_worth := pg_n ev9 (by omega) h_worth
  refine pt_vret eR_readGood_71 (Nat.le_refl _) (Nat.le_refl _) ?_
  refine ⟨rfl, rfl, ?_, (((((((((fr.rf.up hx1 (by decide) (by decide)).up ev2 (by decide) (by decide)).up hx2 (by decide) (by decide)).up ev4 (by decide) (by decide)).up hx3 (by decide) (by decide)).up ev6 (by decide) (by decide)).up hx4 (by decide) (by decide)).up ev8 (by decide) (by decide)).up ev9 (by decide) (by decide))⟩
  have hm := ((((((((hM.s_v (nuf (fun x => q 0 x % 2 ^ 8) v 0 60)).s_first (uI (q 4) (4 + q 3 1) (v 13))).s_v (nuf (fun x => q 0 x % 2 ^ 8) (nuf (fun x => q 0 x % 2 ^ 8) v 0 60) 0 9)).s_use (uI (q 5) (4 + q 3 1) ((nuf (fun x => q 0 x % 2 ^ 8) v 0 60) 13))).s_v (nuf (fun x => q 0 x % 2 ^ 8) (nuf (fun x => q 0 x % 2 ^ 8) (nuf (fun x => q 0 x % 2 ^ 8) v 0 60) 0 9) 1 9)).s_weight (uI (q 6) (4 + q 3 1) ((nuf (fun x => q 0 x % 2 ^ 8) (nuf (fun x => q 0 x % 2 ^ 8) v 0 60) 0 9) 13))).s_v (vG (fun x => q 0 x % 2 ^ 8) v)).s_worth (uI (q 7) (4 + q 3 1) ((nuf (fun x => q 0 x % 2 ^ 8) (nuf (fun x => q 0 x % 2 ^ 8) (nuf (fun x => q 0 x % 2 ^ 8) v 0 60) 0 9) 1 9) 13))).s_goods (uI (q 3) 1 (q 3 1 + 1))
  rw [ev9, ev8, hx4, ev6, hx3, ev4, hx2, ev2, hx1]
  exact hm
theorem cR_readOf_8 (G : pd_G) (sz : Nat) (hp : pd_P) {q : Nat → Int → Int} {v : Nat → Int} (hM : MW hp q v) (hV : vok (fun x => q 0 x % 2 ^ 8) v) (hg0 : 0 ≤ q 3 1) (hg4 : q 3 1 ≤ 4) : pd_c G mR_readOf 5 [vr 178, vr 186] sz hp (qPost hp sz (iO (fun x => q 0 x % 2 ^ 8) 8 q v)) := by
  refine pd_con kR_readOf [some (vr 178), some (vr 186), none, none, none] rfl rfl (Nat.le_of_ble_eq_true rfl) ?_
  have hR := hM.1
  have h_text := hM.w_text
  have h_goods := hM.w_goods
  have h_brought := hM.w_brought
  have hV1 := (nuf_ok (lo := 0) (hi := 19) hV).1
  have hV2 := (nuf_ok (lo := 0) (hi := q 3 1 - 1) hV1).1
  have hV3 := (nuf_ok (lo := 0) (hi := 30) hV2).1
  have h14 : vO (fun x => q 0 x % 2 ^ 8) (q 3 1) v 14 = 0 ∨ vO (fun x => q 0 x % 2 ^ 8) (q 3 1) v 14 = 1 := hV3.2.2.2.2.2.1
  refine pt_aload eR_readOf_0 rfl ?_
  refine pt_ic eR_readOf_1 ?_
  refine pt_ic eR_readOf_2 ?_
  refine pt_kv2 eR_readOf_4 (cR_number G sz _ (v := v) hR h_text hV ⟨by omega, by omega⟩ ⟨by omega, by omega⟩) hR rfl (Nat.le_of_ble_eq_true rfl) (by decide) (Nat.le_refl _) (Nat.le_refl _) ?_
  rintro v2 sz2 hpn1 ⟨rfl, hz9, hx1⟩
  obtain rfl := hz9.symm
  have hR := pg_s hx1
  have h_text := pg_n hx1 (by decide) h_text
  have h_goods := pg_n hx1 (by decide) h_goods
  have h_brought := pg_n hx1 (by decide) h_brought
  refine pt_istore2 eR_readOf_7 rfl ?_
  refine pt_aload eR_readOf_8 rfl ?_
  refine pt_ic eR_readOf_9 ?_
  refine pt_aload eR_readOf_10 rfl ?_
  refine pt_get eR_readOf_11 hR rfl ?_
  refine pt_ic eR_readOf_14 ?_
  refine pt_iald eR_readOf_15 h_goods (by omega) (by omega) (by decide) ?_
  refine pt_ic eR_readOf_16 ?_
  refine pt_isub eR_readOf_17 ?_
  refine pt_kv2 eR_readOf_18 (cR_number G sz _ (v := (nuf (fun x => q 0 x % 2 ^ 8) v 0 19)) hR h_text hV1 ⟨by omega, by omega⟩ ⟨by omega, by omega⟩) hR rfl (Nat.le_of_ble_eq_true rfl) (by decide) (Nat.le_refl _) (Nat.le_refl _) ?_
  rintro v2 sz2 hpn2 ⟨rfl, hz9, hx2⟩
  obtain rfl := hz9.symm
  have hR := pg_s hx2
  have h_text := pg_n hx2 (by decide) h_text
  have h_goods := pg_n hx2 (by decide) h_goods
  have h_brought := pg_n hx2 (by decide) h_brought
  refine pt_istore3 eR_readOf_21 rfl ?_
  refine pt_aload eR_readOf_22 rfl ?_
  refine pt_ic eR_readOf_23 ?_
  refine pt_ic eR_readOf_24 ?_
  refine pt_kv2 eR_readOf_26 (cR_number G sz _ (v := (nuf (fun x => q 0 x % 2 ^ 8) (nuf (fun x => q 0 x % 2 ^ 8) v 0 19) 0 (q 3 1 - 1))) hR h_text hV2 ⟨by omega, by omega⟩ ⟨by omega, by omega⟩) hR rfl (Nat.le_of_ble_eq_true rfl) (by decide) (Nat.le_refl _) (Nat.le_refl _) ?_
  rintro v2 sz2 hpn3 ⟨rfl, hz9, hx3⟩
  obtain rfl := hz9.symm
  have hR := pg_s hx3
  have h_text := pg_n hx3 (by decide) h_text
  have h_goods := pg_n hx3 (by decide) h_goods
  have h_brought := pg_n hx3 (by decide) h_brought
  refine pt_istore4 eR_readOf_29 rfl ?_
  have hm3 : MW hpn3 q (vO (fun x => q 0 x % 2 ^ 8) (q 3 1) v) := by
    rw [hx3, hx2, hx1]
    exact ((hM.s_v (nuf (fun x => q 0 x % 2 ^ 8) v 0 19)).s_v (nuf (fun x => q 0 x % 2 ^ 8) (nuf (fun x => q 0 x % 2 ^ 8) v 0 19) 0 (q 3 1 - 1))).s_v (vO (fun x => q 0 x % 2 ^ 8) (q 3 1) v)
  have hR : hpn3 178 = RO (vO (fun x => q 0 x % 2 ^ 8) (q 3 1) v) := hR
  refine pt_aload eR_readOf_31 rfl ?_
  refine pt_get eR_readOf_32 hR rfl ?_
  refine pt_zne eR_readOf_35 ⟨by omega, by omega⟩ (fun c35 => ?_) (fun c35 => ?_)
  · refine pt_vret eR_readOf_50 (Nat.le_refl _) (Nat.le_refl _) ?_
    have hfr : fr hp hpn3 178 200 := ((fr.rf.up hx1 (by decide) (by decide)).up hx2 (by decide) (by decide)).up hx3 (by decide) (by decide)
    first
    | (refine ⟨rfl, rfl, ?_, hfr⟩
       rw [show (iO (fun x => q 0 x % 2 ^ 8) 8 q v).1 = q by unfold iO; rw [if_neg c35]]
       exact hm3)
    | (refine ⟨rfl, rfl, ?_, hfr.up ev4 (by decide) (by decide)⟩
       rw [show (iO (fun x => q 0 x % 2 ^ 8) 8 q v).1 = roq q 8 (v 13) (nuf (fun x => q 0 x % 2 ^ 8) v 0 19 13) (nuf (fun x => q 0 x % 2 ^ 8) (nuf (fun x => q 0 x % 2 ^ 8) v 0 19) 0 (q 3 1 - 1) 13) by unfold iO; rw [if_pos c35]]
       rw [ev4]
       exact hm3.s_brought _)
  · have n3 := nuf_0 hV2.2.2.2.2.2.1 (show nuf (fun x => q 0 x % 2 ^ 8) (nuf (fun x => q 0 x % 2 ^ 8) (nuf (fun x => q 0 x % 2 ^ 8) v 0 19) 0 (q 3 1 - 1)) 0 30 14 = 0 from c35)
    have n2 := nuf_0 hV1.2.2.2.2.2.1 n3.1
    have n1 := nuf_0 hV.2.2.2.2.2.1 n2.1
    refine pt_aload eR_readOf_38 rfl ?_
    refine pt_ic eR_readOf_39 ?_
    refine pt_ic eR_readOf_41 ?_
    refine pt_iload eR_readOf_42 rfl ?_
    refine pt_imul eR_readOf_43 ?_
    refine pt_iadd eR_readOf_44 ?_
    refine pt_iload eR_readOf_45 rfl ?_
    refine pt_iadd eR_readOf_46 ?_
    refine pt_iload eR_readOf_47 rfl ?_
    refine pt_iast eR_readOf_49 h_brought (by omega) (by omega) (by decide) ?_
    refine pt_gen ?_
    intro hp4 ev4
    have hR := pg_n ev4 (by omega) hR
    have h_text := pg_n ev4 (by omega) h_text
    have h_goods := pg_n ev4 (by omega) h_goods
    have h_brought := pg_s ev4
    refine pt_vret eR_readOf_50 (Nat.le_refl _) (Nat.le_refl _) ?_
    have hfr : fr hp hpn3 178 200 := ((fr.rf.up hx1 (by decide) (by decide)).up hx2 (by decide) (by decide)).up hx3 (by decide) (by decide)
    first
    | (refine ⟨rfl, rfl, ?_, hfr⟩
       rw [show (iO (fun x => q 0 x % 2 ^ 8) 8 q v).1 = q by unfold iO; rw [if_neg c35]]
       exact hm3)
    | (refine ⟨rfl, rfl, ?_, hfr.up ev4 (by decide) (by decide)⟩
       rw [show (iO (fun x => q 0 x % 2 ^ 8) 8 q v).1 = roq q 8 (v 13) (nuf (fun x => q 0 x % 2 ^ 8) v 0 19 13) (nuf (fun x => q 0 x % 2 ^ 8) (nuf (fun x => q 0 x % 2 ^ 8) v 0 19) 0 (q 3 1 - 1) 13) by unfold iO; rw [if_pos c35]]
       rw [ev4]
       exact hm3.s_brought _)
theorem cR_readOf_9 (G : pd_G) (sz : Nat) (hp : pd_P) {q : Nat → Int → Int} {v : Nat → Int} (hM : MW hp q v) (hV : vok (fun x => q 0 x % 2 ^ 8) v) (hg0 : 0 ≤ q 3 1) (hg4 : q 3 1 ≤ 4) : pd_c G mR_readOf 5 [vr 178, vr 187] sz hp (qPost hp sz (iO (fun x => q 0 x % 2 ^ 8) 9 q v)) := by
  refine pd_con kR_readOf [some (vr 178), some (vr 187), none, none, none] rfl rfl (Nat.le_of_ble_eq_true rfl) ?_
  have hR := hM.1
  have h_text := hM.w_text
  have h_goods := hM.w_goods
  have h_missed := hM.w_missed
  have hV1 := (nuf_ok (lo := 0) (hi := 19) hV).1
  have hV2 := (nuf_ok (lo := 0) (hi := q 3 1 - 1) hV1).1
  have hV3 := (nuf_ok (lo := 0) (hi := 30) hV2).1
  have h14 : vO (fun x => q 0 x % 2 ^ 8) (q 3 1) v 14 = 0 ∨ vO (fun x => q 0 x % 2 ^ 8) (q 3 1) v 14 = 1 := hV3.2.2.2.2.2.1
  refine pt_aload eR_readOf_0 rfl ?_
  refine pt_ic eR_readOf_1 ?_
  refine pt_ic eR_readOf_2 ?_
  refine pt_kv2 eR_readOf_4 (cR_number G sz _ (v := v) hR h_text hV ⟨by omega, by omega⟩ ⟨by omega, by omega⟩) hR rfl (Nat.le_of_ble_eq_true rfl) (by decide) (Nat.le_refl _) (Nat.le_refl _) ?_
  rintro v2 sz2 hpn1 ⟨rfl, hz9, hx1⟩
  obtain rfl := hz9.symm
  have hR := pg_s hx1
  have h_text := pg_n hx1 (by decide) h_text
  have h_goods := pg_n hx1 (by decide) h_goods
  have h_missed := pg_n hx1 (by decide) h_missed
  refine pt_istore2 eR_readOf_7 rfl ?_
  refine pt_aload eR_readOf_8 rfl ?_
  refine pt_ic eR_readOf_9 ?_
  refine pt_aload eR_readOf_10 rfl ?_
  refine pt_get eR_readOf_11 hR rfl ?_
  refine pt_ic eR_readOf_14 ?_
  refine pt_iald eR_readOf_15 h_goods (by omega) (by omega) (by decide) ?_
  refine pt_ic eR_readOf_16 ?_
  refine pt_isub eR_readOf_17 ?_
  refine pt_kv2 eR_readOf_18 (cR_number G sz _ (v := (nuf (fun x => q 0 x % 2 ^ 8) v 0 19)) hR h_text hV1 ⟨by omega, by omega⟩ ⟨by omega, by omega⟩) hR rfl (Nat.le_of_ble_eq_true rfl) (by decide) (Nat.le_refl _) (Nat.le_refl _) ?_
  rintro v2 sz2 hpn2 ⟨rfl, hz9, hx2⟩
  obtain rfl := hz9.symm
  have hR := pg_s hx2
  have h_text := pg_n hx2 (by decide) h_text
  have h_goods := pg_n hx2 (by decide) h_goods
  have h_missed := pg_n hx2 (by decide) h_missed
  refine pt_istore3 eR_readOf_21 rfl ?_
  refine pt_aload eR_readOf_22 rfl ?_
  refine pt_ic eR_readOf_23 ?_
  refine pt_ic eR_readOf_24 ?_
  refine pt_kv2 eR_readOf_26 (cR_number G sz _ (v := (nuf (fun x => q 0 x % 2 ^ 8) (nuf (fun x => q 0 x % 2 ^ 8) v 0 19) 0 (q 3 1 - 1))) hR h_text hV2 ⟨by omega, by omega⟩ ⟨by omega, by omega⟩) hR rfl (Nat.le_of_ble_eq_true rfl) (by decide) (Nat.le_refl _) (Nat.le_refl _) ?_
  rintro v2 sz2 hpn3 ⟨rfl, hz9, hx3⟩
  obtain rfl := hz9.symm
  have hR := pg_s hx3
  have h_text := pg_n hx3 (by decide) h_text
  have h_goods := pg_n hx3 (by decide) h_goods
  have h_missed := pg_n hx3 (by decide) h_missed
  refine pt_istore4 eR_readOf_29 rfl ?_
  have hm3 : MW hpn3 q (vO (fun x => q 0 x % 2 ^ 8) (q 3 1) v) := by
    rw [hx3, hx2, hx1]
    exact ((hM.s_v (nuf (fun x => q 0 x % 2 ^ 8) v 0 19)).s_v (nuf (fun x => q 0 x % 2 ^ 8) (nuf (fun x => q 0 x % 2 ^ 8) v 0 19) 0 (q 3 1 - 1))).s_v (vO (fun x => q 0 x % 2 ^ 8) (q 3 1) v)
  have hR : hpn3 178 = RO (vO (fun x => q 0 x % 2 ^ 8) (q 3 1) v) := hR
  refine pt_aload eR_readOf_31 rfl ?_
  refine pt_get eR_readOf_32 hR rfl ?_
  refine pt_zne eR_readOf_35 ⟨by omega, by omega⟩ (fun c35 => ?_) (fun c35 => ?_)
  · refine pt_vret eR_readOf_50 (Nat.le_refl _) (Nat.le_refl _) ?_
    have hfr : fr hp hpn3 178 200 := ((fr.rf.up hx1 (by decide) (by decide)).up hx2 (by decide) (by decide)).up hx3 (by decide) (by decide)
    first
    | (refine ⟨rfl, rfl, ?_, hfr⟩
       rw [show (iO (fun x => q 0 x % 2 ^ 8) 9 q v).1 = q by unfold iO; rw [if_neg c35]]
       exact hm3)
    | (refine ⟨rfl, rfl, ?_, hfr.up ev4 (by decide) (by decide)⟩
       rw [show (iO (fun x => q 0 x % 2 ^ 8) 9 q v).1 = roq q 9 (v 13) (nuf (fun x => q 0 x % 2 ^ 8) v 0 19 13) (nuf (fun x => q 0 x % 2 ^ 8) (nuf (fun x => q 0 x % 2 ^ 8) v 0 19) 0 (q 3 1 - 1) 13) by unfold iO; rw [if_pos c35]]
       rw [ev4]
       exact hm3.s_missed _)
  · have n3 := nuf_0 hV2.2.2.2.2.2.1 (show nuf (fun x => q 0 x % 2 ^ 8) (nuf (fun x => q 0 x % 2 ^ 8) (nuf (fun x => q 0 x % 2 ^ 8) v 0 19) 0 (q 3 1 - 1)) 0 30 14 = 0 from c35)
    have n2 := nuf_0 hV1.2.2.2.2.2.1 n3.1
    have n1 := nuf_0 hV.2.2.2.2.2.1 n2.1
    refine pt_aload eR_readOf_38 rfl ?_
    refine pt_ic eR_readOf_39 ?_
    refine pt_ic eR_readOf_41 ?_
    refine pt_iload eR_readOf_42 rfl ?_
    refine pt_imul eR_readOf_43 ?_
    refine pt_iadd eR_readOf_44 ?_
    refine pt_iload eR_readOf_45 rfl ?_
    refine pt_iadd eR_readOf_46 ?_
    refine pt_iload eR_readOf_47 rfl ?_
    refine pt_iast eR_readOf_49 h_missed (by omega) (by omega) (by decide) ?_
    refine pt_gen ?_
    intro hp4 ev4
    have hR := pg_n ev4 (by omega) hR
    have h_text := pg_n ev4 (by omega) h_text
    have h_goods := pg_n ev4 (by omega) h_goods
    have h_missed := pg_s ev4
    refine pt_vret eR_readOf_50 (Nat.le_refl _) (Nat.le_refl _) ?_
    have hfr : fr hp hpn3 178 200 := ((fr.rf.up hx1 (by decide) (by decide)).up hx2 (by decide) (by decide)).up hx3 (by decide) (by decide)
    first
    | (refine ⟨rfl, rfl, ?_, hfr⟩
       rw [show (iO (fun x => q 0 x % 2 ^ 8) 9 q v).1 = q by unfold iO; rw [if_neg c35]]
       exact hm3)
    | (refine ⟨rfl, rfl, ?_, hfr.up ev4 (by decide) (by decide)⟩
       rw [show (iO (fun x => q 0 x % 2 ^ 8) 9 q v).1 = roq q 9 (v 13) (nuf (fun x => q 0 x % 2 ^ 8) v 0 19 13) (nuf (fun x => q 0 x % 2 ^ 8) (nuf (fun x => q 0 x % 2 ^ 8) v 0 19) 0 (q 3 1 - 1) 13) by unfold iO; rw [if_pos c35]]
       rw [ev4]
       exact hm3.s_missed _)
theorem cR_item (G : pd_G) (sz : Nat) (hp : pd_P) {q : Nat → Int → Int} {v : Nat → Int} (hM : MW hp q v) (hV : vok (fun x => q 0 x % 2 ^ 8) v) {L : Int} (hg0 : 0 ≤ q 3 1) (hg4 : q 3 1 ≤ 4) (hL : 0 ≤ L ∧ L ≤ 999) (hg : L = 103 → q 3 1 < 4) : pd_c G mR_item 6 [vr 178, vi L] sz hp (qPost hp sz (itq (fun x => q 0 x % 2 ^ 8) q v L)) := by
  refine pd_con kR_item [some (vr 178), some (vi L)] rfl rfl (Nat.le_of_ble_eq_true rfl) ?_
  have hR := hM.1
  have h_text := hM.w_text
  have h_door := hM.w_door
  have hV1 := (nuf_ok (lo := 1) (hi := 9) hV).1
  refine pt_iload eR_item_0 rfl ?_
  rcases (show L = 98 ∨ L = 103 ∨ L = 109 ∨ (L ≠ 98 ∧ L ≠ 103 ∧ L ≠ 109) by omega) with rfl | rfl | rfl | hsw
  · refine pt_lsw (t := 43) (off := 42) eR_item_1 ⟨by decide, by decide⟩ (by decide) rfl (by decide) ?_
    refine pt_aload eR_item_43 rfl ?_
    refine pt_aload eR_item_44 rfl ?_
    refine pt_get eR_item_45 hR rfl ?_
    refine pt_kv1 eR_item_48 (cR_readOf_8 G sz _ hM hV hg0 hg4) hR rfl (Nat.le_of_ble_eq_true rfl) (by decide) (Nat.le_refl _) (Nat.le_refl _) ?_
    rintro v2 sz2 hpx ⟨rfl, hz9, hx9, hf9⟩
    obtain rfl := hz9.symm
    refine pt_goto eR_item_51 ?_
    refine pt_vret eR_item_96 (Nat.le_refl _) (Nat.le_refl _) ?_
    first
    | exact ⟨rfl, rfl, hx9, hf9⟩
    | (refine ⟨rfl, rfl, ?_, (((((fr.rf.up hx1 (by decide) (by decide)).up ev5 (by decide) (by decide)).up hx2 (by decide) (by decide)).up ev7 (by decide) (by decide)).up ev8 (by decide) (by decide))⟩
       rw [show itq (fun x => q 0 x % 2 ^ 8) q v L = iD (fun x => q 0 x % 2 ^ 8) q v by unfold itq; rw [if_neg (by omega), if_neg (by omega), if_neg (by omega)]]
       have hm := ((((hM.s_v (nuf (fun x => q 0 x % 2 ^ 8) v 1 9)).s_door (uI (q 2) 2 (v 13))).s_v (nuf (fun x => q 0 x % 2 ^ 8) (nuf (fun x => q 0 x % 2 ^ 8) v 1 9) 1 9)).s_door (uI (uI (q 2) 2 (v 13)) 3 ((nuf (fun x => q 0 x % 2 ^ 8) v 1 9) 13))).s_v (vD (fun x => q 0 x % 2 ^ 8) v)
       rw [uq_uu] at hm
       rw [ev8, ev7, hx2, ev5, hx1]
       exact hm)
  · refine pt_lsw (t := 36) (off := 35) eR_item_1 ⟨by decide, by decide⟩ (by decide) rfl (by decide) ?_
    refine pt_aload eR_item_36 rfl ?_
    refine pt_kv0 eR_item_37 (cR_readGood G sz _ hM hV hg0 (hg rfl)) hR rfl (Nat.le_of_ble_eq_true rfl) (by decide) (Nat.le_refl _) (Nat.le_refl _) ?_
    rintro v2 sz2 hpx ⟨rfl, hz9, hx9, hf9⟩
    obtain rfl := hz9.symm
    refine pt_goto eR_item_40 ?_
    refine pt_vret eR_item_96 (Nat.le_refl _) (Nat.le_refl _) ?_
    first
    | exact ⟨rfl, rfl, hx9, hf9⟩
    | (refine ⟨rfl, rfl, ?_, (((((fr.rf.up hx1 (by decide) (by decide)).up ev5 (by decide) (by decide)).up hx2 (by decide) (by decide)).up ev7 (by decide) (by decide)).up ev8 (by decide) (by decide))⟩
       rw [show itq (fun x => q 0 x % 2 ^ 8) q v L = iD (fun x => q 0 x % 2 ^ 8) q v by unfold itq; rw [if_neg (by omega), if_neg (by omega), if_neg (by omega)]]
       have hm := ((((hM.s_v (nuf (fun x => q 0 x % 2 ^ 8) v 1 9)).s_door (uI (q 2) 2 (v 13))).s_v (nuf (fun x => q 0 x % 2 ^ 8) (nuf (fun x => q 0 x % 2 ^ 8) v 1 9) 1 9)).s_door (uI (uI (q 2) 2 (v 13)) 3 ((nuf (fun x => q 0 x % 2 ^ 8) v 1 9) 13))).s_v (vD (fun x => q 0 x % 2 ^ 8) v)
       rw [uq_uu] at hm
       rw [ev8, ev7, hx2, ev5, hx1]
       exact hm)
  · refine pt_lsw (t := 54) (off := 53) eR_item_1 ⟨by decide, by decide⟩ (by decide) rfl (by decide) ?_
    refine pt_aload eR_item_54 rfl ?_
    refine pt_aload eR_item_55 rfl ?_
    refine pt_get eR_item_56 hR rfl ?_
    refine pt_kv1 eR_item_59 (cR_readOf_9 G sz _ hM hV hg0 hg4) hR rfl (Nat.le_of_ble_eq_true rfl) (by decide) (Nat.le_refl _) (Nat.le_refl _) ?_
    rintro v2 sz2 hpx ⟨rfl, hz9, hx9, hf9⟩
    obtain rfl := hz9.symm
    refine pt_goto eR_item_62 ?_
    refine pt_vret eR_item_96 (Nat.le_refl _) (Nat.le_refl _) ?_
    first
    | exact ⟨rfl, rfl, hx9, hf9⟩
    | (refine ⟨rfl, rfl, ?_, (((((fr.rf.up hx1 (by decide) (by decide)).up ev5 (by decide) (by decide)).up hx2 (by decide) (by decide)).up ev7 (by decide) (by decide)).up ev8 (by decide) (by decide))⟩
       rw [show itq (fun x => q 0 x % 2 ^ 8) q v L = iD (fun x => q 0 x % 2 ^ 8) q v by unfold itq; rw [if_neg (by omega), if_neg (by omega), if_neg (by omega)]]
       have hm := ((((hM.s_v (nuf (fun x => q 0 x % 2 ^ 8) v 1 9)).s_door (uI (q 2) 2 (v 13))).s_v (nuf (fun x => q 0 x % 2 ^ 8) (nuf (fun x => q 0 x % 2 ^ 8) v 1 9) 1 9)).s_door (uI (uI (q 2) 2 (v 13)) 3 ((nuf (fun x => q 0 x % 2 ^ 8) v 1 9) 13))).s_v (vD (fun x => q 0 x % 2 ^ 8) v)
       rw [uq_uu] at hm
       rw [ev8, ev7, hx2, ev5, hx1]
       exact hm)
  · refine pt_lsw (t := 65) (off := 64) eR_item_1 ⟨by omega, by omega⟩ (by decide) (by rw [Op.lookupswitch.offset_cons, if_neg (by omega), Op.lookupswitch.offset_cons, if_neg (by omega), Op.lookupswitch.offset_cons, if_neg (by omega), Op.lookupswitch.offset_nil]) (by decide) ?_
    refine pt_aload eR_item_65 rfl ?_
    refine pt_get eR_item_66 hR rfl ?_
    refine pt_ic eR_item_69 ?_
    refine pt_aload eR_item_70 rfl ?_
    refine pt_ic eR_item_71 ?_
    refine pt_ic eR_item_72 ?_
    refine pt_kv2 eR_item_74 (cR_number G sz _ (v := v) hR h_text hV ⟨by omega, by omega⟩ ⟨by omega, by omega⟩) hR rfl (Nat.le_of_ble_eq_true rfl) (by decide) (Nat.le_refl _) (Nat.le_refl _) ?_
    rintro v2 sz2 hpn1 ⟨rfl, hz9, hx1⟩
    obtain rfl := hz9.symm
    have hR := pg_s hx1
    have h_text := pg_n hx1 (by decide) h_text
    have h_door := pg_n hx1 (by decide) h_door
    refine pt_iast eR_item_77 h_door (by omega) (by omega) (by decide) ?_
    refine pt_gen ?_
    intro hp5 ev5
    have hR := pg_n ev5 (by omega) hR
    have h_text := pg_n ev5 (by omega) h_text
    have h_door := pg_s ev5
    refine pt_aload eR_item_78 rfl ?_
    refine pt_get eR_item_79 hR rfl ?_
    refine pt_ic eR_item_82 ?_
    refine pt_aload eR_item_83 rfl ?_
    refine pt_ic eR_item_84 ?_
    refine pt_ic eR_item_85 ?_
    refine pt_kv2 eR_item_87 (cR_number G sz _ (v := (nuf (fun x => q 0 x % 2 ^ 8) v 1 9)) hR h_text hV1 ⟨by omega, by omega⟩ ⟨by omega, by omega⟩) hR rfl (Nat.le_of_ble_eq_true rfl) (by decide) (Nat.le_refl _) (Nat.le_refl _) ?_
    rintro v2 sz2 hpn2 ⟨rfl, hz9, hx2⟩
    obtain rfl := hz9.symm
    have hR := pg_s hx2
    have h_text := pg_n hx2 (by decide) h_text
    have h_door := pg_n hx2 (by decide) h_door
    refine pt_iast eR_item_90 h_door (by omega) (by omega) (by decide) ?_
    refine pt_gen ?_
    intro hp7 ev7
    have hR := pg_n ev7 (by omega) hR
    have h_text := pg_n ev7 (by omega) h_text
    have h_door := pg_s ev7
    refine pt_aload eR_item_91 rfl ?_
    refine pt_ic eR_item_92 ?_
    refine pt_put16 eR_item_93 hR (Or.inr rfl) ?_
    refine pt_gen ?_
    intro hp8 ev8
    have hR := pg_s ev8
    have h_text := pg_n ev8 (by omega) h_text
    have h_door := pg_n ev8 (by omega) h_door
    refine pt_vret eR_item_96 (Nat.le_refl _) (Nat.le_refl _) ?_
    first
    | exact ⟨rfl, rfl, hx9, hf9⟩
    | (refine ⟨rfl, rfl, ?_, (((((fr.rf.up hx1 (by decide) (by decide)).up ev5 (by decide) (by decide)).up hx2 (by decide) (by decide)).up ev7 (by decide) (by decide)).up ev8 (by decide) (by decide))⟩
       rw [show itq (fun x => q 0 x % 2 ^ 8) q v L = iD (fun x => q 0 x % 2 ^ 8) q v by unfold itq; rw [if_neg (by omega), if_neg (by omega), if_neg (by omega)]]
       have hm := ((((hM.s_v (nuf (fun x => q 0 x % 2 ^ 8) v 1 9)).s_door (uI (q 2) 2 (v 13))).s_v (nuf (fun x => q 0 x % 2 ^ 8) (nuf (fun x => q 0 x % 2 ^ 8) v 1 9) 1 9)).s_door (uI (uI (q 2) 2 (v 13)) 3 ((nuf (fun x => q 0 x % 2 ^ 8) v 1 9) 13))).s_v (vD (fun x => q 0 x % 2 ^ 8) v)
       rw [uq_uu] at hm
       rw [ev8, ev7, hx2, ev5, hx1]
       exact hm)
