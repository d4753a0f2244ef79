/-! the reference reads: an item, all items -/
theorem duf_k {b : Int → Int} {v : Nat → Int} {c : Int} {k : Nat} (h : k < 10 ∨ 14 < k) : duf b v c k = v k := by
  unfold duf
  split
  · rfl
  · split
    · show tkf4 v _ _ _ _ k = v k
      unfold tkf4
      rw [va_up_ne _ _ (by omega), va_up_ne _ _ (by omega), va_up_ne _ _ (by omega), va_up_ne _ _ (by omega)]
    · rw [va_up_ne _ _ (by omega)]
theorem nuf_k {b : Int → Int} {v : Nat → Int} {lo hi : Int} {k : Nat} (h : k < 10 ∨ 14 < k) : nuf b v lo hi k = v k := duf_k h
theorem SV_13 {b : Int → Int} {n a F : Int} {j : Nat} {v : Nat → Int} (h : SV b n a j F v) (hF : F = -1) : v 13 = tv b n (tk b n a j) := by
  rcases h with ⟨-, -, -, -, -, h5⟩ | ⟨h0, -, -⟩
  · exact h5
  · omega
theorem chF_d {ok : Nat → Int} {m : Nat} (h : chF (-1) ok (m + 1) = -1) : chF (-1) ok m = -1 := (upF_m (show upF (chF (-1) ok m) (m + 1) (ok m) = -1 from h) (chF_m m)).1
theorem SV_01 {b : Int → Int} {n a F : Int} {j : Nat} {v : Nat → Int} (h : SV b n a j F v) : v 14 = 0 ∨ v 14 = 1 := by
  rcases h with ⟨-, h1, -⟩ | ⟨-, h1, -⟩ <;> omega
theorem SV_sh {b : Int → Int} {n a : Int} {j : Nat} {v : Nat → Int} (h : SV b n a j (-1) v) : SV b n (tk b n a j) 0 (-1) v := by
  rcases h with ⟨h0, h1, h2, h3, h4, h5⟩ | ⟨h0, -⟩
  · exact Or.inl ⟨h0, h1, h2, h3, h4, h5⟩
  · omega
def IT (b : Int → Int) (n a : Int) (q : Nat → Int → Int) (v : Nat → Int) (L : Int) : Prop := SV b n a (nuN L + 2) (upF (chF (-1) (okI b n (q 3 1) L a) (nuN L)) (nuN L + 1) (enI b n (tk b n a (nuN L + 1)))) (duf b (itq b q v L).2 (if (itq b q v L).2 12 = 3 then 1 else 0)) ∧ (upF (chF (-1) (okI b n (q 3 1) L a) (nuN L)) (nuN L + 1) (enI b n (tk b n a (nuN L + 1))) = -1 → (itq b q v L).1 = ipq q L (tv b n (tk b n a 1)) (tv b n (tk b n a 2)) (tv b n (tk b n a 3)) (tv b n (tk b n a 4))) ∧ (itq b q v L).2 16 = iph (v 16) L ∧ (itq b q v L).2 15 = v 15 ∧ LV q (itq b q v L).1 ∧ VV v (itq b q v L).2 ∧ (0 ≤ (itq b q v L).1 3 1 ∧ (itq b q v L).1 3 1 ≤ 4)
theorem it_g {b : Int → Int} {n a : Int} {q : Nat → Int → Int} {v : Nat → Int} (h : SV b n a 1 (-1) v) (hn : v 1 = n) (hg0 : 0 ≤ q 3 1) (hg4 : q 3 1 < 4) : IT b n a q v 103 := by
  have s1 : SV b n a 2 (chF (-1) (okI b n (q 3 1) 103 a) 1) (nuf b v 0 60) := SV_nuf h hn
  have s2 : SV b n a 3 (chF (-1) (okI b n (q 3 1) 103 a) 2) (nuf b (nuf b v 0 60) 0 9) := SV_nuf s1 (by rw [nuf_k (by decide)]; exact hn)
  have s3 : SV b n a 4 (chF (-1) (okI b n (q 3 1) 103 a) 3) (nuf b (nuf b (nuf b v 0 60) 0 9) 1 9) := SV_nuf s2 (by rw [nuf_k (by decide), nuf_k (by decide)]; exact hn)
  have s4 : SV b n a 5 (chF (-1) (okI b n (q 3 1) 103 a) 4) (vG b v) := SV_nuf s3 (by rw [nuf_k (by decide), nuf_k (by decide), nuf_k (by decide)]; exact hn)
  have hk : ∀ k : Nat, k < 10 ∨ 14 < k → vG b v k = v k := fun k hk => by unfold vG; rw [nuf_k hk, nuf_k hk, nuf_k hk, nuf_k hk]
  have s5 := SV_st s4 ((hk 1 (by decide)).trans hn)
  refine ⟨s5, fun hF => ?_, hk 16 (by decide), hk 15 (by decide), rgq_LV hg0, ((VV.rf.nu).nu).nu.nu, ?_, ?_⟩
  · have f4 := (upF_m hF (chF_m _)).1
    have f3 := chF_d (m := 3) f4
    have f2 := chF_d (m := 2) f3
    have f1 := chF_d (m := 1) f2
    show rgq q _ _ _ _ = rgq q _ _ _ _
    rw [SV_13 h rfl, SV_13 s1 f1, SV_13 s2 f2, SV_13 s3 f3]
  · show 0 ≤ uI (q 3) 1 (q 3 1 + 1) 1; rw [uI_s]; omega
  · show uI (q 3) 1 (q 3 1 + 1) 1 ≤ 4; rw [uI_s]; omega
theorem it_d {b : Int → Int} {n a : Int} {q : Nat → Int → Int} {v : Nat → Int} (h : SV b n a 1 (-1) v) (hn : v 1 = n) (hg0 : 0 ≤ q 3 1) (hg4 : q 3 1 ≤ 4) : IT b n a q v 100 := by
  have s1 : SV b n a 2 (chF (-1) (okI b n (q 3 1) 100 a) 1) (nuf b v 1 9) := SV_nuf h hn
  have s2 : SV b n a 3 (chF (-1) (okI b n (q 3 1) 100 a) 2) (nuf b (nuf b v 1 9) 1 9) := SV_nuf s1 (by rw [nuf_k (by decide)]; exact hn)
  have s2' : SV b n a 3 (chF (-1) (okI b n (q 3 1) 100 a) 2) (vD b v) := s2
  have hk : ∀ k : Nat, k < 10 ∨ k = 15 → vD b v k = v k := fun k hk => by unfold vD; rw [va_up_ne _ _ (by omega), nuf_k (by omega), nuf_k (by omega)]
  have s5 := SV_st s2' ((hk 1 (by decide)).trans hn)
  refine ⟨s5, fun hF => ?_, rfl, hk 15 (by decide), rdq_LV, ((VV.rf.nu).nu).up _ (by decide), hg0, hg4⟩
  have f2 := (upF_m hF (chF_m _)).1
  have f1 := chF_d (m := 1) f2
  show rdq q _ _ = rdq q _ _
  rw [SV_13 h rfl, SV_13 s1 f1]
theorem it_8 {b : Int → Int} {n a : Int} {q : Nat → Int → Int} {v : Nat → Int} (h : SV b n a 1 (-1) v) (hn : v 1 = n) (hg0 : 0 ≤ q 3 1) (hg4 : q 3 1 ≤ 4) : IT b n a q v 98 := by
  have s1 : SV b n a 2 (chF (-1) (okI b n (q 3 1) 98 a) 1) (nuf b v 0 19) := SV_nuf h hn
  have s2 : SV b n a 3 (chF (-1) (okI b n (q 3 1) 98 a) 2) (nuf b (nuf b v 0 19) 0 (q 3 1 - 1)) := SV_nuf s1 (by rw [nuf_k (by decide)]; exact hn)
  have s3 : SV b n a 4 (chF (-1) (okI b n (q 3 1) 98 a) 3) (vO b (q 3 1) v) := SV_nuf s2 (by rw [nuf_k (by decide), nuf_k (by decide)]; exact hn)
  have hk : ∀ k : Nat, k < 10 ∨ 14 < k → vO b (q 3 1) v k = v k := fun k hk => by unfold vO; rw [nuf_k hk, nuf_k hk, nuf_k hk]
  have s5 := SV_st s3 ((hk 1 (by decide)).trans hn)
  refine ⟨s5, fun hF => ?_, hk 16 (by decide), hk 15 (by decide), ?_, (VV.rf.nu).nu.nu, ?_⟩
  · have f3 := (upF_m hF (chF_m _)).1
    have f2 := chF_d (m := 2) f3
    have f1 := chF_d (m := 1) f2
    show (if vO b (q 3 1) v 14 = 0 then _ else _) = roq q 8 _ _ _
    rw [if_pos ((SV_14 s3).1.mpr f3), SV_13 h rfl, SV_13 s1 f1, SV_13 s2 f2]
  · show LV q (if vO b (q 3 1) v 14 = 0 then _ else _)
    split
    · rename_i h0
      have n3 := nuf_0 (SV_01 s2) (show nuf b (nuf b (nuf b v 0 19) 0 (q 3 1 - 1)) 0 30 14 = 0 from h0)
      have n2 := nuf_0 (SV_01 s1) n3.1
      have n1 := nuf_0 (SV_01 h) n2.1
      exact roq_LV8 n1.2.2.1 n2.2.2.1
    · exact LV.rf
  · show 0 ≤ (if vO b (q 3 1) v 14 = 0 then _ else _ : Nat → Int → Int) 3 1 ∧ (if vO b (q 3 1) v 14 = 0 then _ else _ : Nat → Int → Int) 3 1 ≤ 4
    split
    · exact ⟨hg0, hg4⟩
    · exact ⟨hg0, hg4⟩
theorem it_9 {b : Int → Int} {n a : Int} {q : Nat → Int → Int} {v : Nat → Int} (h : SV b n a 1 (-1) v) (hn : v 1 = n) (hg0 : 0 ≤ q 3 1) (hg4 : q 3 1 ≤ 4) : IT b n a q v 109 := by
  have s1 : SV b n a 2 (chF (-1) (okI b n (q 3 1) 109 a) 1) (nuf b v 0 19) := SV_nuf h hn
  have s2 : SV b n a 3 (chF (-1) (okI b n (q 3 1) 109 a) 2) (nuf b (nuf b v 0 19) 0 (q 3 1 - 1)) := SV_nuf s1 (by rw [nuf_k (by decide)]; exact hn)
  have s3 : SV b n a 4 (chF (-1) (okI b n (q 3 1) 109 a) 3) (vO b (q 3 1) v) := SV_nuf s2 (by rw [nuf_k (by decide), nuf_k (by decide)]; exact hn)
  have hk : ∀ k : Nat, k < 10 ∨ 14 < k → vO b (q 3 1) v k = v k := fun k hk => by unfold vO; rw [nuf_k hk, nuf_k hk, nuf_k hk]
  have s5 := SV_st s3 ((hk 1 (by decide)).trans hn)
  refine ⟨s5, fun hF => ?_, hk 16 (by decide), hk 15 (by decide), ?_, (VV.rf.nu).nu.nu, ?_⟩
  · have f3 := (upF_m hF (chF_m _)).1
    have f2 := chF_d (m := 2) f3
    have f1 := chF_d (m := 1) f2
    show (if vO b (q 3 1) v 14 = 0 then _ else _) = roq q 9 _ _ _
    rw [if_pos ((SV_14 s3).1.mpr f3), SV_13 h rfl, SV_13 s1 f1, SV_13 s2 f2]
  · show LV q (if vO b (q 3 1) v 14 = 0 then _ else _)
    split
    · rename_i h0
      have n3 := nuf_0 (SV_01 s2) (show nuf b (nuf b (nuf b v 0 19) 0 (q 3 1 - 1)) 0 30 14 = 0 from h0)
      have n2 := nuf_0 (SV_01 s1) n3.1
      have n1 := nuf_0 (SV_01 h) n2.1
      exact roq_LV9 n1.2.2.1 n2.2.2.1
    · exact LV.rf
  · show 0 ≤ (if vO b (q 3 1) v 14 = 0 then _ else _ : Nat → Int → Int) 3 1 ∧ (if vO b (q 3 1) v 14 = 0 then _ else _ : Nat → Int → Int) 3 1 ≤ 4
    split
    · exact ⟨hg0, hg4⟩
    · exact ⟨hg0, hg4⟩
def RES (r : Int × (Nat → Int → Int)) (q : Nat → Int → Int) (v : Nat → Int) : Prop := (r.1 < 0 ∧ v 14 = 1 ∧ v 11 = -10 - r.1) ∨ (0 ≤ r.1 ∧ v 14 = 0 ∧ v 15 = r.1 ∧ q = r.2)
theorem itq_ok {b : Int → Int} {q : Nat → Int → Int} {v : Nat → Int} {L : Int} (h : vok b v) : vok b (itq b q v L).2 := by
  unfold itq
  split
  · exact (nuf_ok (nuf_ok (nuf_ok (nuf_ok h).1).1).1).1
  · split
    · exact (nuf_ok (nuf_ok (nuf_ok h).1).1).1
    · split
      · exact (nuf_ok (nuf_ok (nuf_ok h).1).1).1
      · have h2 := (nuf_ok (lo := 1) (hi := 9) (nuf_ok (lo := 1) (hi := 9) h).1).1
        exact ⟨h2.1, h2.2.1, h2.2.2.1, h2.2.2.2.1, h2.2.2.2.2.1, h2.2.2.2.2.2.1, Or.inr rfl⟩
theorem lR_rx (G : pd_G) (sz : Nat) (hp : pd_P) {v : Nat → Int} {l1 : Option pv} {R : pd_R} (hR : hp 178 = RO v) (h12 : 1 ≤ v 12 ∧ v 12 ≤ 5) (h14 : v 14 = 1) (hx : pd_t G mR_read 7 R 174 [some (vr 178), l1] [] sz hp) : pd_t G mR_read 7 R 75 [some (vr 178), l1] [] sz hp := by
  refine pt_aload eR_read_75 rfl ?_
  refine pt_get eR_read_76 hR rfl ?_
  refine pt_ic eR_read_79 ?_
  refine pt_ceq eR_read_80 ⟨by omega, by omega⟩ ⟨by omega, by omega⟩ (fun c80 => ?_) (fun c80 => ?_)
  · exact hx
  · refine pt_aload eR_read_83 rfl ?_
    refine pt_get eR_read_84 hR rfl ?_
    refine pt_zne eR_read_87 ⟨by omega, by omega⟩ (fun c87 => ?_) (fun c87 => ?_)
    · exact hx
    · exfalso; omega
theorem lR_rd (G : pd_G) (sz : Nat) (hp : pd_P) {q0 : Nat → Int → Int} {v0 : Nat → Int} {tx : Int → Int} {n : Int} {r0 : Int × (Nat → Int → Int)} {R : pd_R} (hX : okX (fun x => tx x % 2 ^ 8) n) (hx : ∀ (q : Nat → Int → Int) (v : Nat → Int) (l1 : Option pv) (hp0 : pd_P), MW hp0 q v → LV q0 q → VV v0 v → fr hp hp0 178 200 → RES r0 q v → vok (fun x => tx x % 2 ^ 8) v → pd_t G mR_read 7 R 174 [some (vr 178), l1] [] sz hp0) : ∀ (f : Nat) (a : Int) (q : Nat → Int → Int) (v : Nat → Int) (l1 : Option pv) (hp0 : pd_P), 0 ≤ a → a ≤ n → n - a < f → MW hp0 q v → q 0 = tx → vok (fun x => tx x % 2 ^ 8) v → v 1 = n → SV (fun x => tx x % 2 ^ 8) n a 0 (-1) v → 0 ≤ q 3 1 → q 3 1 ≤ 4 → LV q0 q → VV v0 v → fr hp hp0 178 200 → 0 ≤ v 15 → rdf (fun x => tx x % 2 ^ 8) n f q (v 16) a (v 15) = r0 → pd_t G mR_read 7 R 75 [some (vr 178), l1] [] sz hp0 := by
  intro f
  induction f with
  | zero => intro a q v l1 hp0 ha0 ha1 haf; omega
  | succ f ih =>
    intro a q v l1 hp0 ha0 ha1 haf hM hq0 hV hn hS hg0 hg4 hLV hVV hfr h15 hrd
    have hR := hM.1
    have h_goods := hM.w_goods
    have h_text : hp0 179 = ba 150 tx := by rw [← hq0]; exact hM.w_text
    rw [rdf] at hrd
    obtain ⟨-, s14, s10, s11, s12, s13⟩ | ⟨s0, -⟩ := hS
    rotate_left
    · omega
    have hS : SV (fun x => tx x % 2 ^ 8) n a 0 (-1) v := Or.inl ⟨rfl, s14, s10, s11, s12, s13⟩
    have s12' : v 12 = ts (fun x => tx x % 2 ^ 8) n a := s12
    have s13' : v 13 = tv (fun x => tx x % 2 ^ 8) n a := s13
    have hvr := te_r hX ha0 ha1
    have fail : ∀ l9 : Option pv, beI (fun x => tx x % 2 ^ 8) n (q 3 1) (v 16) a ≠ 1 → ¬ ts (fun x => tx x % 2 ^ 8) n a = 4 → pd_t G mR_read 7 R 128 [some (vr 178), l9] [vr 178] sz hp0 := by
      intro l9 hbe h4
      refine pt_ic eR_read_128 ?_
      refine pt_kv1 eR_read_129 (cR_due G sz _ (v := v) hR h_text hV (Or.inl rfl)) hR rfl (Nat.le_of_ble_eq_true rfl) (by decide) (Nat.le_refl _) (Nat.le_refl _) ?_
      rintro v2 sz2 hpx ⟨rfl, hz9, hx9⟩
      obtain rfl := hz9.symm
      have hM1 : MW hpx q (duf (fun x => tx x % 2 ^ 8) v 0) := by rw [hx9]; exact hM.s_v _
      have hR := hM1.1
      have hfr1 : fr hp hpx 178 200 := hfr.up hx9 (by decide) (by decide)
      have hw14 : duf (fun x => tx x % 2 ^ 8) v 0 14 = 1 := by unfold duf; rw [if_neg (by omega), if_neg (by decide)]; rfl
      refine pt_aload eR_read_132 rfl ?_
      refine pt_get eR_read_133 hR rfl ?_
      refine pt_zne eR_read_136 ⟨by omega, by omega⟩ (fun c136 => ?_) (fun c136 => ?_)
      · refine pt_goto eR_read_171 ?_
        have hV1 := (duf_ok (c := 0) hV).1
        refine lR_rx G sz hpx (v := duf (fun x => tx x % 2 ^ 8) v 0) hR hV1.2.2.2.1 hw14 (hx q _ l9 hpx hM1 hLV hVV.du hfr1 ?_ hV1)
        rw [if_neg h4, ifl_0 hbe, if_pos (Int.le_refl 0)] at hrd
        rw [← hrd]
        have htp := te_r hV.1 (show 0 ≤ a by omega) (show a ≤ v 1 by omega)
        rw [hn] at htp
        refine Or.inl ⟨?_, hw14, ?_⟩
        · show -10 - tkp (fun x => tx x % 2 ^ 8) n a < 0; omega
        · show duf (fun x => tx x % 2 ^ 8) v 0 11 = -10 - (-10 - tkp (fun x => tx x % 2 ^ 8) n a)
          rw [show duf (fun x => tx x % 2 ^ 8) v 0 11 = v 11 by unfold duf; rw [if_neg (by omega), if_neg (by decide)]; rfl]
          have s11' : v 11 = tkp (fun x => tx x % 2 ^ 8) n a := s11
          omega
      · exfalso; omega
    have fin : beI (fun x => tx x % 2 ^ 8) n (q 3 1) (v 16) a = 1 → ¬ ts (fun x => tx x % 2 ^ 8) n a = 4 → ∀ (c : Int) (l9 : Option pv) (hp7 : pd_P) (r1 : Nat → Int → Int) (r2 : Nat → Int), MW hp7 r1 r2 → r1 0 = tx → vok (fun x => tx x % 2 ^ 8) r2 → fr hp hp7 178 200 → SV (fun x => tx x % 2 ^ 8) n a (nuN (v 13) + 2) (upF (chF (-1) (okI (fun x => tx x % 2 ^ 8) n (q 3 1) (v 13) a) (nuN (v 13))) (nuN (v 13) + 1) (enI (fun x => tx x % 2 ^ 8) n (tk (fun x => tx x % 2 ^ 8) n a (nuN (v 13) + 1)))) (duf (fun x => tx x % 2 ^ 8) r2 (if r2 12 = 3 then 1 else 0)) → (upF (chF (-1) (okI (fun x => tx x % 2 ^ 8) n (q 3 1) (v 13) a) (nuN (v 13))) (nuN (v 13) + 1) (enI (fun x => tx x % 2 ^ 8) n (tk (fun x => tx x % 2 ^ 8) n a (nuN (v 13) + 1))) = -1 → r1 = ipq q (v 13) (tv (fun x => tx x % 2 ^ 8) n (tk (fun x => tx x % 2 ^ 8) n a 1)) (tv (fun x => tx x % 2 ^ 8) n (tk (fun x => tx x % 2 ^ 8) n a 2)) (tv (fun x => tx x % 2 ^ 8) n (tk (fun x => tx x % 2 ^ 8) n a 3)) (tv (fun x => tx x % 2 ^ 8) n (tk (fun x => tx x % 2 ^ 8) n a 4))) → r2 16 = iph (v 16) (v 13) → r2 15 = v 15 → LV q r1 → VV (duf (fun x => tx x % 2 ^ 8) v 1) r2 → (0 ≤ r1 3 1 ∧ r1 3 1 ≤ 4) → c = (if r2 12 = 3 then 1 else 0) → pd_t G mR_read 7 R 158 [some (vr 178), l9] [vi c, vr 178] sz hp7 := by
      intro hbe h4 c l9 hp7 r1 r2 hM2 hr0 hV2 hfr2 t1 t2 t3 t4 t5 t6 t7 hc
      have hR := hM2.1
      have h_text : hp7 179 = ba 150 tx := by rw [← hr0]; exact hM2.w_text
      refine pt_kv1 eR_read_158 (cR_due G sz _ (v := r2) hR h_text hV2 (by rw [hc]; split <;> omega)) hR rfl (Nat.le_of_ble_eq_true rfl) (by decide) (Nat.le_refl _) (Nat.le_refl _) ?_
      rintro v2 sz2 hpz ⟨rfl, hz9, hx9⟩
      obtain rfl := hz9.symm
      rw [hc] at hx9
      obtain ⟨w, hw⟩ : ∃ w, w = duf (fun x => tx x % 2 ^ 8) r2 (if r2 12 = 3 then 1 else 0) := ⟨_, rfl⟩
      rw [← hw] at hx9 t1
      have hM3 : MW hpz r1 w := by rw [hx9]; exact hM2.s_v _
      have hR := hM3.1
      have hw15 : w 15 = v 15 := by rw [hw, duf_k (by decide)]; exact t4
      have hw16 : w 16 = iph (v 16) (v 13) := by rw [hw, duf_k (by decide)]; exact t3
      have hw1 : w 1 = n := by rw [hw, duf_k (by decide)]; exact (t6 1 (by decide)).trans ((duf_k (by decide)).trans hn)
      have hV3 : vok (fun x => tx x % 2 ^ 8) w := by rw [hw]; exact (duf_ok hV2).1
      have hVV3 : VV v0 w := by rw [hw]; exact (hVV.du.tr t6).du
      refine pt_aload eR_read_161 rfl ?_
      refine pt_dupr eR_read_162 ?_
      refine pt_get eR_read_163 hR rfl ?_
      refine pt_ic eR_read_166 ?_
      refine pt_iadd eR_read_167 ?_
      refine pt_put15 eR_read_168 hR trivial ?_
      refine pt_gen ?_
      intro hp22 ev22
      have hR := pg_s ev22
      refine pt_goto eR_read_171 ?_
      obtain ⟨u, hu⟩ : ∃ u, u = va_up w 15 (w 15 + 1) := ⟨_, rfl⟩
      have hM4 : MW hp22 r1 u := by rw [ev22, hu]; exact hM3.s_v (va_up w 15 (w 15 + 1))
      have hV4 : vok (fun x => tx x % 2 ^ 8) u := by rw [hu]; exact hV3
      have hS4 : SV (fun x => tx x % 2 ^ 8) n a (nuN (v 13) + 2) (ifl (fun x => tx x % 2 ^ 8) n (q 3 1) (v 16) a) u := by rw [hu, ifl_1 hbe, ← s13']; exact t1
      have hfr4 : fr hp hp22 178 200 := (hfr2.up hx9 (by decide) (by decide)).up ev22 (by decide) (by decide)
      have hVV4 : VV v0 u := by rw [hu]; exact hVV3.up _ (by decide)
      rw [if_neg h4] at hrd
      rcases (SV_14 hS4).2.2 with hF | hF
      · rw [if_neg (by omega)] at hrd
        have hlt : a < tk (fun x => tx x % 2 ^ 8) n a (nuN (v 13) + 2) := tk_lt hX ha0 ha1 h4 (nuN (v 13) + 1)
        have hle := tk_r hX ha0 ha1 (nuN (v 13) + 2)
        have hq2 : r1 = ipa (fun x => tx x % 2 ^ 8) n q a := by
          rw [t2 (by rw [s13', ← ifl_1 hbe]; exact hF)]
          unfold ipa
          rw [s13']
        refine ih (tk (fun x => tx x % 2 ^ 8) n a (nuN (v 13) + 2)) r1 u l9 hp22 (by omega) hle.2 (by omega) hM4 ?_ hV4 (by rw [hu]; exact hw1) ?_ t7.1 t7.2 (hLV.tr t5) hVV4 hfr4 ?_ ?_
        · rw [t5.1 0 (by decide)]; exact hq0
        · rw [hF] at hS4
          exact SV_sh hS4
        · rw [hu]; show w 15 + 1 ≥ 0; omega
        · rw [← hrd, hq2, hu]
          show rdf (fun x => tx x % 2 ^ 8) n f (ipa (fun x => tx x % 2 ^ 8) n q a) (w 16) (tk (fun x => tx x % 2 ^ 8) n a (nuN (v 13) + 2)) (w 15 + 1) = _
          rw [hw15, hw16, s13']
      · rw [if_pos hF] at hrd
        have h14 := (SV_14 hS4).2.1.mpr hF
        refine lR_rx G sz hp22 (v := u) (by rw [← hM4.1]) hV4.2.2.2.1 h14 (hx r1 u l9 hp22 hM4 (hLV.tr t5) hVV4 hfr4 ?_ hV4)
        rw [← hrd]
        have hle := tk_r hX ha0 ha1 (ifl (fun x => tx x % 2 ^ 8) n (q 3 1) (v 16) a).toNat
        have htp := te_r hX (show 0 ≤ tk (fun x => tx x % 2 ^ 8) n a (ifl (fun x => tx x % 2 ^ 8) n (q 3 1) (v 16) a).toNat by omega) hle.2
        have h11 : u 11 = tkp (fun x => tx x % 2 ^ 8) n (tk (fun x => tx x % 2 ^ 8) n a (ifl (fun x => tx x % 2 ^ 8) n (q 3 1) (v 16) a).toNat) := by
          rcases hS4 with ⟨z1, -⟩ | ⟨-, -, z2⟩
          · omega
          · exact z2
        refine Or.inl ⟨?_, h14, ?_⟩
        · show -10 - tkp (fun x => tx x % 2 ^ 8) n _ < 0; omega
        · show u 11 = -10 - (-10 - tkp (fun x => tx x % 2 ^ 8) n _); omega
    have okp : beI (fun x => tx x % 2 ^ 8) n (q 3 1) (v 16) a = 1 → ¬ ts (fun x => tx x % 2 ^ 8) n a = 4 → pd_t G mR_read 7 R 124 [some (vr 178), some (vi (v 13))] [vr 178] sz hp0 := by
      intro hbe h4
      have hL4 := (beI_1 hbe).2
      have hg9 : v 13 = 103 → q 3 1 < 4 := fun hz => by rw [s13'] at hz; omega
      obtain ⟨l9, hl9⟩ : ∃ l9 : Option pv, l9 = some (vi (v 13)) := ⟨_, rfl⟩
      refine pt_ic eR_read_124 ?_
      refine pt_goto eR_read_125 ?_
      refine pt_kv1 eR_read_129 (cR_due G sz _ (v := v) hR h_text hV (Or.inr rfl)) hR rfl (Nat.le_of_ble_eq_true rfl) (by decide) (Nat.le_refl _) (Nat.le_refl _) ?_
      rintro v2 sz2 hpx ⟨rfl, hz9, hx9⟩
      obtain rfl := hz9.symm
      have hM1 : MW hpx q (duf (fun x => tx x % 2 ^ 8) v 1) := by rw [hx9]; exact hM.s_v _
      have hR := hM1.1
      have hfr1 : fr hp hpx 178 200 := hfr.up hx9 (by decide) (by decide)
      have hV1 := (duf_ok (c := 1) hV).1
      have hS1 := SV_duf (c := beI (fun x => tx x % 2 ^ 8) n (q 3 1) (v 16) a) (c2 := 1) hS hn (fun _ => ⟨fun _ => hbe, fun _ => rfl⟩)
      rw [upF_1 hbe] at hS1
      have hw14 : duf (fun x => tx x % 2 ^ 8) v 1 14 = 0 := (SV_14 hS1).1.mpr rfl
      have hIT : IT (fun x => tx x % 2 ^ 8) n a q (duf (fun x => tx x % 2 ^ 8) v 1) (v 13) := by
        rw [s13']
        rcases hL4 with ⟨hl, hgg⟩ | hl | hl | ⟨hl, -⟩
        · rw [hl]; exact it_g hS1 (by rw [duf_k (by decide)]; exact hn) hg0 hgg
        · rw [hl]; exact it_8 hS1 (by rw [duf_k (by decide)]; exact hn) hg0 hg4
        · rw [hl]; exact it_9 hS1 (by rw [duf_k (by decide)]; exact hn) hg0 hg4
        · rw [hl]; exact it_d hS1 (by rw [duf_k (by decide)]; exact hn) hg0 hg4
      refine pt_aload eR_read_132 rfl ?_
      refine pt_get eR_read_133 hR rfl ?_
      refine pt_zne eR_read_136 ⟨by omega, by omega⟩ (fun c136 => ?_) (fun c136 => ?_)
      · exfalso; omega
      · refine pt_aload eR_read_139 rfl ?_
        refine pt_iload eR_read_140 rfl ?_
        refine pt_kv1 eR_read_141 (cR_item G sz _ hM1 (by rw [hq0]; exact hV1) hg0 hg4 (by omega) hg9) hR rfl (Nat.le_of_ble_eq_true rfl) (by decide) (Nat.le_refl _) (Nat.le_refl _) ?_
        rintro v2 sz2 hpy ⟨rfl, hz9, hM2, hf2⟩
        obtain rfl := hz9.symm
        rw [hq0] at hM2
        have hV2 := itq_ok (q := q) (L := v 13) hV1
        have h12 := hV2.2.2.2.1
        have hR := hM2.1
        have h_text := hM2.w_text
        have hfr2 := hfr1.tr hf2 (by decide) (by decide)
        obtain ⟨t1, t2, t3, t4, t5, t6, t7⟩ := hIT
        refine pt_aload eR_read_144 rfl ?_
        refine pt_aload eR_read_145 rfl ?_
        refine pt_get eR_read_146 hR rfl ?_
        refine pt_ic eR_read_149 ?_
        refine pt_cne eR_read_150 ⟨by omega, by omega⟩ ⟨by omega, by omega⟩ (fun c150 => ?_) (fun c150 => ?_)
        · refine pt_ic eR_read_157 ?_
          first
          | exact fin hbe h4 _ _ _ _ _ hM2 (by rw [t5.1 0 (by decide)]; exact hq0) hV2 hfr2 t1 t2 (by rw [t3, duf_k (by decide)]) (by rw [t4, duf_k (by decide)]) t5 t6 t7 (by rw [if_pos c150])
          | exact fin hbe h4 _ _ _ _ _ hM2 (by rw [t5.1 0 (by decide)]; exact hq0) hV2 hfr2 t1 t2 (by rw [t3, duf_k (by decide)]) (by rw [t4, duf_k (by decide)]) t5 t6 t7 (by rw [if_neg c150])
        · refine pt_ic eR_read_153 ?_
          refine pt_goto eR_read_154 ?_
          first
          | exact fin hbe h4 _ _ _ _ _ hM2 (by rw [t5.1 0 (by decide)]; exact hq0) hV2 hfr2 t1 t2 (by rw [t3, duf_k (by decide)]) (by rw [t4, duf_k (by decide)]) t5 t6 t7 (by rw [if_pos c150])
          | exact fin hbe h4 _ _ _ _ _ hM2 (by rw [t5.1 0 (by decide)]; exact hq0) hV2 hfr2 t1 t2 (by rw [t3, duf_k (by decide)]) (by rw [t4, duf_k (by decide)]) t5 t6 t7 (by rw [if_neg c150])
    refine pt_aload eR_read_75 rfl ?_
    refine pt_get eR_read_76 hR rfl ?_
    refine pt_ic eR_read_79 ?_
    refine pt_ceq eR_read_80 ⟨by omega, by omega⟩ ⟨by omega, by omega⟩ (fun c80 => ?_) (fun c80 => ?_)
    · first
      | (exfalso; omega)
      | (rw [if_pos (show ts (fun x => tx x % 2 ^ 8) n a = 4 by omega)] at hrd
         exact hx q v l1 hp0 hM hLV hVV hfr (by rw [← hrd]; exact Or.inr ⟨h15, s14, rfl, rfl⟩) hV)
    · refine pt_aload eR_read_83 rfl ?_
      refine pt_get eR_read_84 hR rfl ?_
      refine pt_zne eR_read_87 ⟨by omega, by omega⟩ (fun c87 => ?_) (fun c87 => ?_)
      · first
        | (exfalso; omega)
        | (rw [if_pos (show ts (fun x => tx x % 2 ^ 8) n a = 4 by omega)] at hrd
           exact hx q v l1 hp0 hM hLV hVV hfr (by rw [← hrd]; exact Or.inr ⟨h15, s14, rfl, rfl⟩) hV)
      · refine pt_aload eR_read_90 rfl ?_
        refine pt_get eR_read_91 hR rfl ?_
        refine pt_ic eR_read_94 ?_
        refine pt_cne eR_read_95 ⟨by omega, by omega⟩ ⟨by omega, by omega⟩ (fun c95 => ?_) (fun c95 => ?_)
        · refine pt_ic eR_read_105 ?_
          refine pt_istore1 eR_read_106 rfl ?_
          refine pt_aload eR_read_107 rfl ?_
          refine pt_aload eR_read_108 rfl ?_
          refine pt_get eR_read_109 hR rfl ?_
          refine pt_ic eR_read_112 ?_
          refine pt_cne eR_read_113 ⟨by omega, by omega⟩ ⟨by omega, by omega⟩ (fun c113 => ?_) (fun c113 => ?_)
          · first
            | (exfalso; omega)
            | exact fail _ (by unfold beI; rw [if_neg (by omega)]; decide) (by omega)
            | exact fail _ (by unfold beI; rw [if_pos (by omega), ← s13', c121]; decide) (by omega)
          · refine pt_aload eR_read_116 rfl ?_
            refine pt_iload eR_read_117 rfl ?_
            refine pt_kv1r eR_read_118 (cR_may G sz _ hR h_goods hg0 hg4 (by omega) (by omega) hV.2.2.2.2.2.2) hR rfl (Nat.le_of_ble_eq_true rfl) (by decide) (Nat.le_refl _) (Nat.le_refl _) ?_
            refine pt_zeq eR_read_121 ⟨by have := mayf_01 (q 3 1) (v 16) (v 13); omega, by have := mayf_01 (q 3 1) (v 16) (v 13); omega⟩ (fun c121 => ?_) (fun c121 => ?_)
            · first
              | (exfalso; omega)
              | exact fail _ (by unfold beI; rw [if_neg (by omega)]; decide) (by omega)
              | exact fail _ (by unfold beI; rw [if_pos (by omega), ← s13', c121]; decide) (by omega)
            · first
              | (exfalso; omega)
              | (have hbe : beI (fun x => tx x % 2 ^ 8) n (q 3 1) (v 16) a = 1 := by
                   have := mayf_01 (q 3 1) (v 16) (v 13)
                   unfold beI; rw [if_pos (by omega), ← s13']; omega
                 exact okp hbe (by omega))
        · refine pt_aload eR_read_98 rfl ?_
          refine pt_get eR_read_99 hR rfl ?_
          refine pt_goto eR_read_102 ?_
          refine pt_istore1 eR_read_106 rfl ?_
          refine pt_aload eR_read_107 rfl ?_
          refine pt_aload eR_read_108 rfl ?_
          refine pt_get eR_read_109 hR rfl ?_
          refine pt_ic eR_read_112 ?_
          refine pt_cne eR_read_113 ⟨by omega, by omega⟩ ⟨by omega, by omega⟩ (fun c113 => ?_) (fun c113 => ?_)
          · first
            | (exfalso; omega)
            | exact fail _ (by unfold beI; rw [if_neg (by omega)]; decide) (by omega)
            | exact fail _ (by unfold beI; rw [if_pos (by omega), ← s13', c121]; decide) (by omega)
          · refine pt_aload eR_read_116 rfl ?_
            refine pt_iload eR_read_117 rfl ?_
            refine pt_kv1r eR_read_118 (cR_may G sz _ hR h_goods hg0 hg4 (by omega) (by omega) hV.2.2.2.2.2.2) hR rfl (Nat.le_of_ble_eq_true rfl) (by decide) (Nat.le_refl _) (Nat.le_refl _) ?_
            refine pt_zeq eR_read_121 ⟨by have := mayf_01 (q 3 1) (v 16) (v 13); omega, by have := mayf_01 (q 3 1) (v 16) (v 13); omega⟩ (fun c121 => ?_) (fun c121 => ?_)
            · first
              | (exfalso; omega)
              | exact fail _ (by unfold beI; rw [if_neg (by omega)]; decide) (by omega)
              | exact fail _ (by unfold beI; rw [if_pos (by omega), ← s13', c121]; decide) (by omega)
            · first
              | (exfalso; omega)
              | (have hbe : beI (fun x => tx x % 2 ^ 8) n (q 3 1) (v 16) a = 1 := by
                   have := mayf_01 (q 3 1) (v 16) (v 13)
                   unfold beI; rw [if_pos (by omega), ← s13']; omega
                 exact okp hbe (by omega))
def rq0 (q : Nat → Int → Int) : Nat → Int → Int := va_up (va_up (va_up (va_up q 3 (uI (q 3) 1 0)) 2 (uI (uI (q 2) 2 2) 3 3)) 8 (blk (q 8) (fun _ => 0) 80 80)) 9 (blk (q 9) (fun _ => 0) 80 80)
theorem rq0_LV {q : Nat → Int → Int} : LV q (rq0 q) := by
  refine ⟨fun j hj => ?_, ⟨?_, ?_, ?_⟩, fun g h0 h4 => ⟨rfl, rfl, rfl, rfl⟩, fun k h0 h1 => ⟨?_, ?_⟩⟩
  · unfold rq0; rw [va_up_ne _ _ (by omega), va_up_ne _ _ (by omega), va_up_ne _ _ (by omega), va_up_ne _ _ (by omega)]
  · show uI (uI (q 2) 2 2) 3 3 0 = q 2 0; rw [uI_n _ _ (by decide), uI_n _ _ (by decide)]
  · show uI (uI (q 2) 2 2) 3 3 1 = q 2 1; rw [uI_n _ _ (by decide), uI_n _ _ (by decide)]
  · show uI (q 3) 1 0 0 = q 3 0; rw [uI_n _ _ (by decide)]
  · show blk (q 8) (fun _ => 0) 80 80 k = q 8 k; rw [blk_out (by omega)]
  · show blk (q 9) (fun _ => 0) 80 80 k = q 9 k; rw [blk_out (by omega)]
theorem lR_rz (G : pd_G) (sz : Nat) (hp : pd_P) {v : Nat → Int} {f8 f9 : Int → Int} (hR : hp 178 = RO v) {R : pd_R} (hx : ∀  (hp0 : pd_P), hp0 = (va_up (va_up hp (186) (ia 160 (blk f8 (fun _ => 0) 80 (160 - 80)))) (187) (ia 160 (blk f9 (fun _ => 0) 80 (160 - 80)))) → pd_t G mR_read 7 R 71 [some (vr 178), some (vi (160))] [] sz hp0) : ∀ (n : Nat) (i : Int)  (hp0 : pd_P), 80 ≤ i → i + n = 160 → hp0 = (va_up (va_up hp (186) (ia 160 (blk f8 (fun _ => 0) 80 (i - 80)))) (187) (ia 160 (blk f9 (fun _ => 0) 80 (i - 80)))) → pd_t G mR_read 7 R 44 [some (vr 178), some (vi (i))] [] sz hp0 := by
  intro n
  induction n with
  | zero =>
    intro i  hp0 hi0 hiE he0
    have hiE2 : 160 = i := by omega
    subst hiE2
    have hx2 := hx  hp0 he0
    obtain ⟨hq0, eq0⟩ : ∃ z : pd_P, z = va_up hp (186) (ia 160 (blk f8 (fun _ => 0) 80 ((160) - 80))) := ⟨_, rfl⟩
    rw [← eq0] at he0
    have hR := pg_n eq0 (by omega) hR
    have h_brought := pg_s eq0
    have hR := pg_n he0 (by omega) hR
    have h_brought := pg_n he0 (by omega) h_brought
    have h_missed := pg_s he0
    refine pt_iload eR_read_44 rfl ?_
    refine pt_ic eR_read_45 ?_
    refine pt_cge eR_read_48 ⟨by omega, by omega⟩ ⟨by omega, by omega⟩ (fun c48 => ?_) (fun c48 => ?_)
    · exact hx2
    · exfalso; omega
  | succ n ih =>
    intro i  hp0 hi0 hiE he0
    obtain ⟨hq0, eq0⟩ : ∃ z : pd_P, z = va_up hp (186) (ia 160 (blk f8 (fun _ => 0) 80 (i - 80))) := ⟨_, rfl⟩
    rw [← eq0] at he0
    have hR := pg_n eq0 (by omega) hR
    have h_brought := pg_s eq0
    have hR := pg_n he0 (by omega) hR
    have h_brought := pg_n he0 (by omega) h_brought
    have h_missed := pg_s he0
    refine pt_iload eR_read_44 rfl ?_
    refine pt_ic eR_read_45 ?_
    refine pt_cge eR_read_48 ⟨by omega, by omega⟩ ⟨by omega, by omega⟩ (fun c48 => ?_) (fun c48 => ?_)
    · exfalso; omega
    · refine pt_aload eR_read_51 rfl ?_
      refine pt_get eR_read_52 hR rfl ?_
      refine pt_iload eR_read_55 rfl ?_
      refine pt_ic eR_read_56 ?_
      refine pt_iast eR_read_57 h_brought (by omega) (by omega) (by decide) ?_
      refine pt_gen ?_
      intro hp1 ev1
      have hR := pg_n ev1 (by omega) hR
      have h_brought := pg_s ev1
      have h_missed := pg_n ev1 (by omega) h_missed
      refine pt_aload eR_read_58 rfl ?_
      refine pt_get eR_read_59 hR rfl ?_
      refine pt_iload eR_read_62 rfl ?_
      refine pt_ic eR_read_63 ?_
      refine pt_iast eR_read_64 h_missed (by omega) (by omega) (by decide) ?_
      refine pt_gen ?_
      intro hp2 ev2
      have hR := pg_n ev2 (by omega) hR
      have h_brought := pg_n ev2 (by omega) h_brought
      have h_missed := pg_s ev2
      refine pt_inc1 eR_read_65 rfl ?_
      refine pt_goto eR_read_68 ?_
      have hfin : hp2 = (va_up (va_up hp (186) (ia 160 (blk f8 (fun _ => 0) 80 ((i + 1) - 80)))) (187) (ia 160 (blk f9 (fun _ => 0) 80 ((i + 1) - 80)))) := by
        rw [ev2, ev1, he0, eq0]
        have k1 := blk_s (f := f8) (g := fun _ => 0) (a := 80) (n := i - 80) (by omega)
        have k2 := blk_s (f := f9) (g := fun _ => 0) (a := 80) (n := i - 80) (by omega)
        rw [show 80 + (i - 80) = i by omega, show i - 80 + 1 = i + 1 - 80 by omega] at k1 k2
        rw [bx_4 (by decide), ← k1, ← k2]
      exact ih (i + 1)  _ (by omega) (by omega) hfin 
def mPosR (hp : pd_P) (sz : Nat) (q : Nat → Int → Int) (v : Nat → Int) : pd_R := fun v' sz' hp' => v' = none ∧ sz' = sz ∧ (∃ q1 v1, MW hp' q1 v1 ∧ LV q q1 ∧ VV v v1 ∧ RES (rdf (fun x => q 0 x % 2 ^ 8) (v 1) 151 (rq0 q) 0 0 0) q1 v1 ∧ vok (fun x => q 0 x % 2 ^ 8) v1) ∧ fr hp hp' 178 200
theorem cR_read (G : pd_G) (sz : Nat) (hp : pd_P) {q : Nat → Int → Int} {v : Nat → Int} (hM : MW hp q v) (hX : okX (fun x => q 0 x % 2 ^ 8) (v 1)) : pd_c G mR_read 7 [vr 178] sz hp (mPosR hp sz q v) := by
  refine pd_con kR_read [some (vr 178), none] rfl rfl (Nat.le_of_ble_eq_true rfl) ?_
  have hX0 := hX.1
  have hR := hM.1
  have h_goods := hM.w_goods
  have h_door := hM.w_door
  refine pt_aload eR_read_0 rfl ?_
  refine pt_ic eR_read_1 ?_
  refine pt_put10 eR_read_2 hR trivial ?_
  refine pt_gen ?_
  intro hp1 ev1
  have hR := pg_s ev1
  have h_goods := pg_n ev1 (by omega) h_goods
  have h_door := pg_n ev1 (by omega) h_door
  refine pt_aload eR_read_5 rfl ?_
  refine pt_ic eR_read_6 ?_
  refine pt_put14 eR_read_7 hR (Or.inl rfl) ?_
  refine pt_gen ?_
  intro hp2 ev2
  have hR := pg_s ev2
  have h_goods := pg_n ev2 (by omega) h_goods
  have h_door := pg_n ev2 (by omega) h_door
  refine pt_aload eR_read_10 rfl ?_
  refine pt_ic eR_read_11 ?_
  refine pt_put15 eR_read_12 hR trivial ?_
  refine pt_gen ?_
  intro hp3 ev3
  have hR := pg_s ev3
  have h_goods := pg_n ev3 (by omega) h_goods
  have h_door := pg_n ev3 (by omega) h_door
  refine pt_aload eR_read_15 rfl ?_
  refine pt_ic eR_read_16 ?_
  refine pt_put16 eR_read_17 hR (Or.inl rfl) ?_
  refine pt_gen ?_
  intro hp4 ev4
  have hR := pg_s ev4
  have h_goods := pg_n ev4 (by omega) h_goods
  have h_door := pg_n ev4 (by omega) h_door
  refine pt_aload eR_read_20 rfl ?_
  refine pt_get eR_read_21 hR rfl ?_
  refine pt_ic eR_read_24 ?_
  refine pt_ic eR_read_25 ?_
  refine pt_iast eR_read_26 h_goods (by omega) (by omega) (by decide) ?_
  refine pt_gen ?_
  intro hp5 ev5
  have hR := pg_n ev5 (by omega) hR
  have h_goods := pg_s ev5
  have h_door := pg_n ev5 (by omega) h_door
  refine pt_aload eR_read_27 rfl ?_
  refine pt_get eR_read_28 hR rfl ?_
  refine pt_ic eR_read_31 ?_
  refine pt_ic eR_read_32 ?_
  refine pt_iast eR_read_33 h_door (by omega) (by omega) (by decide) ?_
  refine pt_gen ?_
  intro hp6 ev6
  have hR := pg_n ev6 (by omega) hR
  have h_goods := pg_n ev6 (by omega) h_goods
  have h_door := pg_s ev6
  refine pt_aload eR_read_34 rfl ?_
  refine pt_get eR_read_35 hR rfl ?_
  refine pt_ic eR_read_38 ?_
  refine pt_ic eR_read_39 ?_
  refine pt_iast eR_read_40 h_door (by omega) (by omega) (by decide) ?_
  refine pt_gen ?_
  intro hp7 ev7
  have hR := pg_n ev7 (by omega) hR
  have h_goods := pg_n ev7 (by omega) h_goods
  have h_door := pg_s ev7
  refine pt_ic eR_read_41 ?_
  refine pt_istore1 eR_read_43 rfl ?_
  have hMa : MW hp7 (va_up (va_up q 3 (uI (q 3) 1 0)) 2 (uI (uI (q 2) 2 2) 3 3)) (va_up (va_up (va_up (va_up v 10 0) 14 0) 15 0) 16 0) := by
    rw [ev7, ev6, ev5, ev4, ev3, ev2, ev1, bx_uu, bx_uu, bx_uu]
    have hm := ((hM.s_v (va_up (va_up (va_up (va_up v 10 0) 14 0) 15 0) 16 0)).s_goods (uI (q 3) 1 0)).s_door (uI (q 2) 2 2)
    have hm2 := hm.s_door (uI (uI (q 2) 2 2) 3 3)
    rw [uq_uu] at hm2
    exact hm2
  have hfa : fr hp hp7 178 200 := (((((((fr.rf.up ev1 (by decide) (by decide)).up ev2 (by decide) (by decide)).up ev3 (by decide) (by decide)).up ev4 (by decide) (by decide)).up ev5 (by decide) (by decide)).up ev6 (by decide) (by decide)).up ev7 (by decide) (by decide))
  refine lR_rz G sz hp7 (f8 := q 8) (f9 := q 9) hMa.1 (fun hp8 he8 => ?_) 80 80 hp7 (by omega) (by omega) (by rw [show (80 : Int) - 80 = 0 by decide, blk_0, blk_0, ← pu_self (show hp7 186 = ia 160 (q 8) from hMa.w_brought)]; exact pu_self hMa.w_missed)
  have hMb : MW hp8 (rq0 q) (va_up (va_up (va_up (va_up v 10 0) 14 0) 15 0) 16 0) := by
    rw [he8]
    exact (hMa.s_brought (blk (q 8) (fun _ => 0) 80 80)).s_missed (blk (q 9) (fun _ => 0) 80 80)
  obtain ⟨hq8, eq8⟩ : ∃ z : pd_P, z = va_up hp7 186 (ia 160 (blk (q 8) (fun _ => 0) 80 (160 - 80))) := ⟨_, rfl⟩
  rw [← eq8] at he8
  have hfb : fr hp hp8 178 200 := (hfa.up eq8 (by decide) (by decide)).up he8 (by decide) (by decide)
  have hR := hMb.1
  have h_text : hp8 179 = ba 150 (q 0) := hMb.w_text
  obtain ⟨w, hw⟩ : ∃ w, w = va_up (va_up (va_up (va_up v 10 0) 14 0) 15 0) 16 0 := ⟨_, rfl⟩
  rw [← hw] at hMb hR
  have hw1 : w 1 = v 1 := by rw [hw]; rfl
  have hw10 : w 10 = 0 := by rw [hw]; rfl
  have hw14 : w 14 = 0 := by rw [hw]; rfl
  have hw15 : w 15 = 0 := by rw [hw]; rfl
  have hw16 : w 16 = 0 := by rw [hw]; rfl
  have hVVw : VV v w := by rw [hw]; exact (((VV.rf.up _ (by decide)).up _ (by decide)).up _ (by decide)).up _ (by decide)
  refine pt_aload eR_read_71 rfl ?_
  refine pt_kv0 eR_read_72 (cR_step G sz _ (v := w) hR h_text (by rw [hw1]; exact hX) (by omega) (by omega)) hR rfl (Nat.le_of_ble_eq_true rfl) (by decide) (Nat.le_refl _) (Nat.le_refl _) ?_
  rintro v2 sz2 hpx ⟨rfl, hz9, hx9⟩
  obtain rfl := hz9.symm
  have hMc : MW hpx (rq0 q) (stepf (fun x => q 0 x % 2 ^ 8) w) := by rw [hx9]; exact hMb.s_v _
  have hso := (stepf_ok (b := (fun x => q 0 x % 2 ^ 8)) (v := w) (by rw [hw1]; exact hX) (by omega) (by omega) (Or.inl hw14) (Or.inl hw16)).1
  refine lR_rd G sz hp (q0 := q) (v0 := v) (tx := q 0) (n := v 1) (r0 := rdf (fun x => q 0 x % 2 ^ 8) (v 1) 151 (rq0 q) 0 0 0) hX (fun q1 v1 l1 hp0 k1 k2 k3 k4 k5 k6 => ?_) 151 0 (rq0 q) (stepf (fun x => q 0 x % 2 ^ 8) w) _ hpx (by omega) (by omega) (by omega) hMc rfl hso hw1 ?_ ?_ ?_ rq0_LV hVVw.st (hfb.up hx9 (by decide) (by decide)) ?_ ?_
  · refine pt_vret eR_read_174 (Nat.le_refl _) (Nat.le_refl _) ?_
    exact ⟨rfl, rfl, ⟨q1, v1, k1, k2, k3, k5, k6⟩, k4⟩
  · refine Or.inl ⟨rfl, hw14, ?_, ?_, ?_, ?_⟩
    · show te (fun x => q 0 x % 2 ^ 8) (w 1) (w 10) = te (fun x => q 0 x % 2 ^ 8) (v 1) 0; rw [hw1, hw10]
    · show tkp (fun x => q 0 x % 2 ^ 8) (w 1) (w 10) = tkp (fun x => q 0 x % 2 ^ 8) (v 1) 0; rw [hw1, hw10]
    · show ts (fun x => q 0 x % 2 ^ 8) (w 1) (w 10) = ts (fun x => q 0 x % 2 ^ 8) (v 1) 0; rw [hw1, hw10]
    · show tv (fun x => q 0 x % 2 ^ 8) (w 1) (w 10) = tv (fun x => q 0 x % 2 ^ 8) (v 1) 0; rw [hw1, hw10]
  · show 0 ≤ uI (q 3) 1 0 1; rw [uI_s]; omega
  · show uI (q 3) 1 0 1 ≤ 4; rw [uI_s]; omega
  · show 0 ≤ w 15; omega
  · show rdf (fun x => q 0 x % 2 ^ 8) (v 1) 151 (rq0 q) (w 16) 0 (w 15) = _
    rw [hw15, hw16]
