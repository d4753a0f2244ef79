/-! the Life: a State, ten older ones, how many count -/
abbrev LO (a : Nat) (k : Int) : pd_E := ob 6 [vr (a + 1), vr (a + 5), vi k]
def LiA (hp : pd_P) (a : Nat) (ρ : Int → Int) (k : Int) (Q : Int → Int → Int) : Prop := hp a = LO a k ∧ StA hp (a + 1) ρ ∧ ∃ (pf : Int → Option Nat) (π : Int → Nat), hp (a + 5) = ra 4 10 pf ∧ (∀ i, 0 ≤ i → i < 10 → pf i = some (a + 6 + 4 * π i) ∧ π i < 10) ∧ (∀ i j, 0 ≤ i → i < 10 → 0 ≤ j → j < 10 → π i = π j → i = j) ∧ ∀ i, 0 ≤ i → i < 10 → StA hp (a + 6 + 4 * π i) (Q i)
theorem LiA.fr {hp hp1 : pd_P} {lo hi a : Nat} {ρ : Int → Int} {k : Int} {Q : Int → Int → Int} (h : LiA hp a ρ k Q) (hf : fr hp hp1 lo hi) (hk : a + 46 ≤ lo ∨ hi ≤ a) : LiA hp1 a ρ k Q := by
  obtain ⟨h1, h2, pf, π, h3, h4, h5, h6⟩ := h
  refine ⟨hf.at (by omega) h1, h2.fr hf (by omega), pf, π, hf.at (by omega) h3, h4, h5, fun i hi0 hi1 => ?_⟩
  have := (h4 i hi0 hi1).2
  exact (h6 i hi0 hi1).fr hf (by omega)
def shf (pf : Int → Option Nat) (n : Int) : Int → Option Nat := fun j => if 0 ≤ j ∧ j < n - 1 then pf (j + 1) else pf j
theorem shf_at {pf : Int → Option Nat} {n : Int} : shf pf n n = pf n := by unfold shf; rw [if_neg (by omega)]
theorem shf_1 (pf : Int → Option Nat) : shf pf 1 = pf := by funext j; unfold shf; rw [if_neg (by omega)]
theorem shf_s {pf : Int → Option Nat} {n : Int} (h : 1 ≤ n) : uI (shf pf n) (n - 1) (pf n) = shf pf (n + 1) := by
  funext j
  unfold uI shf
  by_cases h1 : j = n - 1
  · subst h1; rw [if_pos rfl, if_pos (by omega)]; congr 1; omega
  · rw [if_neg h1]
    by_cases h2 : 0 ≤ j ∧ j < n - 1
    · rw [if_pos h2, if_pos (by omega)]
    · rw [if_neg h2, if_neg (by omega)]
theorem lL_lose (G : pd_G) (sz : Nat) (hp : pd_P) {a : Nat} {k : Int} {old : Nat} {pf : Int → Option Nat} {π : Int → Nat} (hL : hp a = LO a k) (hpf : ∀ i, 0 ≤ i → i < 10 → pf i = some (a + 6 + 4 * π i)) (hso : ∀ i, 0 ≤ i → i < 10 → ∃ x y, hp (a + 6 + 4 * π i) = SO (a + 6 + 4 * π i) x y) {R : pd_R} (hx : ∀  (hp0 : pd_P), hp0 = (va_up hp (a + 5) (ra 4 10 (shf pf (10)))) → pd_t G mL_loseOldest 0 R 35 [some (vr a), some (vr old), some (vi (10))] [] sz hp0) : ∀ (n : Nat) (i : Int)  (hp0 : pd_P), 1 ≤ i → i + n = 10 → hp0 = (va_up hp (a + 5) (ra 4 10 (shf pf (i)))) → pd_t G mL_loseOldest 0 R 9 [some (vr a), some (vr old), some (vi (i))] [] sz hp0 := by
  intro n
  induction n with
  | zero =>
    intro i  hp0 hi0 hiE he0
    have hiE2 : 10 = i := by omega
    subst hiE2
    have hx2 := hx  hp0 he0
    have hL := pg_n he0 (by omega) hL
    have hLp := pg_s he0
    refine pt_iload eL_loseOldest_9 rfl ?_
    refine pt_ic eL_loseOldest_10 ?_
    refine pt_cge eL_loseOldest_12 ⟨by omega, by omega⟩ ⟨by omega, by omega⟩ (fun c12 => ?_) (fun c12 => ?_)
    · exact hx2
    · exfalso; omega
  | succ n ih =>
    intro i  hp0 hi0 hiE he0
    have hL := pg_n he0 (by omega) hL
    have hLp := pg_s he0
    refine pt_iload eL_loseOldest_9 rfl ?_
    refine pt_ic eL_loseOldest_10 ?_
    refine pt_cge eL_loseOldest_12 ⟨by omega, by omega⟩ ⟨by omega, by omega⟩ (fun c12 => ?_) (fun c12 => ?_)
    · exfalso; omega
    · refine pt_aload eL_loseOldest_15 rfl ?_
      refine pt_get eL_loseOldest_16 hL rfl ?_
      refine pt_iload eL_loseOldest_19 rfl ?_
      refine pt_ic eL_loseOldest_20 ?_
      refine pt_isub eL_loseOldest_21 ?_
      refine pt_aload eL_loseOldest_22 rfl ?_
      refine pt_get eL_loseOldest_23 hL rfl ?_
      refine pt_iload eL_loseOldest_26 rfl ?_
      refine pt_aald eL_loseOldest_27 hLp rfl (by omega) (by omega) (by decide) (by rw [shf_at]; exact hpf i (by omega) (by omega)) ?_
      obtain ⟨x1, y1, hxy⟩ := hso i (by omega) (by omega)
      have hxy := pg_n he0 (by omega) hxy
      refine pt_aast eL_loseOldest_28 hLp rfl (by omega) (by omega) (by decide) hxy ⟨_, rfl, Or.inl rfl⟩ ?_
      refine pt_gen ?_
      intro hp1 ev1
      have hL := pg_n ev1 (by omega) hL
      have hLp := pg_s ev1
      refine pt_inc2 eL_loseOldest_29 rfl ?_
      refine pt_goto eL_loseOldest_32 ?_
      have hfin : hp1 = (va_up hp (a + 5) (ra 4 10 (shf pf ((i + 1))))) := by
        rw [ev1, he0]
        rw [bx_uu, show some (a + 6 + 4 * π i) = pf i from (hpf i (by omega) (by omega)).symm, shf_s (by omega)]
      exact ih (i + 1)  _ (by omega) (by omega) hfin 
theorem cL_lose (G : pd_G) (sz : Nat) (hp : pd_P) {a : Nat} {ρ : Int → Int} {k : Int} {Q : Int → Int → Int} (hA : LiA hp a ρ k Q) : pd_c G mL_loseOldest 0 [vr a] sz hp (fun v sz' hp' => v = none ∧ sz' = sz ∧ LiA hp' a ρ 9 (fun i => if i = 9 then Q 0 else Q (i + 1)) ∧ fr hp hp' a (a + 46)) := by
  refine pd_con kL_loseOldest [some (vr a), none, none] rfl rfl (Nat.le_of_ble_eq_true rfl) ?_
  obtain ⟨hL, hN, pf, π, hLp, h4, h5, h6⟩ := hA
  refine pt_aload eL_loseOldest_0 rfl ?_
  refine pt_get eL_loseOldest_1 hL rfl ?_
  refine pt_ic eL_loseOldest_4 ?_
  refine pt_aald eL_loseOldest_5 hLp rfl (by omega) (by omega) (by decide) (h4 0 (by decide) (by decide)).1 ?_
  refine pt_astore1 eL_loseOldest_6 rfl ?_
  refine pt_ic eL_loseOldest_7 ?_
  refine pt_istore2 eL_loseOldest_8 rfl ?_
  refine lL_lose G sz hp (pf := pf) (π := π) hL (fun i h0 h1 => (h4 i h0 h1).1) (fun i h0 h1 => ⟨_, _, (h6 i h0 h1).1⟩) (fun hp0 he0 => ?_) 9 1 hp (by omega) (by omega) (by rw [shf_1]; exact pu_self hLp)
  have hL := pg_n he0 (by omega) hL
  have hLp := pg_s he0
  have hO := pg_n he0 (by omega) (h6 0 (by decide) (by decide)).1
  refine pt_aload eL_loseOldest_35 rfl ?_
  refine pt_get eL_loseOldest_36 hL rfl ?_
  refine pt_ic eL_loseOldest_39 ?_
  refine pt_aload eL_loseOldest_41 rfl ?_
  refine pt_aast eL_loseOldest_42 hLp rfl (by omega) (by omega) (by decide) hO ⟨_, rfl, Or.inl rfl⟩ ?_
  refine pt_gen ?_
  intro hp1 ev1
  have hL := pg_n ev1 (by omega) hL
  have hLp := pg_s ev1
  refine pt_aload eL_loseOldest_43 rfl ?_
  refine pt_ic eL_loseOldest_44 ?_
  refine pt_put2 eL_loseOldest_46 hL trivial ?_
  refine pt_gen ?_
  intro hp2 ev2
  have hL := pg_s ev2
  have hLp := pg_n ev2 (by omega) hLp
  refine pt_vret eL_loseOldest_49 (Nat.le_refl _) (Nat.le_refl _) ?_
  have hfr : fr hp hp2 (a + 5) (a + 6) → True := fun _ => trivial
  have hf1 : fr hp hp2 a (a + 6) := ((fr.rf.up he0 (by omega) (by omega)).up ev1 (by omega) (by omega)).up ev2 (by omega) (by omega)
  refine ⟨rfl, rfl, ⟨hL, ?_, _, (fun i => if i = 9 then π 0 else π (i + 1)), hLp, ?_, ?_, ?_⟩, fun k hk => hf1 k (by omega)⟩
  · have e1 : ∀ j, j ≠ a → j ≠ a + 5 → hp2 j = hp j := fun j n1 n2 => by rw [ev2, va_up_ne _ _ n1, ev1, va_up_ne _ _ n2, he0, va_up_ne _ _ n2]
    exact ⟨(e1 _ (by omega) (by omega)).trans hN.1, (e1 _ (by omega) (by omega)).trans hN.2.1, (e1 _ (by omega) (by omega)).trans hN.2.2.1, (e1 _ (by omega) (by omega)).trans hN.2.2.2⟩
  · intro i hi0 hi1
    dsimp only
    unfold uI shf
    by_cases h9 : i = 9
    · rw [if_pos h9, if_pos h9]
      exact ⟨rfl, (h4 0 (by decide) (by decide)).2⟩
    · rw [if_neg h9, if_neg h9, if_pos (by omega)]
      exact h4 (i + 1) (by omega) (by omega)
  · intro i j hi0 hi1 hj0 hj1 hij
    dsimp only at hij
    by_cases h9 : i = 9 <;> by_cases h8 : j = 9 <;> simp only [h9, h8, if_true, if_false] at hij
    · omega
    · have := h5 0 (j + 1) (by decide) (by decide) (by omega) (by omega) hij; omega
    · have := h5 (i + 1) 0 (by omega) (by omega) (by decide) (by decide) hij; omega
    · have := h5 (i + 1) (j + 1) (by omega) (by omega) (by omega) (by omega) hij; omega
  · intro i hi0 hi1
    by_cases h9 : i = 9
    · simp only [h9, if_true]
      exact (h6 0 (by decide) (by decide)).fr hf1 (by omega)
    · simp only [h9, if_false]
      exact (h6 (i + 1) (by omega) (by omega)).fr hf1 (by omega)
def rmQ (Q : Int → Int → Int) (ρ : Int → Int) (k : Int) : Int → Int → Int := if k = 10 then (fun i => if i = 9 then ρ else Q (i + 1)) else uI Q k ρ
theorem cL_rem (G : pd_G) (sz : Nat) (hp : pd_P) {a : Nat} {ρ : Int → Int} {k : Int} {Q : Int → Int → Int} (hA : LiA hp a ρ k Q) (hk : 0 ≤ k) (hkk : k ≤ 10) (hh : ρ 1 = 0 ∨ ρ 1 = 1) : pd_c G mL_remember 2 [vr a] sz hp (fun v sz' hp' => v = none ∧ sz' = sz ∧ LiA hp' a ρ (knf k) (rmQ Q ρ k) ∧ fr hp hp' a (a + 46)) := by
  refine pd_con kL_remember [some (vr a)] rfl rfl (Nat.le_of_ble_eq_true rfl) ?_
  have hA0 := hA
  obtain ⟨hL, -⟩ := hA0
  have tail : ∀ (hp3 : pd_P) (k3 : Int) (Q3 : Int → Int → Int), LiA hp3 a ρ k3 Q3 → fr hp hp3 a (a + 46) → 0 ≤ k3 → k3 < 10 → (k3 + 1 = knf k) → (∀ i, 0 ≤ i → i < 10 → uI Q3 k3 ρ i = rmQ Q ρ k i) → pd_t G mL_remember 2 (fun v sz' hp' => v = none ∧ sz' = sz ∧ LiA hp' a ρ (knf k) (rmQ Q ρ k) ∧ fr hp hp' a (a + 46)) 13 [some (vr a)] [] sz hp3 := by
    intro hp3 k3 Q3 hA3 hfr3 hk0 hk1 hkn hQ
    obtain ⟨hL, hN, pf, π, hLp, h4, h5, h6⟩ := hA3
    have hpk := (h4 _ hk0 hk1).2
    refine pt_aload eL_remember_13 rfl ?_
    refine pt_get eL_remember_14 hL rfl ?_
    refine pt_aload eL_remember_17 rfl ?_
    refine pt_get eL_remember_18 hL rfl ?_
    refine pt_aald eL_remember_21 hLp rfl (by omega) (by omega) (by decide) (h4 _ hk0 hk1).1 ?_
    refine pt_aload eL_remember_22 rfl ?_
    refine pt_get eL_remember_23 hL rfl ?_
    refine pt_kv1 eL_remember_26 (cS_copy G sz _ (h6 _ hk0 hk1) hN (by omega) hh) (h6 _ hk0 hk1).1 rfl (Nat.le_of_ble_eq_true rfl) (by decide) (Nat.le_refl _) (Nat.le_refl _) ?_
    rintro v2 sz2 hpx ⟨rfl, rfl, hs2, hf2⟩
    have hL := hf2.at (by omega) hL
    refine pt_aload eL_remember_29 rfl ?_
    refine pt_dupr eL_remember_30 ?_
    refine pt_get eL_remember_31 hL rfl ?_
    refine pt_ic eL_remember_34 ?_
    refine pt_iadd eL_remember_35 ?_
    refine pt_put2 eL_remember_36 hL trivial ?_
    refine pt_gen ?_
    intro hp1 ev1
    have hL := pg_s ev1
    refine pt_vret eL_remember_39 (Nat.le_refl _) (Nat.le_refl _) ?_
    refine ⟨rfl, rfl, ?_, ((hfr3.tr hf2 (by omega) (by omega)).up ev1 (by omega) (by omega))⟩
    rw [← hkn]
    have hfa : ∀ j, j ≠ a → hp1 j = hpx j := fun j hj => by rw [ev1, va_up_ne _ _ hj]
    refine ⟨hL, ?_, pf, π, ?_, h4, h5, fun i hi0 hi1 => ?_⟩
    · have := hN.fr hf2 (by omega)
      exact ⟨(hfa _ (by omega)).trans this.1, (hfa _ (by omega)).trans this.2.1, (hfa _ (by omega)).trans this.2.2.1, (hfa _ (by omega)).trans this.2.2.2⟩
    · rw [hfa _ (by omega)]; exact hf2.at (by omega) hLp
    · have hpi := (h4 i hi0 hi1).2
      rw [← hQ i hi0 hi1]
      by_cases hij : i = k3
      · subst hij
        rw [uI_s]
        exact ⟨(hfa _ (by omega)).trans hs2.1, (hfa _ (by omega)).trans hs2.2.1, (hfa _ (by omega)).trans hs2.2.2.1, (hfa _ (by omega)).trans hs2.2.2.2⟩
      · rw [uI_n _ _ hij]
        have hne : π i ≠ π k3 := fun q => hij (h5 i k3 hi0 hi1 hk0 hk1 q)
        have := (h6 i hi0 hi1).fr hf2 (by omega)
        exact ⟨(hfa _ (by omega)).trans this.1, (hfa _ (by omega)).trans this.2.1, (hfa _ (by omega)).trans this.2.2.1, (hfa _ (by omega)).trans this.2.2.2⟩
  refine pt_aload eL_remember_0 rfl ?_
  refine pt_get eL_remember_1 hL rfl ?_
  refine pt_ic eL_remember_4 ?_
  refine pt_clt eL_remember_6 ⟨by omega, by omega⟩ ⟨by omega, by omega⟩ (fun c6 => ?_) (fun c6 => ?_)
  · first
    | (refine tail hp k Q hA fr.rf hk (by omega) (by unfold knf; rw [if_neg (by omega)]) (fun i _ _ => ?_)
       unfold rmQ
       rw [if_neg (show ¬ k = 10 by omega)])
    | (refine tail hpx 9 _ hA2 hf2 (by decide) (by decide) (by unfold knf; rw [if_pos (by omega)]; decide) (fun i _ _ => ?_)
       unfold rmQ uI
       rw [if_pos (show k = 10 by omega)]
       by_cases h9 : i = 9
       · simp [h9]
       · simp [h9])
  · refine pt_aload eL_remember_9 rfl ?_
    refine pt_kv0 eL_remember_10 (cL_lose G sz _ hA) hL rfl (Nat.le_of_ble_eq_true rfl) (by decide) (Nat.le_refl _) (Nat.le_refl _) ?_
    rintro v2 sz2 hpx ⟨rfl, rfl, hA2, hf2⟩
    first
    | (refine tail hp k Q hA fr.rf hk (by omega) (by unfold knf; rw [if_neg (by omega)]) (fun i _ _ => ?_)
       unfold rmQ
       rw [if_neg (show ¬ k = 10 by omega)])
    | (refine tail hpx 9 _ hA2 hf2 (by decide) (by decide) (by unfold knf; rw [if_pos (by omega)]; decide) (fun i _ _ => ?_)
       unfold rmQ uI
       rw [if_pos (show k = 10 by omega)]
       by_cases h9 : i = 9
       · simp [h9]
       · simp [h9])
