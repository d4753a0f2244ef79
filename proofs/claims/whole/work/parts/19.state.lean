/-! the State, and the reference's own: copies -/
def blk (f g : Int → Int) (a n : Int) : Int → Int := fun k => if a ≤ k ∧ k < a + n then g (k - a) else f k
theorem blk_out {f g : Int → Int} {a n k : Int} (h : k < a ∨ a + n ≤ k) : blk f g a n k = f k := by unfold blk; rw [if_neg (by omega)]
theorem blk_in {f g : Int → Int} {a n k : Int} (h : a ≤ k) (h2 : k < a + n) : blk f g a n k = g (k - a) := by unfold blk; rw [if_pos ⟨h, h2⟩]
theorem blk_0 (f g : Int → Int) (a : Int) : blk f g a 0 = f := by funext k; unfold blk; rw [if_neg (by omega)]
theorem blk_s {f g : Int → Int} {a n : Int} (h : 0 ≤ n) : uI (blk f g a n) (a + n) (g n) = blk f g a (n + 1) := by
  funext k
  unfold uI blk
  by_cases h1 : k = a + n
  · subst h1
    rw [if_pos rfl, if_pos (by omega)]
    congr 1
    omega
  · rw [if_neg h1]
    by_cases h2 : a ≤ k ∧ k < a + n
    · rw [if_pos h2, if_pos (by omega)]
    · rw [if_neg h2, if_neg (by omega)]
def fr (hp hp1 : pd_P) (lo hi : Nat) : Prop := ∀ k, (k < lo ∨ hi ≤ k) → hp1 k = hp k
theorem fr.rf {hp : pd_P} {lo hi : Nat} : fr hp hp lo hi := fun _ _ => rfl
theorem fr.up {hp hp1 hp2 : pd_P} {lo hi a : Nat} {e : pd_E} (h : fr hp hp1 lo hi) (he : hp2 = va_up hp1 a e) (h1 : lo ≤ a) (h2 : a < hi) : fr hp hp2 lo hi := fun k hk => by rw [he, va_up_ne _ _ (by omega)]; exact h k hk
theorem fr.tr {hp hp1 hp2 : pd_P} {lo hi lo1 hi1 : Nat} (h : fr hp hp1 lo hi) (h2 : fr hp1 hp2 lo1 hi1) (ha : lo ≤ lo1) (hb : hi1 ≤ hi) : fr hp hp2 lo hi := fun k hk => (h2 k (by omega)).trans (h k hk)
theorem fr.at {hp hp1 : pd_P} {lo hi k : Nat} {e : pd_E} (h : fr hp hp1 lo hi) (hk : k < lo ∨ hi ≤ k) (he : hp k = e) : hp1 k = e := (h k hk).trans he
def StA (hp : pd_P) (a : Nat) (σ : Int → Int) : Prop := hp a = SO a (σ 0) (σ 1) ∧ hp (a + 1) = ia 4 (fun g => σ (2 + g)) ∧ hp (a + 2) = ia 4 (fun g => σ (6 + g)) ∧ hp (a + 3) = ia 80 (fun k => σ (10 + k))
theorem StA.fr {hp hp1 : pd_P} {lo hi a : Nat} {σ : Int → Int} (h : StA hp a σ) (hf : fr hp hp1 lo hi) (hk : a + 4 ≤ lo ∨ hi ≤ a) : StA hp1 a σ := ⟨hf.at (by omega) h.1, hf.at (by omega) h.2.1, hf.at (by omega) h.2.2.1, hf.at (by omega) h.2.2.2⟩
theorem pu_self {hp : pd_P} {A : Nat} {e : pd_E} (h : hp A = e) : hp = va_up hp A e := by
  funext k
  unfold va_up
  split
  · rename_i hk; rw [hk, h]
  · rfl
theorem bx_4 {hp : pd_P} {A B : Nat} {e1 e2 e3 e4 : pd_E} (h : A ≠ B) : va_up (va_up (va_up (va_up hp A e1) B e2) A e3) B e4 = va_up (va_up hp A e3) B e4 := by
  funext k
  unfold va_up
  by_cases h1 : k = B
  · simp [h1]
  · by_cases h2 : k = A
    · subst h2; simp [h1]
    · simp [h1, h2]
theorem bx_3 {hp : pd_P} {A B : Nat} {e1 e2 e3 : pd_E} (h : A ≠ B) : va_up (va_up (va_up hp A e1) B e2) A e3 = va_up (va_up hp A e3) B e2 := by
  funext k
  unfold va_up
  by_cases h1 : k = B
  · subst h1; simp [Ne.symm h]
  · by_cases h2 : k = A
    · subst h2; simp [h1]
    · simp [h1, h2]
theorem cS_copy (G : pd_G) (sz : Nat) (hp : pd_P) {a b : Nat} {σ ρ : Int → Int} (hA : StA hp a σ) (hB : StA hp b ρ) (hab : a + 4 ≤ b ∨ b + 4 ≤ a) (hh : ρ 1 = 0 ∨ ρ 1 = 1) : pd_c G mS_copy 1 [vr a, vr b] sz hp (fun v sz' hp' => v = none ∧ sz' = sz ∧ StA hp' a ρ ∧ fr hp hp' a (a + 4)) := by
  refine pd_con kS_copy [some (vr a), some (vr b)] rfl rfl (Nat.le_of_ble_eq_true rfl) ?_
  obtain ⟨ha, hat, hal, hak⟩ := hA
  obtain ⟨hb, hbt, hbl, hbk⟩ := hB
  refine pt_aload eS_copy_0 rfl ?_
  refine pt_aload eS_copy_1 rfl ?_
  refine pt_get eS_copy_2 hb rfl ?_
  refine pt_put3 eS_copy_5 ha trivial ?_
  refine pt_gen ?_
  intro hp1 ev1
  have ha := pg_s ev1
  have hat := pg_n ev1 (by omega) hat
  have hal := pg_n ev1 (by omega) hal
  have hak := pg_n ev1 (by omega) hak
  have hb := pg_n ev1 (by omega) hb
  have hbt := pg_n ev1 (by omega) hbt
  have hbl := pg_n ev1 (by omega) hbl
  have hbk := pg_n ev1 (by omega) hbk
  refine pt_aload eS_copy_8 rfl ?_
  refine pt_aload eS_copy_9 rfl ?_
  refine pt_get eS_copy_10 hb rfl ?_
  refine pt_put4 eS_copy_13 ha hh ?_
  refine pt_gen ?_
  intro hp2 ev2
  have ha := pg_s ev2
  have hat := pg_n ev2 (by omega) hat
  have hal := pg_n ev2 (by omega) hal
  have hak := pg_n ev2 (by omega) hak
  have hb := pg_n ev2 (by omega) hb
  have hbt := pg_n ev2 (by omega) hbt
  have hbl := pg_n ev2 (by omega) hbl
  have hbk := pg_n ev2 (by omega) hbk
  refine pt_aload eS_copy_16 rfl ?_
  refine pt_get eS_copy_17 hb rfl ?_
  refine pt_ic eS_copy_20 ?_
  refine pt_aload eS_copy_21 rfl ?_
  refine pt_get eS_copy_22 ha rfl ?_
  refine pt_ic eS_copy_25 ?_
  refine pt_ic eS_copy_26 ?_
  refine pt_copy eS_copy_27 hbt hat rfl (by decide) (by decide) (Nat.le_of_ble_eq_true rfl) ?_
  refine pt_gen ?_
  intro hp3 ev3
  have ha := pg_n ev3 (by omega) ha
  have hat := pg_s ev3
  have hal := pg_n ev3 (by omega) hal
  have hak := pg_n ev3 (by omega) hak
  have hb := pg_n ev3 (by omega) hb
  have hbt := pg_n ev3 (by omega) hbt
  have hbl := pg_n ev3 (by omega) hbl
  have hbk := pg_n ev3 (by omega) hbk
  refine pt_aload eS_copy_30 rfl ?_
  refine pt_get eS_copy_31 hb rfl ?_
  refine pt_ic eS_copy_34 ?_
  refine pt_aload eS_copy_35 rfl ?_
  refine pt_get eS_copy_36 ha rfl ?_
  refine pt_ic eS_copy_39 ?_
  refine pt_ic eS_copy_40 ?_
  refine pt_copy eS_copy_41 hbl hal rfl (by decide) (by decide) (Nat.le_of_ble_eq_true rfl) ?_
  refine pt_gen ?_
  intro hp4 ev4
  have ha := pg_n ev4 (by omega) ha
  have hat := pg_n ev4 (by omega) hat
  have hal := pg_s ev4
  have hak := pg_n ev4 (by omega) hak
  have hb := pg_n ev4 (by omega) hb
  have hbt := pg_n ev4 (by omega) hbt
  have hbl := pg_n ev4 (by omega) hbl
  have hbk := pg_n ev4 (by omega) hbk
  refine pt_aload eS_copy_44 rfl ?_
  refine pt_get eS_copy_45 hb rfl ?_
  refine pt_ic eS_copy_48 ?_
  refine pt_aload eS_copy_49 rfl ?_
  refine pt_get eS_copy_50 ha rfl ?_
  refine pt_ic eS_copy_53 ?_
  refine pt_ic eS_copy_54 ?_
  refine pt_copy eS_copy_56 hbk hak rfl (by decide) (by decide) (Nat.le_of_ble_eq_true rfl) ?_
  refine pt_gen ?_
  intro hp5 ev5
  have ha := pg_n ev5 (by omega) ha
  have hat := pg_n ev5 (by omega) hat
  have hal := pg_n ev5 (by omega) hal
  have hak := pg_s ev5
  have hb := pg_n ev5 (by omega) hb
  have hbt := pg_n ev5 (by omega) hbt
  have hbl := pg_n ev5 (by omega) hbl
  have hbk := pg_n ev5 (by omega) hbk
  refine pt_vret eS_copy_59 (Nat.le_refl _) (Nat.le_refl _) ?_
  exact ⟨rfl, rfl, ⟨ha, hat, hal, hak⟩, (((((fr.rf.up ev1 (by omega) (by omega)).up ev2 (by omega) (by omega)).up ev3 (by omega) (by omega)).up ev4 (by omega) (by omega)).up ev5 (by omega) (by omega))⟩
theorem cS_add (G : pd_G) (sz : Nat) (hp : pd_P) {a : Nat} {σ : Int → Int} {g n : Int} (hA : StA hp a σ) (h1 : 0 ≤ g) (h2 : g < 4) (h3 : 0 ≤ σ (2 + g)) (h4 : σ (2 + g) ≤ 999) (h5 : 0 ≤ n) (h6 : n ≤ 30) : pd_c G mS_add 1 [vr a, vi g, vi n] sz hp (fun v sz' hp' => v = some (vi (min (σ (2 + g) + n) 999)) ∧ sz' = sz ∧ StA hp' a (uI σ (2 + g) (min (σ (2 + g) + n) 999)) ∧ fr hp hp' a (a + 4)) := by
  refine pd_con kS_add [some (vr a), some (vi g), some (vi n)] rfl rfl (Nat.le_of_ble_eq_true rfl) ?_
  obtain ⟨ha, hat, hal, hak⟩ := hA
  refine pt_aload eS_add_0 rfl ?_
  refine pt_get eS_add_1 ha rfl ?_
  refine pt_iload eS_add_4 rfl ?_
  refine pt_ic eS_add_5 ?_
  refine pt_aload eS_add_8 rfl ?_
  refine pt_get eS_add_9 ha rfl ?_
  refine pt_iload eS_add_12 rfl ?_
  refine pt_iald eS_add_13 hat (by omega) (by omega) (by decide) ?_
  refine pt_iload eS_add_14 rfl ?_
  refine pt_iadd eS_add_15 ?_
  refine pt_min eS_add_16 ⟨by omega, by omega⟩ ⟨by omega, by omega⟩ (by decide) (Nat.le_of_ble_eq_true rfl) (Nat.le_refl _) (Nat.le_refl _) ?_
  refine pt_iast eS_add_19 hat (by omega) (by omega) (by decide) ?_
  refine pt_gen ?_
  intro hp1 ev1
  have ha := pg_n ev1 (by omega) ha
  have hat := pg_s ev1
  have hal := pg_n ev1 (by omega) hal
  have hak := pg_n ev1 (by omega) hak
  refine pt_ext hat (g := fun x => uI σ (2 + g) (min (σ (2 + g) + n) 999) (2 + x)) (fun i hi0 hi1 => ?_) ?_
  · unfold uI
    by_cases hig : i = g
    · rw [if_pos hig, if_pos (by omega)]; omega
    · rw [if_neg hig, if_neg (by omega)]
  refine pt_gen ?_
  intro hp2 ev2
  have hat := pg_s ev2
  have ha := pg_n ev2 (by omega) ha
  have hal := pg_n ev2 (by omega) hal
  have hak := pg_n ev2 (by omega) hak
  refine pt_ext hal (g := fun x => uI σ (2 + g) (min (σ (2 + g) + n) 999) (6 + x)) (fun i hi0 hi1 => by rw [uI_n _ _ (by omega)]) ?_
  refine pt_gen ?_
  intro hp3 ev3
  have hal := pg_s ev3
  have ha := pg_n ev3 (by omega) ha
  have hat := pg_n ev3 (by omega) hat
  have hak := pg_n ev3 (by omega) hak
  refine pt_ext hak (g := fun x => uI σ (2 + g) (min (σ (2 + g) + n) 999) (10 + x)) (fun i hi0 hi1 => by rw [uI_n _ _ (by omega)]) ?_
  refine pt_gen ?_
  intro hp4 ev4
  have hak := pg_s ev4
  have ha := pg_n ev4 (by omega) ha
  have hat := pg_n ev4 (by omega) hat
  have hal := pg_n ev4 (by omega) hal
  refine pt_aload eS_add_20 rfl ?_
  refine pt_get eS_add_21 ha rfl ?_
  refine pt_iload eS_add_24 rfl ?_
  refine pt_iald eS_add_25 hat (by omega) (by omega) (by decide) ?_
  refine pt_iret eS_add_26 (Nat.le_refl _) (Nat.le_refl _) ?_
  refine ⟨?_, rfl, ⟨?_, hat, hal, hak⟩, ((((fr.rf.up ev1 (by omega) (by omega)).up ev2 (by omega) (by omega)).up ev3 (by omega) (by omega)).up ev4 (by omega) (by omega))⟩
  · rw [uI_s]
  · rw [uI_n _ _ (by omega), uI_n _ _ (by omega)]; exact ha
theorem lR_take (G : pd_G) (sz : Nat) (hp : pd_P) {v : Nat → Int} {σ τ : Int → Int} (hR : hp 178 = RO v) (h_now : hp 188 = ia 90 σ) {R : pd_R} (hx : ∀  (hp0 : pd_P), hp0 = (va_up hp (193) (ia 90 (blk τ σ 0 90))) → pd_t G mR_take 0 R 26 [some (vr 178), some (vi 90)] [] sz hp0) : ∀ (n : Nat) (i : Int)  (hp0 : pd_P), 0 ≤ i → i + n = 90 → hp0 = (va_up hp (193) (ia 90 (blk τ σ 0 i))) → pd_t G mR_take 0 R 2 [some (vr 178), some (vi i)] [] sz hp0 := by
  intro n
  induction n with
  | zero =>
    intro i  hp0 hi0 hiE he0
    have hiE2 : 90 = i := by omega
    subst hiE2
    have hx2 := hx  hp0 he0
    have hR := pg_n he0 (by omega) hR
    have h_now := pg_n he0 (by omega) h_now
    have h_tried := pg_s he0
    refine pt_iload eR_take_2 rfl ?_
    refine pt_ic eR_take_3 ?_
    refine pt_cge eR_take_5 ⟨by omega, by omega⟩ ⟨by omega, by omega⟩ (fun c5 => ?_) (fun c5 => ?_)
    · exact hx2
    · exfalso; omega
  | succ n ih =>
    intro i  hp0 hi0 hiE he0
    have hR := pg_n he0 (by omega) hR
    have h_now := pg_n he0 (by omega) h_now
    have h_tried := pg_s he0
    refine pt_iload eR_take_2 rfl ?_
    refine pt_ic eR_take_3 ?_
    refine pt_cge eR_take_5 ⟨by omega, by omega⟩ ⟨by omega, by omega⟩ (fun c5 => ?_) (fun c5 => ?_)
    · exfalso; omega
    · refine pt_aload eR_take_8 rfl ?_
      refine pt_get eR_take_9 hR rfl ?_
      refine pt_iload eR_take_12 rfl ?_
      refine pt_aload eR_take_13 rfl ?_
      refine pt_get eR_take_14 hR rfl ?_
      refine pt_iload eR_take_17 rfl ?_
      refine pt_iald eR_take_18 h_now (by omega) (by omega) (by decide) ?_
      refine pt_iast eR_take_19 h_tried (by omega) (by omega) (by decide) ?_
      refine pt_gen ?_
      intro hp1 ev1
      have hR := pg_n ev1 (by omega) hR
      have h_now := pg_n ev1 (by omega) h_now
      have h_tried := pg_s ev1
      refine pt_inc1 eR_take_20 rfl ?_
      refine pt_goto eR_take_23 ?_
      have hfin : hp1 = (va_up hp (193) (ia 90 (blk τ σ 0 (i + 1)))) := by
        rw [ev1, he0]
        rw [bx_uu, show uI (blk τ σ 0 i) i (σ i) = blk τ σ 0 (i + 1) by have := blk_s (f := τ) (g := σ) (a := 0) (n := i) hi0; rwa [Int.zero_add] at this]
      exact ih (i + 1)  _ (by omega) (by omega) hfin 
theorem cR_take (G : pd_G) (sz : Nat) (hp : pd_P) {v : Nat → Int} {σ τ : Int → Int} (hR : hp 178 = RO v) (h_now : hp 188 = ia 90 σ) (h_tried : hp 193 = ia 90 τ) : pd_c G mR_take 0 [vr 178] sz hp (fun v' sz' hp' => v' = none ∧ sz' = sz ∧ hp' = va_up hp 193 (ia 90 σ)) := by
  refine pd_con kR_take [some (vr 178), none] rfl rfl (Nat.le_of_ble_eq_true rfl) ?_
  refine pt_ic eR_take_0 ?_
  refine pt_istore1 eR_take_1 rfl ?_
  refine lR_take G sz hp (τ := τ) hR h_now (fun hp0 he0 => ?_) 90 0 hp (by omega) (by omega) (by rw [blk_0]; exact pu_self h_tried)
  refine pt_ext (pg_s he0) (g := σ) (fun i h1 h2 => by rw [blk_in (by omega) (by omega), Int.sub_zero]) ?_
  rw [he0, bx_uu]
  refine pt_vret eR_take_26 (Nat.le_refl _) (Nat.le_refl _) ?_
  exact ⟨rfl, rfl, rfl⟩
def rr (us br ms σ : Int → Int) (g : Int) : Int := rsf (σ (2 + g)) (br (4 * σ 0 + g)) (ms (4 * σ 0 + g)) (us g)
def psf (us br ms σ : Int → Int) (n : Int) : Int → Int := fun i => if 2 ≤ i ∧ i < 2 + n then max 0 (rr us br ms σ (i - 2)) else if 6 ≤ i ∧ i < 6 + n then σ i + (if rr us br ms σ (i - 6) < 0 then 1 else 0) else σ i
def hnf (us br ms σ : Int → Int) : Nat → Int
  | 0 => 0
  | n + 1 => hnf us br ms σ n + (if rr us br ms σ n < 0 then 1 else 0)
def passf (us br ms σ : Int → Int) (gd : Int) : Int → Int := uI (psf us br ms σ gd) 0 (σ 0 + 1)
theorem psf_t {us br ms σ : Int → Int} {n : Int} (h : n < 4) : psf us br ms σ n (2 + n) = σ (2 + n) := by unfold psf; rw [if_neg (by omega), if_neg (by omega)]
theorem psf_0 {us br ms σ : Int → Int} {n : Int} : psf us br ms σ n 0 = σ 0 := by unfold psf; rw [if_neg (by omega), if_neg (by omega)]
theorem psf_1 {us br ms σ : Int → Int} {n : Int} : psf us br ms σ n 1 = σ 1 := by unfold psf; rw [if_neg (by omega), if_neg (by omega)]
theorem psf_l {us br ms σ : Int → Int} {n : Int} (h : 0 ≤ n) : psf us br ms σ n (6 + n) = σ (6 + n) ∨ ¬ n ≤ 4 := by
  by_cases hn : n ≤ 4
  · left; unfold psf; rw [if_neg (by omega), if_neg (by omega)]
  · exact Or.inr hn
theorem psf_l2 {us br ms σ : Int → Int} {n : Int} (h : 0 ≤ n) (h2 : n < 4) : psf us br ms σ n (6 + n) = σ (6 + n) := by
  rcases psf_l (us := us) (br := br) (ms := ms) (σ := σ) h with h3 | h3
  · exact h3
  · omega
theorem psf_n0 (us br ms σ : Int → Int) : psf us br ms σ 0 = σ := by
  funext i; unfold psf; rw [if_neg (by omega), if_neg (by omega)]
theorem psf_s1 {us br ms σ : Int → Int} {n : Int} (h0 : 0 ≤ n) (h4 : n < 4) (h : rr us br ms σ n < 0) : uI (uI (psf us br ms σ n) (6 + n) (σ (6 + n) + 1)) (2 + n) 0 = psf us br ms σ (n + 1) := by
  funext i
  unfold uI psf
  by_cases h1 : i = 2 + n
  · subst h1
    rw [if_pos rfl, if_pos (by omega), show 2 + n - 2 = n by omega]
    omega
  · rw [if_neg h1]
    by_cases h2 : i = 6 + n
    · subst h2
      rw [if_pos rfl, if_neg (by omega), if_pos (by omega), show 6 + n - 6 = n by omega, if_pos h]
    · rw [if_neg h2]
      by_cases h3 : 2 ≤ i ∧ i < 2 + n
      · rw [if_pos h3, if_pos (by omega)]
      · rw [if_neg h3, if_neg (show ¬ (2 ≤ i ∧ i < 2 + (n + 1)) by omega)]
        by_cases h5 : 6 ≤ i ∧ i < 6 + n
        · rw [if_pos h5, if_pos (show 6 ≤ i ∧ i < 6 + (n + 1) by omega)]
        · rw [if_neg h5, if_neg (show ¬ (6 ≤ i ∧ i < 6 + (n + 1)) by omega)]
theorem psf_s2 {us br ms σ : Int → Int} {n z : Int} (h0 : 0 ≤ n) (h4 : n < 4) (h : ¬ rr us br ms σ n < 0) (hz : z = rr us br ms σ n) : uI (psf us br ms σ n) (2 + n) z = psf us br ms σ (n + 1) := by
  funext i
  unfold uI psf
  by_cases h1 : i = 2 + n
  · subst h1
    rw [if_pos rfl, if_pos (by omega), show 2 + n - 2 = n by omega]
    omega
  · rw [if_neg h1]
    by_cases h3 : 2 ≤ i ∧ i < 2 + n
    · rw [if_pos h3, if_pos (by omega)]
    · rw [if_neg h3, if_neg (show ¬ (2 ≤ i ∧ i < 2 + (n + 1)) by omega)]
      by_cases h5 : 6 ≤ i ∧ i < 6 + n
      · rw [if_pos h5, if_pos (show 6 ≤ i ∧ i < 6 + (n + 1) by omega)]
      · rw [if_neg h5]
        by_cases h2 : i = 6 + n
        · subst h2
          rw [if_pos (by omega), show 6 + n - 6 = n by omega, if_neg h, Int.add_zero]
        · rw [if_neg (by omega)]
theorem hnf_y {us br ms σ : Int → Int} {i : Int} (h0 : 0 ≤ i) (h : rr us br ms σ i < 0) : hnf us br ms σ i.toNat + 1 = hnf us br ms σ (i + 1).toNat := by
  rw [show (i + 1).toNat = i.toNat + 1 by omega, hnf, Int.toNat_of_nonneg h0, if_pos h]
theorem hnf_n {us br ms σ : Int → Int} {i : Int} (h0 : 0 ≤ i) (h : ¬ rr us br ms σ i < 0) : hnf us br ms σ i.toNat = hnf us br ms σ (i + 1).toNat := by
  rw [show (i + 1).toNat = i.toNat + 1 by omega, hnf, Int.toNat_of_nonneg h0, if_neg h, Int.add_zero]
def okB (br : Int → Int) : Prop := ∀ k, 0 ≤ k → k < 80 → 0 ≤ br k ∧ br k ≤ 30
def okU (gd : Int) (us : Int → Int) : Prop := ∀ k, 0 ≤ k → k < gd → 0 ≤ us k ∧ us k ≤ 9
def okT (σ : Int → Int) : Prop := ∀ g, 0 ≤ g → g < 4 → 0 ≤ σ (2 + g) ∧ σ (2 + g) ≤ 999
def okS (ms σ : Int → Int) : Prop := 0 ≤ σ 0 ∧ σ 0 ≤ 20 ∧ (σ 1 = 0 ∨ σ 1 = 1) ∧ okT σ ∧ ∀ k, 0 ≤ k → k < 80 → 0 ≤ σ (10 + k) ∧ σ (10 + k) ≤ ms k
theorem lR_passOn (G : pd_G) (sz : Nat) (hp : pd_P) {v : Nat → Int} {gf br ms us σ : Int → Int} {A : Nat} (hAA : A = 188 ∨ A = 193) (hR : hp 178 = RO v) (h_goods : hp 181 = ia 2 gf) (h_brought : hp 186 = ia 160 br) (h_missed : hp 187 = ia 160 ms) (h_use : hp 183 = ia 8 us) (hg0 : 0 ≤ gf 0) (hg4 : gf 0 ≤ 4) (hb : okB br) (hm : okB ms) (hu : okU (gf 0) us) (hT : okT σ) (hd0 : 0 ≤ σ 0) (hd1 : σ 0 < 20) {R : pd_R} (hx : ∀ (l4 : Option pv) (hp0 : pd_P), hp0 = (va_up hp (A) (ia 90 (psf us br ms σ (gf 0)))) → pd_t G mR_passOn 1 R 110 [some (vr 178), some (vr A), some (vi (hnf us br ms σ (gf 0).toNat)), some (vi (gf 0)), l4] [] sz hp0) : ∀ (n : Nat) (i : Int) (l4 : Option pv) (hp0 : pd_P), 0 ≤ i → i + n = gf 0 → hp0 = (va_up hp (A) (ia 90 (psf us br ms σ (i)))) → pd_t G mR_passOn 1 R 4 [some (vr 178), some (vr A), some (vi (hnf us br ms σ (i).toNat)), some (vi (i)), l4] [] sz hp0 := by
  intro n
  induction n with
  | zero =>
    intro i l4 hp0 hi0 hiE he0
    have hiE2 : gf 0 = i := by omega
    subst hiE2
    have hx2 := hx l4 hp0 he0
    have hR := pg_n he0 (by omega) hR
    have h_goods := pg_n he0 (by omega) h_goods
    have h_brought := pg_n he0 (by omega) h_brought
    have h_missed := pg_n he0 (by omega) h_missed
    have h_use := pg_n he0 (by omega) h_use
    have h_A := pg_s he0
    refine pt_iload eR_passOn_4 rfl ?_
    refine pt_aload eR_passOn_5 rfl ?_
    refine pt_get eR_passOn_6 hR rfl ?_
    refine pt_ic eR_passOn_9 ?_
    refine pt_iald eR_passOn_10 h_goods (by omega) (by omega) (by decide) ?_
    refine pt_cge eR_passOn_11 ⟨by omega, by omega⟩ ⟨by omega, by omega⟩ (fun c11 => ?_) (fun c11 => ?_)
    · exact hx2
    · exfalso; omega
  | succ n ih =>
    intro i l4 hp0 hi0 hiE he0
    have hR := pg_n he0 (by omega) hR
    have h_goods := pg_n he0 (by omega) h_goods
    have h_brought := pg_n he0 (by omega) h_brought
    have h_missed := pg_n he0 (by omega) h_missed
    have h_use := pg_n he0 (by omega) h_use
    have h_A := pg_s he0
    refine pt_iload eR_passOn_4 rfl ?_
    refine pt_aload eR_passOn_5 rfl ?_
    refine pt_get eR_passOn_6 hR rfl ?_
    refine pt_ic eR_passOn_9 ?_
    refine pt_iald eR_passOn_10 h_goods (by omega) (by omega) (by decide) ?_
    refine pt_cge eR_passOn_11 ⟨by omega, by omega⟩ ⟨by omega, by omega⟩ (fun c11 => ?_) (fun c11 => ?_)
    · exfalso; omega
    · have hb1 := hb (4 * σ 0 + i) (by omega) (by omega)
      have hm1 := hm (4 * σ 0 + i) (by omega) (by omega)
      have hu1 := hu i (by omega) (by omega)
      have hT1 := hT i (by omega) (by omega)
      have hrr : rr us br ms σ i = max 0 (min (σ (2 + i) + br (4 * σ 0 + i)) 999 - ms (4 * σ 0 + i)) - us i := rfl
      refine pt_aload eR_passOn_14 rfl ?_
      refine pt_ic eR_passOn_15 ?_
      refine pt_iload eR_passOn_16 rfl ?_
      refine pt_iadd eR_passOn_17 ?_
      refine pt_iald eR_passOn_18 h_A (by omega) (by omega) (by decide) ?_
      rw [psf_t (by omega)]
      refine pt_aload eR_passOn_19 rfl ?_
      refine pt_get eR_passOn_20 hR rfl ?_
      refine pt_ic eR_passOn_23 ?_
      refine pt_aload eR_passOn_24 rfl ?_
      refine pt_ic eR_passOn_25 ?_
      refine pt_iald eR_passOn_26 h_A (by omega) (by omega) (by decide) ?_
      rw [psf_0]
      refine pt_imul eR_passOn_27 ?_
      refine pt_iload eR_passOn_28 rfl ?_
      refine pt_iadd eR_passOn_29 ?_
      refine pt_iald eR_passOn_30 h_brought (by omega) (by omega) (by decide) ?_
      refine pt_iadd eR_passOn_31 ?_
      refine pt_ks1r eR_passOn_32 (cR_atMost G sz _ ⟨by omega, by omega⟩) (Nat.le_of_ble_eq_true rfl) (by decide) (Nat.le_refl _) (Nat.le_refl _) ?_
      refine pt_aload eR_passOn_35 rfl ?_
      refine pt_get eR_passOn_36 hR rfl ?_
      refine pt_ic eR_passOn_39 ?_
      refine pt_aload eR_passOn_40 rfl ?_
      refine pt_ic eR_passOn_41 ?_
      refine pt_iald eR_passOn_42 h_A (by omega) (by omega) (by decide) ?_
      rw [psf_0]
      refine pt_imul eR_passOn_43 ?_
      refine pt_iload eR_passOn_44 rfl ?_
      refine pt_iadd eR_passOn_45 ?_
      refine pt_iald eR_passOn_46 h_missed (by omega) (by omega) (by decide) ?_
      refine pt_isub eR_passOn_47 ?_
      refine pt_istore4 eR_passOn_48 rfl ?_
      refine pt_iload eR_passOn_50 rfl ?_
      refine pt_zge eR_passOn_52 ⟨by omega, by omega⟩ (fun c52 => ?_) (fun c52 => ?_)
      · refine pt_iload eR_passOn_59 rfl ?_
        refine pt_aload eR_passOn_61 rfl ?_
        refine pt_get eR_passOn_62 hR rfl ?_
        refine pt_iload eR_passOn_65 rfl ?_
        refine pt_iald eR_passOn_66 h_use (by omega) (by omega) (by decide) ?_
        refine pt_isub eR_passOn_67 ?_
        refine pt_istore4 eR_passOn_68 rfl ?_
        refine pt_iload eR_passOn_70 rfl ?_
        refine pt_zge eR_passOn_72 ⟨by omega, by omega⟩ (fun c72 => ?_) (fun c72 => ?_)
        · refine pt_aload eR_passOn_88 rfl ?_
          refine pt_ic eR_passOn_89 ?_
          refine pt_iload eR_passOn_90 rfl ?_
          refine pt_iadd eR_passOn_91 ?_
          refine pt_iload eR_passOn_92 rfl ?_
          refine pt_zge eR_passOn_94 ⟨by omega, by omega⟩ (fun c94 => ?_) (fun c94 => ?_)
          · refine pt_iload eR_passOn_101 rfl ?_
            refine pt_iast eR_passOn_103 h_A (by omega) (by omega) (by decide) ?_
            refine pt_gen ?_
            intro hp1 ev1
            have hR := pg_n ev1 (by omega) hR
            have h_goods := pg_n ev1 (by omega) h_goods
            have h_brought := pg_n ev1 (by omega) h_brought
            have h_missed := pg_n ev1 (by omega) h_missed
            have h_use := pg_n ev1 (by omega) h_use
            have h_A := pg_s ev1
            refine pt_inc3 eR_passOn_104 rfl ?_
            refine pt_goto eR_passOn_107 ?_
            have hfin : hp1 = (va_up hp (A) (ia 90 (psf us br ms σ ((i + 1))))) := by
              rw [ev1, he0]
              first | (exfalso; omega) | (rw [bx_uu, bx_uu, psf_s1 (by omega) (by omega) (by omega)]; done) | (rw [bx_uu, psf_s2 (by omega) (by omega) (by omega) (by omega)]; done)
            first | rw [hnf_y hi0 (by omega)] | rw [hnf_n hi0 (by omega)]
            exact ih (i + 1) _ _ (by omega) (by omega) hfin 
          · refine pt_ic eR_passOn_97 ?_
            refine pt_goto eR_passOn_98 ?_
            refine pt_iast eR_passOn_103 h_A (by omega) (by omega) (by decide) ?_
            refine pt_gen ?_
            intro hp2 ev2
            have hR := pg_n ev2 (by omega) hR
            have h_goods := pg_n ev2 (by omega) h_goods
            have h_brought := pg_n ev2 (by omega) h_brought
            have h_missed := pg_n ev2 (by omega) h_missed
            have h_use := pg_n ev2 (by omega) h_use
            have h_A := pg_s ev2
            refine pt_inc3 eR_passOn_104 rfl ?_
            refine pt_goto eR_passOn_107 ?_
            have hfin : hp2 = (va_up hp (A) (ia 90 (psf us br ms σ ((i + 1))))) := by
              rw [ev2, he0]
              first | (exfalso; omega) | (rw [bx_uu, bx_uu, psf_s1 (by omega) (by omega) (by omega)]; done) | (rw [bx_uu, psf_s2 (by omega) (by omega) (by omega) (by omega)]; done)
            first | rw [hnf_y hi0 (by omega)] | rw [hnf_n hi0 (by omega)]
            exact ih (i + 1) _ _ (by omega) (by omega) hfin 
        · refine pt_aload eR_passOn_75 rfl ?_
          refine pt_ic eR_passOn_76 ?_
          refine pt_iload eR_passOn_78 rfl ?_
          refine pt_iadd eR_passOn_79 ?_
          refine pt_dup2 eR_passOn_80 ?_
          refine pt_iald eR_passOn_81 h_A (by omega) (by omega) (by decide) ?_
          rw [psf_l2 (by omega) (by omega)]
          refine pt_ic eR_passOn_82 ?_
          refine pt_iadd eR_passOn_83 ?_
          refine pt_iast eR_passOn_84 h_A (by omega) (by omega) (by decide) ?_
          refine pt_gen ?_
          intro hp3 ev3
          have hR := pg_n ev3 (by omega) hR
          have h_goods := pg_n ev3 (by omega) h_goods
          have h_brought := pg_n ev3 (by omega) h_brought
          have h_missed := pg_n ev3 (by omega) h_missed
          have h_use := pg_n ev3 (by omega) h_use
          have h_A := pg_s ev3
          refine pt_inc2 eR_passOn_85 rfl ?_
          refine pt_aload eR_passOn_88 rfl ?_
          refine pt_ic eR_passOn_89 ?_
          refine pt_iload eR_passOn_90 rfl ?_
          refine pt_iadd eR_passOn_91 ?_
          refine pt_iload eR_passOn_92 rfl ?_
          refine pt_zge eR_passOn_94 ⟨by omega, by omega⟩ (fun c94 => ?_) (fun c94 => ?_)
          · refine pt_iload eR_passOn_101 rfl ?_
            refine pt_iast eR_passOn_103 h_A (by omega) (by omega) (by decide) ?_
            refine pt_gen ?_
            intro hp4 ev4
            have hR := pg_n ev4 (by omega) hR
            have h_goods := pg_n ev4 (by omega) h_goods
            have h_brought := pg_n ev4 (by omega) h_brought
            have h_missed := pg_n ev4 (by omega) h_missed
            have h_use := pg_n ev4 (by omega) h_use
            have h_A := pg_s ev4
            refine pt_inc3 eR_passOn_104 rfl ?_
            refine pt_goto eR_passOn_107 ?_
            have hfin : hp4 = (va_up hp (A) (ia 90 (psf us br ms σ ((i + 1))))) := by
              rw [ev4, ev3, he0]
              first | (exfalso; omega) | (rw [bx_uu, bx_uu, psf_s1 (by omega) (by omega) (by omega)]; done) | (rw [bx_uu, psf_s2 (by omega) (by omega) (by omega) (by omega)]; done)
            first | rw [hnf_y hi0 (by omega)] | rw [hnf_n hi0 (by omega)]
            exact ih (i + 1) _ _ (by omega) (by omega) hfin 
          · refine pt_ic eR_passOn_97 ?_
            refine pt_goto eR_passOn_98 ?_
            refine pt_iast eR_passOn_103 h_A (by omega) (by omega) (by decide) ?_
            refine pt_gen ?_
            intro hp5 ev5
            have hR := pg_n ev5 (by omega) hR
            have h_goods := pg_n ev5 (by omega) h_goods
            have h_brought := pg_n ev5 (by omega) h_brought
            have h_missed := pg_n ev5 (by omega) h_missed
            have h_use := pg_n ev5 (by omega) h_use
            have h_A := pg_s ev5
            refine pt_inc3 eR_passOn_104 rfl ?_
            refine pt_goto eR_passOn_107 ?_
            have hfin : hp5 = (va_up hp (A) (ia 90 (psf us br ms σ ((i + 1))))) := by
              rw [ev5, ev3, he0]
              first | (exfalso; omega) | (rw [bx_uu, bx_uu, psf_s1 (by omega) (by omega) (by omega)]; done) | (rw [bx_uu, psf_s2 (by omega) (by omega) (by omega) (by omega)]; done)
            first | rw [hnf_y hi0 (by omega)] | rw [hnf_n hi0 (by omega)]
            exact ih (i + 1) _ _ (by omega) (by omega) hfin 
      · refine pt_ic eR_passOn_55 ?_
        refine pt_goto eR_passOn_56 ?_
        refine pt_aload eR_passOn_61 rfl ?_
        refine pt_get eR_passOn_62 hR rfl ?_
        refine pt_iload eR_passOn_65 rfl ?_
        refine pt_iald eR_passOn_66 h_use (by omega) (by omega) (by decide) ?_
        refine pt_isub eR_passOn_67 ?_
        refine pt_istore4 eR_passOn_68 rfl ?_
        refine pt_iload eR_passOn_70 rfl ?_
        refine pt_zge eR_passOn_72 ⟨by omega, by omega⟩ (fun c72 => ?_) (fun c72 => ?_)
        · refine pt_aload eR_passOn_88 rfl ?_
          refine pt_ic eR_passOn_89 ?_
          refine pt_iload eR_passOn_90 rfl ?_
          refine pt_iadd eR_passOn_91 ?_
          refine pt_iload eR_passOn_92 rfl ?_
          refine pt_zge eR_passOn_94 ⟨by omega, by omega⟩ (fun c94 => ?_) (fun c94 => ?_)
          · refine pt_iload eR_passOn_101 rfl ?_
            refine pt_iast eR_passOn_103 h_A (by omega) (by omega) (by decide) ?_
            refine pt_gen ?_
            intro hp6 ev6
            have hR := pg_n ev6 (by omega) hR
            have h_goods := pg_n ev6 (by omega) h_goods
            have h_brought := pg_n ev6 (by omega) h_brought
            have h_missed := pg_n ev6 (by omega) h_missed
            have h_use := pg_n ev6 (by omega) h_use
            have h_A := pg_s ev6
            refine pt_inc3 eR_passOn_104 rfl ?_
            refine pt_goto eR_passOn_107 ?_
            have hfin : hp6 = (va_up hp (A) (ia 90 (psf us br ms σ ((i + 1))))) := by
              rw [ev6, he0]
              first | (exfalso; omega) | (rw [bx_uu, bx_uu, psf_s1 (by omega) (by omega) (by omega)]; done) | (rw [bx_uu, psf_s2 (by omega) (by omega) (by omega) (by omega)]; done)
            first | rw [hnf_y hi0 (by omega)] | rw [hnf_n hi0 (by omega)]
            exact ih (i + 1) _ _ (by omega) (by omega) hfin 
          · refine pt_ic eR_passOn_97 ?_
            refine pt_goto eR_passOn_98 ?_
            refine pt_iast eR_passOn_103 h_A (by omega) (by omega) (by decide) ?_
            refine pt_gen ?_
            intro hp7 ev7
            have hR := pg_n ev7 (by omega) hR
            have h_goods := pg_n ev7 (by omega) h_goods
            have h_brought := pg_n ev7 (by omega) h_brought
            have h_missed := pg_n ev7 (by omega) h_missed
            have h_use := pg_n ev7 (by omega) h_use
            have h_A := pg_s ev7
            refine pt_inc3 eR_passOn_104 rfl ?_
            refine pt_goto eR_passOn_107 ?_
            have hfin : hp7 = (va_up hp (A) (ia 90 (psf us br ms σ ((i + 1))))) := by
              rw [ev7, he0]
              first | (exfalso; omega) | (rw [bx_uu, bx_uu, psf_s1 (by omega) (by omega) (by omega)]; done) | (rw [bx_uu, psf_s2 (by omega) (by omega) (by omega) (by omega)]; done)
            first | rw [hnf_y hi0 (by omega)] | rw [hnf_n hi0 (by omega)]
            exact ih (i + 1) _ _ (by omega) (by omega) hfin 
        · refine pt_aload eR_passOn_75 rfl ?_
          refine pt_ic eR_passOn_76 ?_
          refine pt_iload eR_passOn_78 rfl ?_
          refine pt_iadd eR_passOn_79 ?_
          refine pt_dup2 eR_passOn_80 ?_
          refine pt_iald eR_passOn_81 h_A (by omega) (by omega) (by decide) ?_
          rw [psf_l2 (by omega) (by omega)]
          refine pt_ic eR_passOn_82 ?_
          refine pt_iadd eR_passOn_83 ?_
          refine pt_iast eR_passOn_84 h_A (by omega) (by omega) (by decide) ?_
          refine pt_gen ?_
          intro hp8 ev8
          have hR := pg_n ev8 (by omega) hR
          have h_goods := pg_n ev8 (by omega) h_goods
          have h_brought := pg_n ev8 (by omega) h_brought
          have h_missed := pg_n ev8 (by omega) h_missed
          have h_use := pg_n ev8 (by omega) h_use
          have h_A := pg_s ev8
          refine pt_inc2 eR_passOn_85 rfl ?_
          refine pt_aload eR_passOn_88 rfl ?_
          refine pt_ic eR_passOn_89 ?_
          refine pt_iload eR_passOn_90 rfl ?_
          refine pt_iadd eR_passOn_91 ?_
          refine pt_iload eR_passOn_92 rfl ?_
          refine pt_zge eR_passOn_94 ⟨by omega, by omega⟩ (fun c94 => ?_) (fun c94 => ?_)
          · refine pt_iload eR_passOn_101 rfl ?_
            refine pt_iast eR_passOn_103 h_A (by omega) (by omega) (by decide) ?_
            refine pt_gen ?_
            intro hp9 ev9
            have hR := pg_n ev9 (by omega) hR
            have h_goods := pg_n ev9 (by omega) h_goods
            have h_brought := pg_n ev9 (by omega) h_brought
            have h_missed := pg_n ev9 (by omega) h_missed
            have h_use := pg_n ev9 (by omega) h_use
            have h_A := pg_s ev9
            refine pt_inc3 eR_passOn_104 rfl ?_
            refine pt_goto eR_passOn_107 ?_
            have hfin : hp9 = (va_up hp (A) (ia 90 (psf us br ms σ ((i + 1))))) := by
              rw [ev9, ev8, he0]
              first | (exfalso; omega) | (rw [bx_uu, bx_uu, psf_s1 (by omega) (by omega) (by omega)]; done) | (rw [bx_uu, psf_s2 (by omega) (by omega) (by omega) (by omega)]; done)
            first | rw [hnf_y hi0 (by omega)] | rw [hnf_n hi0 (by omega)]
            exact ih (i + 1) _ _ (by omega) (by omega) hfin 
          · refine pt_ic eR_passOn_97 ?_
            refine pt_goto eR_passOn_98 ?_
            refine pt_iast eR_passOn_103 h_A (by omega) (by omega) (by decide) ?_
            refine pt_gen ?_
            intro hp10 ev10
            have hR := pg_n ev10 (by omega) hR
            have h_goods := pg_n ev10 (by omega) h_goods
            have h_brought := pg_n ev10 (by omega) h_brought
            have h_missed := pg_n ev10 (by omega) h_missed
            have h_use := pg_n ev10 (by omega) h_use
            have h_A := pg_s ev10
            refine pt_inc3 eR_passOn_104 rfl ?_
            refine pt_goto eR_passOn_107 ?_
            have hfin : hp10 = (va_up hp (A) (ia 90 (psf us br ms σ ((i + 1))))) := by
              rw [ev10, ev8, he0]
              first | (exfalso; omega) | (rw [bx_uu, bx_uu, psf_s1 (by omega) (by omega) (by omega)]; done) | (rw [bx_uu, psf_s2 (by omega) (by omega) (by omega) (by omega)]; done)
            first | rw [hnf_y hi0 (by omega)] | rw [hnf_n hi0 (by omega)]
            exact ih (i + 1) _ _ (by omega) (by omega) hfin 
theorem cR_passOn (G : pd_G) (sz : Nat) (hp : pd_P) {v : Nat → Int} {gf br ms us σ : Int → Int} {A : Nat} (hAA : A = 188 ∨ A = 193) (hR : hp 178 = RO v) (h_goods : hp 181 = ia 2 gf) (h_brought : hp 186 = ia 160 br) (h_missed : hp 187 = ia 160 ms) (h_use : hp 183 = ia 8 us) (hg0 : 0 ≤ gf 0) (hg4 : gf 0 ≤ 4) (hb : okB br) (hm : okB ms) (hu : okU (gf 0) us) (hT : okT σ) (hd0 : 0 ≤ σ 0) (hd1 : σ 0 < 20) (h_A : hp A = ia 90 σ) : pd_c G mR_passOn 1 [vr 178, vr A] sz hp (fun v' sz' hp' => v' = some (vi (hnf us br ms σ (gf 0).toNat)) ∧ sz' = sz ∧ hp' = va_up hp A (ia 90 (passf us br ms σ (gf 0)))) := by
  refine pd_con kR_passOn [some (vr 178), some (vr A), none, none, none] rfl rfl (Nat.le_of_ble_eq_true rfl) ?_
  refine pt_ic eR_passOn_0 ?_
  refine pt_istore2 eR_passOn_1 rfl ?_
  refine pt_ic eR_passOn_2 ?_
  refine pt_istore3 eR_passOn_3 rfl ?_
  refine lR_passOn G sz hp hAA hR h_goods h_brought h_missed h_use hg0 hg4 hb hm hu hT hd0 hd1 (fun l4 hp0 he0 => ?_) (gf 0).toNat 0 none hp (by omega) (by omega) (by rw [psf_n0]; exact pu_self h_A)
  have h_A := pg_s he0
  refine pt_aload eR_passOn_110 rfl ?_
  refine pt_ic eR_passOn_111 ?_
  refine pt_dup2 eR_passOn_112 ?_
  refine pt_iald eR_passOn_113 h_A (by omega) (by omega) (by decide) ?_
  refine pt_ic eR_passOn_114 ?_
  refine pt_iadd eR_passOn_115 ?_
  refine pt_iast eR_passOn_116 h_A (by omega) (by omega) (by decide) ?_
  refine pt_gen ?_
  intro hp1 ev1
  have h_A := pg_s ev1
  refine pt_iload eR_passOn_117 rfl ?_
  refine pt_iret eR_passOn_118 (Nat.le_refl _) (Nat.le_refl _) ?_
  exact ⟨rfl, rfl, by rw [ev1, he0, bx_uu, psf_0]; rfl⟩
