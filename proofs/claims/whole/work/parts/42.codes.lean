/-! rows of choices: codes, the fewest takings, the bound -/
theorem p5_pos (m : Nat) : 0 < 5 ^ m := Nat.pow_pos (by decide)
def lks (s : Int → Int) : Nat → Int
  | 0 => 0
  | n + 1 => lks s n + (if s n = -1 then 1 else 0)
theorem lks_b {s : Int → Int} : ∀ n : Nat, 0 ≤ lks s n ∧ lks s n ≤ n
  | 0 => ⟨Int.le_refl _, Int.le_refl _⟩
  | n + 1 => by
    have h := lks_b (s := s) n
    rw [lks]
    split <;> omega
theorem lks_0 {s : Int → Int} : ∀ n : Nat, lks s n = 0 → ∀ g : Nat, g < n → s g ≠ -1
  | 0, _, g, hg => absurd hg (by omega)
  | n + 1, h, g, hg => by
    have hb := lks_b (s := s) n
    rw [lks] at h
    by_cases h1 : s n = -1
    · rw [if_pos h1] at h; omega
    · rw [if_neg h1] at h
      rcases (show g = n ∨ g < n by omega) with h2 | h2
      · rw [h2]; exact h1
      · exact lks_0 n (by omega) g h2
theorem lks_1 {s : Int → Int} : ∀ n : Nat, (∀ g : Nat, g < n → s g ≠ -1) → lks s n = 0
  | 0, _ => rfl
  | n + 1, h => by rw [lks, if_neg (h n (by omega)), lks_1 n (fun g hg => h g (by omega))]; rfl
theorem lks_x {s : Int → Int} {n g : Nat} (hg : g < n) (h : s g = -1) : 0 < lks s n := by
  have hb := lks_b (s := s) n
  rcases (show lks s n = 0 ∨ 0 < lks s n by omega) with h1 | h1
  · exact absurd h (lks_0 n h1 g hg)
  · exact h1
abbrev NX : Type := Int → Int → Int → Int → Int
def nxs (N : NX) (l : Int) (s : Int → Int) (c : Int) : Int → Int := fun g => N l g (if g = c then 1 else 0) (s g)
def cst (c : Int) : Int := if c < 0 then 0 else 1
def fv (N : NX) (gd : Int) : Nat → Int → (Int → Int) → Nat → Int
  | 0, _, s, _ => if lks s gd.toNat = 0 then 0 else -9
  | m + 1, l, s, x => if gd ≤ ((x / 5 ^ m % 5 : Nat) : Int) - 1 then -9 else if fv N gd m (l + 1) (nxs N l s (((x / 5 ^ m % 5 : Nat) : Int) - 1)) x = -9 then -9 else fv N gd m (l + 1) (nxs N l s (((x / 5 ^ m % 5 : Nat) : Int) - 1)) x + cst (((x / 5 ^ m % 5 : Nat) : Int) - 1)
theorem cst_b (c : Int) : 0 ≤ cst c ∧ cst c ≤ 1 := by unfold cst; split <;> omega
theorem fv_b {N : NX} {gd : Int} : ∀ (m : Nat) (l : Int) (s : Int → Int) (x : Nat), fv N gd m l s x = -9 ∨ (0 ≤ fv N gd m l s x ∧ fv N gd m l s x ≤ m)
  | 0, l, s, x => by
    rw [fv]
    split
    · exact Or.inr ⟨Int.le_refl _, Int.le_refl _⟩
    · exact Or.inl rfl
  | m + 1, l, s, x => by
    rw [fv]
    split
    · exact Or.inl rfl
    · split
      · exact Or.inl rfl
      · rename_i h1 h2
        have h3 := cst_b (((x / 5 ^ m % 5 : Nat) : Int) - 1)
        rcases fv_b (N := N) (gd := gd) m (l + 1) (nxs N l s (((x / 5 ^ m % 5 : Nat) : Int) - 1)) x with h4 | h4
        · exact absurd h4 h2
        · exact Or.inr ⟨by omega, by omega⟩
theorem fv_lk {N : NX} {gd : Int} (hN : ∀ l g b, N l g b (-1) = -1) : ∀ (m : Nat) (l : Int) (s : Int → Int) (x : Nat), 0 < lks s gd.toNat → fv N gd m l s x = -9
  | 0, l, s, x, h => by rw [fv, if_neg (by omega)]
  | m + 1, l, s, x, h => by
    rw [fv]
    split
    · rfl
    · have h2 : 0 < lks (nxs N l s (((x / 5 ^ m % 5 : Nat) : Int) - 1)) gd.toNat := by
        rcases (show lks (nxs N l s (((x / 5 ^ m % 5 : Nat) : Int) - 1)) gd.toNat = 0 ∨ 0 < lks (nxs N l s (((x / 5 ^ m % 5 : Nat) : Int) - 1)) gd.toNat by have := lks_b (s := nxs N l s (((x / 5 ^ m % 5 : Nat) : Int) - 1)) gd.toNat; omega) with h0 | h0
        · exfalso
          have h3 := lks_0 _ h0
          have h4 : lks s gd.toNat = 0 := lks_1 _ (fun g hg he => h3 g hg (by unfold nxs; rw [he]; exact hN _ _ _))
          omega
        · exact h0
      rw [if_pos (fv_lk hN m (l + 1) _ x h2)]
theorem fv_mod {N : NX} {gd : Int} : ∀ (m : Nat) (l : Int) (s : Int → Int) (x y : Nat), x % 5 ^ m = y % 5 ^ m → fv N gd m l s x = fv N gd m l s y
  | 0, l, s, x, y, h => rfl
  | m + 1, l, s, x, y, h => by
    have e1 : x / 5 ^ m % 5 = y / 5 ^ m % 5 := by
      rw [Nat.pow_succ] at h
      rw [← Nat.mod_mul_right_div_self, ← Nat.mod_mul_right_div_self, h]
    have e2 : x % 5 ^ m = y % 5 ^ m := by
      rw [Nat.pow_succ] at h
      rw [← Nat.mod_mul_right_mod x (5 ^ m) 5, ← Nat.mod_mul_right_mod y (5 ^ m) 5, h]
    rw [fv, fv, e1, fv_mod m (l + 1) _ x y e2]
/-- a code's head and rest -/
theorem fv_cons {N : NX} {gd c : Int} {m y : Nat} {l : Int} {s : Int → Int} (h0 : -1 ≤ c) (h1 : c < gd) (h4 : gd ≤ 4) (hy : y < 5 ^ m) : fv N gd (m + 1) l s ((c + 1).toNat * 5 ^ m + y) = if fv N gd m (l + 1) (nxs N l s c) y = -9 then -9 else fv N gd m (l + 1) (nxs N l s c) y + cst c := by
  have hp := p5_pos m
  have e1 : ((c + 1).toNat * 5 ^ m + y) / 5 ^ m % 5 = (c + 1).toNat := by
    rw [Nat.mul_comm, Nat.mul_add_div hp, Nat.div_eq_of_lt hy, Nat.add_zero, Nat.mod_eq_of_lt (by omega)]
  have e2 : (((c + 1).toNat : Nat) : Int) - 1 = c := by omega
  rw [fv, e1, e2, if_neg (by omega), fv_mod m (l + 1) (nxs N l s c) ((c + 1).toNat * 5 ^ m + y) y (by rw [Nat.mul_comm, Nat.mul_add_mod])]
def hv (N : NX) (gd : Int) (m : Nat) (l : Int) (s : Int → Int) (t : Int) (x : Nat) : Int := if fv N gd m l s x = -9 ∨ t < fv N gd m l s x then 0 else 1
def fnn (h : Nat → Int) : Nat → Nat → Nat
  | 0, a => a
  | n + 1, a => if 0 < h a then a else fnn h n (a + 1)
theorem fnn_sp {h : Nat → Int} : ∀ (n a : Nat), a ≤ fnn h n a ∧ fnn h n a ≤ a + n ∧ (fnn h n a < a + n → 0 < h (fnn h n a)) ∧ ∀ x, a ≤ x → x < fnn h n a → ¬ 0 < h x
  | 0, a => ⟨Nat.le_refl _, Nat.le_refl _, fun h0 => absurd (show a < a + 0 from h0) (by omega), fun x h0 h1 => absurd (show x < a from h1) (by omega)⟩
  | n + 1, a => by
    obtain ⟨s1, s2, s3, s4⟩ := fnn_sp (h := h) n (a + 1)
    rw [fnn]
    by_cases h0 : 0 < h a
    · rw [if_pos h0]
      exact ⟨Nat.le_refl _, by omega, fun _ => h0, fun x h1 h2 => absurd h2 (by omega)⟩
    · rw [if_neg h0]
      refine ⟨by omega, by omega, fun h1 => s3 (by omega), fun x h1 h2 => ?_⟩
      by_cases h3 : x = a
      · rw [h3]; exact h0
      · exact s4 x (by omega) h2
theorem fnn_un {h : Nat → Int} {n r : Nat} (h2 : r ≤ n) (h3 : r < n → 0 < h r) (h4 : ∀ x, x < r → ¬ 0 < h x) : fnn h n 0 = r := by
  obtain ⟨s1, s2, s3, s4⟩ := fnn_sp (h := h) n 0
  rcases (show fnn h n 0 < r ∨ r < fnn h n 0 ∨ fnn h n 0 = r by omega) with hc | hc | hc
  · exact absurd (s3 (by omega)) (h4 _ hc)
  · exact absurd (h3 (by omega)) (s4 _ (by omega) hc)
  · exact hc
/-- the first code with at most t takings; 5 ^ m, if there is none -/
def lfc (N : NX) (gd : Int) (m : Nat) (l : Int) (s : Int → Int) (t : Int) : Nat := fnn (hv N gd m l s t) (5 ^ m) 0
theorem lfc_le {N : NX} {gd : Int} {m : Nat} {l : Int} {s : Int → Int} {t : Int} : lfc N gd m l s t ≤ 5 ^ m := by
  obtain ⟨s1, s2, s3, s4⟩ := fnn_sp (h := hv N gd m l s t) (5 ^ m) 0
  unfold lfc
  omega
theorem hv_cons {N : NX} {gd c : Int} {m y : Nat} {l t : Int} {s : Int → Int} (h0 : -1 ≤ c) (h1 : c < gd) (h4 : gd ≤ 4) (hy : y < 5 ^ m) : hv N gd (m + 1) l s t ((c + 1).toNat * 5 ^ m + y) = hv N gd m (l + 1) (nxs N l s c) (t - cst c) y := by
  unfold hv
  rw [fv_cons h0 h1 h4 hy]
  by_cases hc : fv N gd m (l + 1) (nxs N l s c) y = -9
  · rw [if_pos hc, if_pos (Or.inl rfl), if_pos (Or.inl hc)]
  · rw [if_neg hc]
    have hb := fv_b (N := N) (gd := gd) m (l + 1) (nxs N l s c) y
    have hk := cst_b c
    by_cases hd : t < fv N gd m (l + 1) (nxs N l s c) y + cst c
    · rw [if_pos (Or.inr hd), if_pos (Or.inr (by omega))]
    · rw [if_neg (fun z => z.elim (fun z => by omega) hd), if_neg (fun z => z.elim hc (fun z => by omega))]
/-- a code that has a head below c, or one that is too large, is no row -/
theorem lfc_step {N : NX} {gd c : Int} {m : Nat} {l t : Int} {s : Int → Int} (h0 : -1 ≤ c) (h1 : c < gd) (h4 : gd ≤ 4) (hb : ∀ c1, -1 ≤ c1 → c1 < c → lfc N gd m (l + 1) (nxs N l s c1) (t - cst c1) = 5 ^ m) (hy : lfc N gd m (l + 1) (nxs N l s c) (t - cst c) < 5 ^ m) : lfc N gd (m + 1) l s t = (c + 1).toNat * 5 ^ m + lfc N gd m (l + 1) (nxs N l s c) (t - cst c) := by
  have hp := p5_pos m
  obtain ⟨s1, s2, s3, s4⟩ := fnn_sp (h := hv N gd m (l + 1) (nxs N l s c) (t - cst c)) (5 ^ m) 0
  have hc5 : (c + 1).toNat * 5 ^ m + 5 ^ m ≤ 5 ^ (m + 1) := by
    rw [Nat.pow_succ, ← Nat.succ_mul, Nat.mul_comm (5 ^ m) 5]
    exact Nat.mul_le_mul_right _ (by omega)
  refine fnn_un (by omega) (fun _ => ?_) (fun x hx hx2 => ?_)
  · rw [hv_cons h0 h1 h4 hy]
    exact s3 (by unfold lfc at hy; omega)
  · have hdm : x / 5 ^ m * 5 ^ m + x % 5 ^ m = x := by rw [Nat.mul_comm]; exact Nat.div_add_mod x (5 ^ m)
    have hml := Nat.mod_lt x hp
    have hq : x / 5 ^ m ≤ (c + 1).toNat := by
      rcases (show x / 5 ^ m ≤ (c + 1).toNat ∨ (c + 1).toNat + 1 ≤ x / 5 ^ m by omega) with h9 | h9
      · exact h9
      · exfalso
        have h8 := Nat.mul_le_mul_right (5 ^ m) h9
        rw [Nat.succ_mul] at h8
        omega
    rcases (show x / 5 ^ m = (c + 1).toNat ∨ x / 5 ^ m < (c + 1).toNat by omega) with h9 | h9
    · rw [h9] at hdm
      rw [← hdm, hv_cons h0 h1 h4 hml] at hx2
      exact s4 _ (by omega) (by show x % 5 ^ m < lfc N gd m (l + 1) (nxs N l s c) (t - cst c); omega) hx2
    · have hq1 : (0 : Int) ≤ ((x / 5 ^ m : Nat) : Int) := Int.natCast_nonneg _
      have he : ((((x / 5 ^ m : Nat) : Int) - 1) + 1).toNat = x / 5 ^ m := by omega
      have hq0 : (0 : Int) ≤ ((x / 5 ^ m : Nat) : Int) := Int.natCast_nonneg _
      have h7 := hb (((x / 5 ^ m : Nat) : Int) - 1) (by omega) (by omega)
      obtain ⟨r1, r2, r3, r4⟩ := fnn_sp (h := hv N gd m (l + 1) (nxs N l s (((x / 5 ^ m : Nat) : Int) - 1)) (t - cst (((x / 5 ^ m : Nat) : Int) - 1))) (5 ^ m) 0
      rw [← hdm, ← he, hv_cons (by omega) (by omega) h4 hml] at hx2
      exact r4 _ (by omega) (by unfold lfc at h7; rw [h7]; exact hml) hx2
theorem lfc_fail {N : NX} {gd : Int} {m : Nat} {l t : Int} {s : Int → Int} (h4 : gd ≤ 4) (hb : ∀ c1, -1 ≤ c1 → c1 < gd → lfc N gd m (l + 1) (nxs N l s c1) (t - cst c1) = 5 ^ m) : lfc N gd (m + 1) l s t = 5 ^ (m + 1) := by
  have hp := p5_pos m
  refine fnn_un (Nat.le_refl _) (fun h => absurd h (by omega)) (fun x hx hx2 => ?_)
  have hdm : x / 5 ^ m * 5 ^ m + x % 5 ^ m = x := by rw [Nat.mul_comm]; exact Nat.div_add_mod x (5 ^ m)
  have hml := Nat.mod_lt x hp
  have hq : x / 5 ^ m < 5 := by
    rw [Nat.div_lt_iff_lt_mul hp]
    rw [Nat.pow_succ] at hx
    omega
  rcases (show ((x / 5 ^ m : Nat) : Int) - 1 < gd ∨ gd ≤ ((x / 5 ^ m : Nat) : Int) - 1 by omega) with h9 | h9
  · have hq0 : (0 : Int) ≤ ((x / 5 ^ m : Nat) : Int) := Int.natCast_nonneg _
    have he : ((((x / 5 ^ m : Nat) : Int) - 1) + 1).toNat = x / 5 ^ m := by omega
    have h7 := hb (((x / 5 ^ m : Nat) : Int) - 1) (by omega) h9
    obtain ⟨r1, r2, r3, r4⟩ := fnn_sp (h := hv N gd m (l + 1) (nxs N l s (((x / 5 ^ m : Nat) : Int) - 1)) (t - cst (((x / 5 ^ m : Nat) : Int) - 1))) (5 ^ m) 0
    rw [← hdm, ← he, hv_cons (by omega) (by omega) h4 hml] at hx2
    exact r4 _ (by omega) (by unfold lfc at h7; rw [h7]; exact hml) hx2
  · have e9 : fv N gd (m + 1) l s x = -9 := by rw [fv, Nat.mod_eq_of_lt hq, if_pos h9]
    unfold hv at hx2
    rw [if_pos (Or.inl e9)] at hx2
    omega
/-- how many takings a good wants by itself -/
def wn (N : NX) (g : Int) : Nat → Int → Int → Int
  | 0, _, t => if t = -1 then 7 else 0
  | m + 1, l, t => min 7 (min (wn N g m (l + 1) (N l g 0 t)) (wn N g m (l + 1) (N l g 1 t) + 1))
theorem wn_b {N : NX} {g : Int} : ∀ (m : Nat) (l t : Int), 0 ≤ wn N g m l t ∧ wn N g m l t ≤ 7
  | 0, l, t => by rw [wn]; split <;> omega
  | m + 1, l, t => by
    have h1 := wn_b (N := N) (g := g) m (l + 1) (N l g 0 t)
    have h2 := wn_b (N := N) (g := g) m (l + 1) (N l g 1 t)
    rw [wn]
    omega
def aw (N : NX) (m : Nat) (l : Int) (s : Int → Int) (n : Nat) : Int := sm (fun g => wn N g m l (s g)) n
theorem aw_b {N : NX} {m : Nat} {l : Int} {s : Int → Int} : ∀ n : Nat, 0 ≤ aw N m l s n ∧ aw N m l s n ≤ 7 * n
  | 0 => ⟨Int.le_refl _, Int.le_refl _⟩
  | n + 1 => by
    have h1 := aw_b (N := N) (m := m) (l := l) (s := s) n
    have h2 := wn_b (N := N) (g := n) m l (s n)
    unfold aw at h1 ⊢
    rw [sm]
    omega
theorem aw_0 {N : NX} {l : Int} {s : Int → Int} : ∀ n : Nat, (lks s n = 0 → aw N 0 l s n = 0) ∧ (lks s n ≠ 0 → 7 ≤ aw N 0 l s n)
  | 0 => ⟨fun _ => rfl, fun h => absurd rfl h⟩
  | n + 1 => by
    obtain ⟨h1, h2⟩ := aw_0 (N := N) (l := l) (s := s) n
    have hb := lks_b (s := s) n
    have hc := aw_b (N := N) (m := 0) (l := l) (s := s) n
    have e1 : aw N 0 l s (n + 1) = aw N 0 l s n + (if s n = -1 then 7 else 0) := rfl
    rw [e1, lks]
    by_cases h : s n = -1
    · rw [if_pos h, if_pos h]
      exact ⟨fun h3 => by omega, fun _ => by omega⟩
    · rw [if_neg h, if_neg h]
      refine ⟨fun h3 => ?_, fun h3 => ?_⟩
      · have := h1 (by omega); omega
      · have := h2 (by omega); omega
theorem aw_s {N : NX} {m : Nat} {l c : Int} {s : Int → Int} : ∀ n : Nat, aw N (m + 1) l s n ≤ aw N m (l + 1) (nxs N l s c) n + (if 0 ≤ c ∧ c < n then 1 else 0)
  | 0 => by rw [if_neg (by omega)]; exact Int.le_refl _
  | n + 1 => by
    have h := aw_s (N := N) (m := m) (l := l) (c := c) (s := s) n
    have e1 : aw N (m + 1) l s (n + 1) = aw N (m + 1) l s n + min 7 (min (wn N n m (l + 1) (N l n 0 (s n))) (wn N n m (l + 1) (N l n 1 (s n)) + 1)) := rfl
    have e2 : aw N m (l + 1) (nxs N l s c) (n + 1) = aw N m (l + 1) (nxs N l s c) n + wn N n m (l + 1) (N l n (if (n : Int) = c then 1 else 0) (s n)) := rfl
    rw [e1, e2]
    by_cases hc : (n : Int) = c
    · rw [if_pos hc, if_pos (by omega)]
      rw [if_neg (by omega)] at h
      omega
    · rw [if_neg hc]
      by_cases hd : 0 ≤ c ∧ c < (n : Int)
      · rw [if_pos hd] at h
        rw [if_pos (by omega)]
        omega
      · rw [if_neg hd] at h
        rw [if_neg (by omega)]
        omega
theorem aw_fv {N : NX} {gd : Int} (h0 : 0 ≤ gd) : ∀ (m : Nat) (l : Int) (s : Int → Int) (x : Nat), fv N gd m l s x ≠ -9 → aw N m l s gd.toNat ≤ fv N gd m l s x
  | 0, l, s, x, h => by
    rw [fv] at h ⊢
    by_cases h1 : lks s gd.toNat = 0
    · rw [if_pos h1, (aw_0 gd.toNat).1 h1]
      exact Int.le_refl _
    · rw [if_neg h1] at h
      exact absurd rfl h
  | m + 1, l, s, x, h => by
    rw [fv] at h ⊢
    by_cases h1 : gd ≤ ((x / 5 ^ m % 5 : Nat) : Int) - 1
    · rw [if_pos h1] at h
      exact absurd rfl h
    · rw [if_neg h1] at h ⊢
      by_cases h2 : fv N gd m (l + 1) (nxs N l s (((x / 5 ^ m % 5 : Nat) : Int) - 1)) x = -9
      · rw [if_pos h2] at h
        exact absurd rfl h
      · rw [if_neg h2]
        have h3 := aw_fv h0 m (l + 1) _ x h2
        have h4 := aw_s (N := N) (m := m) (l := l) (c := ((x / 5 ^ m % 5 : Nat) : Int) - 1) (s := s) gd.toNat
        unfold cst
        by_cases h5 : ((x / 5 ^ m % 5 : Nat) : Int) - 1 < 0
        · rw [if_pos h5]
          rw [if_neg (by omega)] at h4
          omega
        · rw [if_neg h5]
          rw [if_pos (by omega)] at h4
          omega
theorem lfc_aw {N : NX} {gd : Int} {m : Nat} {l t : Int} {s : Int → Int} (h0 : 0 ≤ gd) (h : t < aw N m l s gd.toNat) : lfc N gd m l s t = 5 ^ m := by
  refine fnn_un (Nat.le_refl _) (fun h => absurd h (by omega)) (fun x hx hx2 => ?_)
  unfold hv at hx2
  by_cases h1 : fv N gd m l s x = -9
  · rw [if_pos (Or.inl h1)] at hx2; omega
  · have := aw_fv h0 m l s x h1
    rw [if_pos (Or.inr (by omega))] at hx2
    omega
theorem lfc_end {N : NX} {gd : Int} {l t : Int} {s : Int → Int} (h0 : 0 ≤ gd) (h6 : t ≤ 6) (h : ¬ t < aw N 0 l s gd.toNat) : lfc N gd 0 l s t = 0 := by
  have h1 : lks s gd.toNat = 0 := by
    rcases (show lks s gd.toNat = 0 ∨ lks s gd.toNat ≠ 0 by omega) with h1 | h1
    · exact h1
    · have := (aw_0 (N := N) (l := l) gd.toNat).2 h1
      omega
  have h2 := (aw_0 (N := N) (l := l) gd.toNat).1 h1
  refine fnn_un (by omega) (fun _ => ?_) (fun x hx => absurd hx (by omega))
  unfold hv
  rw [fv, if_pos h1, if_neg (by omega)]
  omega
/-- how the reference goes through the codes -/
def fo (N : NX) (gd : Int) (m : Nat) (s : Int → Int) : Nat → Int × Int
  | 0 => (-9, -9)
  | x + 1 => if (fo N gd m s x).1 = 0 then fo N gd m s x else if fv N gd m 0 s x ≠ -9 ∧ ((fo N gd m s x).1 = -9 ∨ fv N gd m 0 s x < (fo N gd m s x).1) then (fv N gd m 0 s x, (x : Int)) else fo N gd m s x
theorem fo_sp {N : NX} {gd : Int} {m : Nat} {s : Int → Int} : ∀ n : Nat, (fo N gd m s n = (-9, -9) ∧ ∀ x, x < n → fv N gd m 0 s x = -9) ∨ (∃ X : Nat, fo N gd m s n = (fv N gd m 0 s X, (X : Int)) ∧ X < n ∧ fv N gd m 0 s X ≠ -9 ∧ (∀ x, x < n → fv N gd m 0 s x = -9 ∨ fv N gd m 0 s X ≤ fv N gd m 0 s x) ∧ ∀ x, x < X → fv N gd m 0 s x = -9 ∨ fv N gd m 0 s X < fv N gd m 0 s x)
  | 0 => Or.inl ⟨rfl, fun x hx => absurd hx (by omega)⟩
  | n + 1 => by
    have hb := fv_b (N := N) (gd := gd) m 0 s n
    rcases fo_sp (N := N) (gd := gd) (m := m) (s := s) n with ⟨h1, h2⟩ | ⟨X, h1, h2, h3, h4, h5⟩
    · rw [fo, h1, if_neg (by show ¬ (-9 : Int) = 0; omega)]
      by_cases h6 : fv N gd m 0 s n = -9
      · rw [if_neg (fun z => z.1 h6)]
        refine Or.inl ⟨rfl, fun x hx => ?_⟩
        rcases (show x = n ∨ x < n by omega) with h7 | h7
        · rw [h7]; exact h6
        · exact h2 x h7
      · rw [if_pos ⟨h6, Or.inl rfl⟩]
        refine Or.inr ⟨n, rfl, by omega, h6, fun x hx => ?_, fun x hx => Or.inl (h2 x hx)⟩
        rcases (show x = n ∨ x < n by omega) with h7 | h7
        · rw [h7]; exact Or.inr (Int.le_refl _)
        · exact Or.inl (h2 x h7)
    · have hbX := fv_b (N := N) (gd := gd) m 0 s X
      rw [fo, h1]
      by_cases h0 : fv N gd m 0 s X = 0
      · rw [if_pos h0]
        refine Or.inr ⟨X, rfl, by omega, h3, fun x hx => ?_, h5⟩
        have := fv_b (N := N) (gd := gd) m 0 s x
        omega
      · rw [if_neg h0]
        by_cases h6 : fv N gd m 0 s n ≠ -9 ∧ (fv N gd m 0 s X = -9 ∨ fv N gd m 0 s n < fv N gd m 0 s X)
        · rw [if_pos h6]
          refine Or.inr ⟨n, rfl, by omega, h6.1, fun x hx => ?_, fun x hx => ?_⟩
          · rcases (show x = n ∨ x < n by omega) with h7 | h7
            · rw [h7]; exact Or.inr (Int.le_refl _)
            · have := h4 x h7; omega
          · have := h4 x hx; omega
        · rw [if_neg h6]
          refine Or.inr ⟨X, rfl, by omega, h3, fun x hx => ?_, h5⟩
          rcases (show x = n ∨ x < n by omega) with h7 | h7
          · rw [h7]
            by_cases h8 : fv N gd m 0 s n = -9
            · exact Or.inl h8
            · exact Or.inr (Int.not_lt.mp (fun z => h6 ⟨h8, Or.inr z⟩))
          · exact h4 x h7
theorem lfc_none {N : NX} {gd : Int} {m : Nat} {s : Int → Int} {t : Int} (h : ∀ x, x < 5 ^ m → fv N gd m 0 s x = -9 ∨ t < fv N gd m 0 s x) : lfc N gd m 0 s t = 5 ^ m := by
  refine fnn_un (Nat.le_refl _) (fun h => absurd h (by omega)) (fun x hx hx2 => ?_)
  unfold hv at hx2
  rw [if_pos (h x hx)] at hx2
  omega
theorem lfc_fo {N : NX} {gd : Int} {m : Nat} {s : Int → Int} {X : Nat} (h2 : X < 5 ^ m) (h3 : fv N gd m 0 s X ≠ -9) (h5 : ∀ x, x < X → fv N gd m 0 s x = -9 ∨ fv N gd m 0 s X < fv N gd m 0 s x) : lfc N gd m 0 s (fv N gd m 0 s X) = X := by
  refine fnn_un (by omega) (fun _ => ?_) (fun x hx hx2 => ?_)
  · unfold hv
    rw [if_neg (by omega)]
    omega
  · unfold hv at hx2
    rw [if_pos (h5 x hx)] at hx2
    omega
