/-! the text's tokens -/
def hr (b : Int → Int) (n a : Int) : Int := if a < n then b a else -9
def hin (b : Int → Int) (n lo hi x : Int) : Int := if lo ≤ hr b n x ∧ hr b n x ≤ hi then 0 else 1
def ren (b : Int → Int) (n lo hi a : Int) : Int := fsd (hin b n lo hi) (n - a).toNat a
def okX (b : Int → Int) (n : Int) : Prop := (0 ≤ n ∧ n ≤ 150) ∧ ∀ i, 0 ≤ i → i < n → 0 ≤ b i ∧ b i ≤ 255
theorem hr_b {b : Int → Int} {n a : Int} (h : okX b n) (h0 : 0 ≤ a) : (a < n ∧ hr b n a = b a ∧ 0 ≤ hr b n a ∧ hr b n a ≤ 255) ∨ (n ≤ a ∧ hr b n a = -9) := by
  unfold hr
  by_cases h1 : a < n
  · rw [if_pos h1]
    have := h.2 a h0 h1
    exact Or.inl ⟨h1, rfl, this.1, this.2⟩
  · rw [if_neg h1]
    exact Or.inr ⟨by omega, rfl⟩
theorem ren_r {b : Int → Int} {n lo hi a : Int} (h : a ≤ n) : a ≤ ren b n lo hi a ∧ ren b n lo hi a ≤ n := by
  obtain ⟨s1, s2, s3, s4⟩ := fsd_sp (h := hin b n lo hi) (n - a).toNat a
  unfold ren
  omega
theorem ren_s {b : Int → Int} {n lo hi a : Int} (h : a < n) (hl : lo ≤ b a ∧ b a ≤ hi) : ren b n lo hi a = ren b n lo hi (a + 1) := by
  unfold ren
  rw [show (n - a).toNat = (n - (a + 1)).toNat + 1 by omega, fsd, if_neg]
  unfold hin hr
  rw [if_pos h, if_pos hl]
  omega
theorem ren_e {b : Int → Int} {n lo hi a : Int} (h : a < n) (hl : ¬ (lo ≤ b a ∧ b a ≤ hi)) : ren b n lo hi a = a := by
  unfold ren
  rw [show (n - a).toNat = (n - (a + 1)).toNat + 1 by omega, fsd, if_pos]
  unfold hin hr
  rw [if_pos h, if_neg hl]
  omega
theorem ren_n {b : Int → Int} {n lo hi a : Int} (h : n ≤ a) : ren b n lo hi a = a := by
  unfold ren
  rw [show (n - a).toNat = 0 by omega]
  rfl
theorem ren_f {b : Int → Int} {n lo hi a : Int} (h : a < n) (hl : lo ≤ b a ∧ b a ≤ hi) : a + 1 ≤ ren b n lo hi a := by
  rw [ren_s h hl]
  exact (ren_r (show a + 1 ≤ n by omega)).1
def rvl (b : Int → Int) (a : Int) : Nat → Int
  | 0 => 0
  | k + 1 => if 99 < rvl b a k then rvl b a k else 10 * rvl b a k + b (a + k) - 48
theorem rvl_s {b : Int → Int} {a x : Int} (h : a ≤ x) : rvl b a (x + 1 - a).toNat = if 99 < rvl b a (x - a).toNat then rvl b a (x - a).toNat else 10 * rvl b a (x - a).toNat + b x - 48 := by
  rw [show (x + 1 - a).toNat = (x - a).toNat + 1 by omega, rvl, show a + ((x - a).toNat : Int) = x by omega]
abbrev isD (c : Int) : Prop := 48 ≤ c ∧ c ≤ 57
abbrev isL (c : Int) : Prop := 97 ≤ c ∧ c ≤ 122
def tE (b : Int → Int) (n p : Int) : Int := if hr b n p = -9 then p else if isD (hr b n p) then ren b n 48 57 p else if isL (hr b n p) then ren b n 97 122 p else p + 1
def tV (b : Int → Int) (n p : Int) : Int := if hr b n p = -9 then 0 else if isD (hr b n p) then rvl b p (ren b n 48 57 p - p).toNat else if isL (hr b n p) then (if ren b n 97 122 p - p = 1 then hr b n p else 0) else 0
def tS (b : Int → Int) (n p : Int) : Int := if hr b n p = -9 then 4 else if isD (hr b n p) then (if 99 < rvl b p (ren b n 48 57 p - p).toNat ∨ (hr b n p = 48 ∧ 1 < ren b n 48 57 p - p) then 5 else 2) else if isL (hr b n p) then 1 else if hr b n p = 59 then 3 else 5
def tkf4 (v : Nat → Int) (e p s x : Int) : Nat → Int := va_up (va_up (va_up (va_up v 10 e) 11 p) 12 s) 13 x
def stepf (b : Int → Int) (v : Nat → Int) : Nat → Int := tkf4 v (tE b (v 1) (ren b (v 1) 32 32 (v 10))) (ren b (v 1) 32 32 (v 10)) (tS b (v 1) (ren b (v 1) 32 32 (v 10))) (tV b (v 1) (ren b (v 1) 32 32 (v 10)))
/-- the values of digits stay small -/
theorem rvl_b {b : Int → Int} {a : Int} : ∀ k : Nat, (∀ j : Nat, j < k → 48 ≤ b (a + j) ∧ b (a + j) ≤ 57) → 0 ≤ rvl b a k ∧ rvl b a k ≤ 999
  | 0, _ => ⟨Int.le_refl 0, show (0 : Int) ≤ 999 by decide⟩
  | k + 1, h => by
    have h1 := rvl_b k (fun j hj => h j (by omega))
    have h2 := h k (by omega)
    rw [rvl]
    split <;> omega
theorem rvl_c {b : Int → Int} {n p x : Int} (hx : p ≤ x) (h : ∀ y, p ≤ y → y < x → 48 ≤ b y ∧ b y ≤ 57) : 0 ≤ rvl b p (x - p).toNat ∧ rvl b p (x - p).toNat ≤ 999 := rvl_b _ (fun j hj => h _ (by omega) (by omega))
theorem ren_in {b : Int → Int} {n lo hi a : Int} (hn : a ≤ n) : ∀ y, a ≤ y → y < ren b n lo hi a → lo ≤ b y ∧ b y ≤ hi := by
  obtain ⟨s1, s2, s3, s4⟩ := fsd_sp (h := hin b n lo hi) (n - a).toNat a
  intro y y0 y1
  have h := s4 y y0 y1
  have hy : y < ren b n lo hi a := y1
  have hr2 := (ren_r (b := b) (lo := lo) (hi := hi) hn).2
  unfold hin hr at h
  rw [if_pos (show y < n by omega)] at h
  by_cases hc : lo ≤ b y ∧ b y ≤ hi
  · exact hc
  · rw [if_neg hc] at h; omega
theorem tV_b {b : Int → Int} {n p : Int} (h : okX b n) (h0 : 0 ≤ p) (h1 : p ≤ n) : 0 ≤ tV b n p ∧ tV b n p ≤ 999 := by
  unfold tV
  split
  · omega
  · split
    · exact rvl_c (n := n) (ren_r h1).1 (ren_in h1)
    · split
      · split
        · rcases hr_b h h0 with h2 | h2
          · omega
          · omega
        · omega
      · omega
theorem tE_r {b : Int → Int} {n p : Int} (h : okX b n) (h0 : 0 ≤ p) (h1 : p ≤ n) : p ≤ tE b n p ∧ tE b n p ≤ n ∧ (p < n → p + 1 ≤ tE b n p) := by
  unfold tE
  rcases hr_b h h0 with ⟨k1, k2, k3, k4⟩ | ⟨k1, k2⟩
  · rw [if_neg (by omega)]
    by_cases c1 : isD (hr b n p)
    · rw [if_pos c1]
      rw [k2] at c1
      have := ren_f (lo := 48) (hi := 57) k1 c1
      exact ⟨by omega, (ren_r h1).2, fun _ => this⟩
    · rw [if_neg c1]
      by_cases c2 : isL (hr b n p)
      · rw [if_pos c2]
        rw [k2] at c2
        have := ren_f (lo := 97) (hi := 122) k1 c2
        exact ⟨by omega, (ren_r h1).2, fun _ => this⟩
      · rw [if_neg c2]; omega
  · rw [if_pos k2]; omega
theorem tS_r {b : Int → Int} {n p : Int} (h : okX b n) (h0 : 0 ≤ p) : 1 ≤ tS b n p ∧ tS b n p ≤ 5 ∧ (tS b n p ≠ 4 → p < n) := by
  unfold tS
  rcases hr_b h h0 with ⟨k1, k2, k3, k4⟩ | ⟨k1, k2⟩
  · rw [if_neg (by omega)]
    split
    · split <;> exact ⟨by omega, by omega, fun _ => k1⟩
    · split
      · exact ⟨by omega, by omega, fun _ => k1⟩
      · split <;> exact ⟨by omega, by omega, fun _ => k1⟩
  · rw [if_pos k2]; exact ⟨by omega, by omega, fun h => absurd rfl h⟩
/-- the reader's state is in order -/
def vok (b : Int → Int) (v : Nat → Int) : Prop := okX b (v 1) ∧ (0 ≤ v 10 ∧ v 10 ≤ v 1) ∧ (0 ≤ v 11 ∧ v 11 ≤ v 1) ∧ (1 ≤ v 12 ∧ v 12 ≤ 5) ∧ (0 ≤ v 13 ∧ v 13 ≤ 999) ∧ (v 14 = 0 ∨ v 14 = 1) ∧ (v 16 = 0 ∨ v 16 = 1)
theorem stepf_ok {b : Int → Int} {v : Nat → Int} (hX : okX b (v 1)) (h0 : 0 ≤ v 10) (h1 : v 10 ≤ v 1) (h4 : v 14 = 0 ∨ v 14 = 1) (h6 : v 16 = 0 ∨ v 16 = 1) : vok b (stepf b v) ∧ v 10 ≤ stepf b v 10 ∧ (stepf b v 12 ≠ 4 → v 10 < stepf b v 10) := by
  have hp := ren_r (b := b) (lo := 32) (hi := 32) h1
  have he := tE_r hX (show 0 ≤ ren b (v 1) 32 32 (v 10) by omega) hp.2
  have hs := tS_r hX (show 0 ≤ ren b (v 1) 32 32 (v 10) by omega)
  have hv := tV_b hX (show 0 ≤ ren b (v 1) 32 32 (v 10) by omega) hp.2
  refine ⟨⟨hX, ⟨?_, ?_⟩, ⟨?_, ?_⟩, ⟨hs.1, hs.2.1⟩, hv, h4, h6⟩, ?_, fun hk => ?_⟩
  · show 0 ≤ tE b (v 1) (ren b (v 1) 32 32 (v 10)); omega
  · show tE b (v 1) (ren b (v 1) 32 32 (v 10)) ≤ v 1; omega
  · show 0 ≤ ren b (v 1) 32 32 (v 10); omega
  · show ren b (v 1) 32 32 (v 10) ≤ v 1; omega
  · show v 10 ≤ tE b (v 1) (ren b (v 1) 32 32 (v 10)); omega
  · have hk2 : tS b (v 1) (ren b (v 1) 32 32 (v 10)) ≠ 4 := hk
    have := he.2.2 (hs.2.2 hk2)
    show v 10 < tE b (v 1) (ren b (v 1) 32 32 (v 10))
    omega
theorem cR_here (G : pd_G) (sz : Nat) (hp : pd_P) {v : Nat → Int} {tx : Int → Int} (hR : hp 178 = RO v) (h_text : hp 179 = ba 150 tx) (h0 : 0 ≤ v 10) (hn : v 1 ≤ 150) (h1 : 0 ≤ v 1) (h2 : v 10 ≤ 1000) : pd_c G mR_here 0 [vr 178] sz hp (pd_pure (vi (hr (fun x => tx x % 2 ^ 8) (v 1) (v 10))) sz hp) := by
  refine pd_con kR_here [some (vr 178)] rfl rfl (Nat.le_of_ble_eq_true rfl) ?_
  refine pt_aload eR_here_0 rfl ?_
  refine pt_get eR_here_1 hR rfl ?_
  refine pt_aload eR_here_4 rfl ?_
  refine pt_get eR_here_5 hR rfl ?_
  refine pt_cge eR_here_8 ⟨by omega, by omega⟩ ⟨by omega, by omega⟩ (fun c8 => ?_) (fun c8 => ?_)
  · refine pt_ic eR_here_27 ?_
    refine pt_iret eR_here_29 (Nat.le_refl _) (Nat.le_refl _) ?_
    first
    | (rw [show hr (fun x => tx x % 2 ^ 8) (v 1) (v 10) = tx (v 10) % 2 ^ 8 by unfold hr; rw [if_pos (by omega)]]
       exact ⟨rfl, rfl, rfl⟩)
    | (rw [show hr (fun x => tx x % 2 ^ 8) (v 1) (v 10) = -9 by unfold hr; rw [if_neg (by omega)]]
       exact ⟨rfl, rfl, rfl⟩)
  · refine pt_aload eR_here_11 rfl ?_
    refine pt_get eR_here_12 hR rfl ?_
    refine pt_aload eR_here_15 rfl ?_
    refine pt_get eR_here_16 hR rfl ?_
    refine pt_bald eR_here_19 h_text (by omega) (by omega) (by decide) ?_
    refine pt_ic eR_here_20 ?_
    refine pt_iand 8 eR_here_23 (by decide) (by decide) ?_
    refine pt_goto eR_here_24 ?_
    refine pt_iret eR_here_29 (Nat.le_refl _) (Nat.le_refl _) ?_
    first
    | (rw [show hr (fun x => tx x % 2 ^ 8) (v 1) (v 10) = tx (v 10) % 2 ^ 8 by unfold hr; rw [if_pos (by omega)]]
       exact ⟨rfl, rfl, rfl⟩)
    | (rw [show hr (fun x => tx x % 2 ^ 8) (v 1) (v 10) = -9 by unfold hr; rw [if_neg (by omega)]]
       exact ⟨rfl, rfl, rfl⟩)
theorem lR_sp (G : pd_G) (sz : Nat) (hp : pd_P) {v : Nat → Int} {tx : Int → Int} (h_text : hp 179 = ba 150 tx) (hX : okX (fun x => tx x % 2 ^ 8) (v 1)) {p : Int} {R : pd_R} (hx : pd_t G mR_step 2 R 22 [some (vr 178), none] [] sz (va_up hp 178 (RO (va_up v 10 p)))) : ∀ (f : Nat) (a : Int) (hp0 : pd_P), 0 ≤ a → a + f = v 1 → ren (fun x => tx x % 2 ^ 8) (v 1) 32 32 a = p → hp0 = va_up hp 178 (RO (va_up v 10 a)) → pd_t G mR_step 2 R 0 [some (vr 178), none] [] sz hp0 := by
  intro f
  induction f with
  | zero =>
    intro a hp0 ha0 haE hp9 he0
    have hX0 := hX.1
    have hb9 := hr_b hX ha0
    have hR := pg_s he0
    have h_text := pg_n he0 (by decide) h_text
    have hr9 : hr (fun x => tx x % 2 ^ 8) (v 1) a = -9 := by omega
    have hq9 : p = a := by rw [← hp9, ren_n (by omega)]
    refine pt_aload eR_step_0 rfl ?_
    refine pt_kv0r eR_step_1 (cR_here G sz _ hR h_text ha0 hX0.2 hX0.1 (show a ≤ 1000 by omega)) hR rfl (Nat.le_of_ble_eq_true rfl) (by decide) (Nat.le_refl _) (Nat.le_refl _) ?_
    rw [show hr (fun x => tx x % 2 ^ 8) (va_up v 10 a 1) (va_up v 10 a 10) = -9 from hr9]
    refine pt_ic eR_step_4 ?_
    refine pt_cne eR_step_6 ⟨by omega, by omega⟩ ⟨by omega, by omega⟩ (fun c6 => ?_) (fun c6 => ?_)
    · rw [he0, ← hq9]
      exact hx
    · exfalso; omega
  | succ f ih =>
    intro a hp0 ha0 haE hp9 he0
    have hX0 := hX.1
    have hb9 := hr_b hX ha0
    have hR := pg_s he0
    have h_text := pg_n he0 (by decide) h_text
    have hr9 : hr (fun x => tx x % 2 ^ 8) (v 1) a = tx a % 2 ^ 8 := by omega
    refine pt_aload eR_step_0 rfl ?_
    refine pt_kv0r eR_step_1 (cR_here G sz _ hR h_text ha0 hX0.2 hX0.1 (show a ≤ 1000 by omega)) hR rfl (Nat.le_of_ble_eq_true rfl) (by decide) (Nat.le_refl _) (Nat.le_refl _) ?_
    rw [show hr (fun x => tx x % 2 ^ 8) (va_up v 10 a 1) (va_up v 10 a 10) = tx a % 2 ^ 8 from hr9]
    generalize hgc : tx a % 2 ^ 8 = cc at hr9 hb9
    refine pt_ic eR_step_4 ?_
    refine pt_cne eR_step_6 ⟨by omega, by omega⟩ ⟨by omega, by omega⟩ (fun c6 => ?_) (fun c6 => ?_)
    · have hq9 : p = a := by rw [← hp9, ren_e (by omega) (by show ¬ (32 ≤ tx a % 2 ^ 8 ∧ tx a % 2 ^ 8 ≤ 32); omega)]
      rw [he0, ← hq9]
      exact hx
    · refine pt_aload eR_step_9 rfl ?_
      refine pt_dupr eR_step_10 ?_
      refine pt_get eR_step_11 hR rfl ?_
      refine pt_ic eR_step_14 ?_
      refine pt_iadd eR_step_15 ?_
      refine pt_put10 eR_step_16 hR trivial ?_
      refine pt_gen ?_
      intro hp1 ev1
      have hR := pg_s ev1
      have h_text := pg_n ev1 (by omega) h_text
      refine pt_goto eR_step_19 ?_
      refine ih (a + 1) hp1 (by omega) (by omega) ?_ (by rw [ev1, he0, bx_uu]; rfl)
      exact (ren_s (by omega) (by show 32 ≤ tx a % 2 ^ 8 ∧ tx a % 2 ^ 8 ≤ 32; omega)).symm.trans hp9
theorem lR_le (G : pd_G) (sz : Nat) (hp : pd_P) {v : Nat → Int} {tx : Int → Int} (h_text : hp 179 = ba 150 tx) (hX : okX (fun x => tx x % 2 ^ 8) (v 1)) {p c : Int} {R : pd_R} (hx : pd_t G mR_step 2 R 205 [some (vr 178), some (vi c)] [] sz (va_up hp 178 (RO (va_up v 10 p)))) : ∀ (f : Nat) (a : Int) (hp0 : pd_P), 0 ≤ a → a + f = v 1 → ren (fun x => tx x % 2 ^ 8) (v 1) 97 122 a = p → hp0 = va_up hp 178 (RO (va_up v 10 a)) → pd_t G mR_step 2 R 178 [some (vr 178), some (vi c)] [] sz hp0 := by
  intro f
  induction f with
  | zero =>
    intro a hp0 ha0 haE hp9 he0
    have hX0 := hX.1
    have hb9 := hr_b hX ha0
    have hR := pg_s he0
    have h_text := pg_n he0 (by decide) h_text
    have hr9 : hr (fun x => tx x % 2 ^ 8) (v 1) a = -9 := by omega
    have hq9 : p = a := by rw [← hp9, ren_n (by omega)]
    refine pt_aload eR_step_178 rfl ?_
    refine pt_kv0r eR_step_179 (cR_here G sz _ hR h_text ha0 hX0.2 hX0.1 (show a ≤ 1000 by omega)) hR rfl (Nat.le_of_ble_eq_true rfl) (by decide) (Nat.le_refl _) (Nat.le_refl _) ?_
    rw [show hr (fun x => tx x % 2 ^ 8) (va_up v 10 a 1) (va_up v 10 a 10) = -9 from hr9]
    refine pt_ic eR_step_182 ?_
    refine pt_ic eR_step_184 ?_
    refine pt_ks3r eR_step_186 (cR_in G sz _ ⟨by omega, by omega⟩ ⟨by decide, by decide⟩ ⟨by decide, by decide⟩) (Nat.le_of_ble_eq_true rfl) (by decide) (Nat.le_refl _) (Nat.le_refl _) ?_
    refine pt_zeq eR_step_189 (pwi_j _ _ _) (fun c189 => ?_) (fun c189 => ?_)
    · rw [he0, ← hq9]
      exact hx
    · have c189 := pwi_1 c189
      refine pt_aload eR_step_192 rfl ?_
      exfalso; omega
  | succ f ih =>
    intro a hp0 ha0 haE hp9 he0
    have hX0 := hX.1
    have hb9 := hr_b hX ha0
    have hR := pg_s he0
    have h_text := pg_n he0 (by decide) h_text
    have hr9 : hr (fun x => tx x % 2 ^ 8) (v 1) a = tx a % 2 ^ 8 := by omega
    refine pt_aload eR_step_178 rfl ?_
    refine pt_kv0r eR_step_179 (cR_here G sz _ hR h_text ha0 hX0.2 hX0.1 (show a ≤ 1000 by omega)) hR rfl (Nat.le_of_ble_eq_true rfl) (by decide) (Nat.le_refl _) (Nat.le_refl _) ?_
    rw [show hr (fun x => tx x % 2 ^ 8) (va_up v 10 a 1) (va_up v 10 a 10) = tx a % 2 ^ 8 from hr9]
    generalize hgc : tx a % 2 ^ 8 = cc at hr9 hb9
    refine pt_ic eR_step_182 ?_
    refine pt_ic eR_step_184 ?_
    refine pt_ks3r eR_step_186 (cR_in G sz _ ⟨by omega, by omega⟩ ⟨by decide, by decide⟩ ⟨by decide, by decide⟩) (Nat.le_of_ble_eq_true rfl) (by decide) (Nat.le_refl _) (Nat.le_refl _) ?_
    refine pt_zeq eR_step_189 (pwi_j _ _ _) (fun c189 => ?_) (fun c189 => ?_)
    · have c189 := pwi_0 c189
      have hq9 : p = a := by rw [← hp9, ren_e (by omega) (by show ¬ (97 ≤ tx a % 2 ^ 8 ∧ tx a % 2 ^ 8 ≤ 122); omega)]
      rw [he0, ← hq9]
      exact hx
    · have c189 := pwi_1 c189
      refine pt_aload eR_step_192 rfl ?_
      refine pt_dupr eR_step_193 ?_
      refine pt_get eR_step_194 hR rfl ?_
      refine pt_ic eR_step_197 ?_
      refine pt_iadd eR_step_198 ?_
      refine pt_put10 eR_step_199 hR trivial ?_
      refine pt_gen ?_
      intro hp1 ev1
      have hR := pg_s ev1
      have h_text := pg_n ev1 (by omega) h_text
      refine pt_goto eR_step_202 ?_
      refine ih (a + 1) hp1 (by omega) (by omega) ?_ (by rw [ev1, he0, bx_uu]; rfl)
      exact (ren_s (by omega) (by show 97 ≤ tx a % 2 ^ 8 ∧ tx a % 2 ^ 8 ≤ 122; omega)).symm.trans hp9
theorem lR_di (G : pd_G) (sz : Nat) (hp : pd_P) {v : Nat → Int} {tx : Int → Int} (h_text : hp 179 = ba 150 tx) (hX : okX (fun x => tx x % 2 ^ 8) (v 1)) {p e c : Int} (hp0 : 0 ≤ p) {R : pd_R} (hx : pd_t G mR_step 2 R 127 [some (vr 178), some (vi c)] [] sz (va_up hp 178 (RO (va_up (va_up v 13 (rvl (fun x => tx x % 2 ^ 8) p (e - p).toNat)) 10 e)))) : ∀ (f : Nat) (a : Int) (hpa0 : pd_P), p ≤ a → a + f = v 1 → ren (fun x => tx x % 2 ^ 8) (v 1) 48 57 a = e → (∀ y, p ≤ y → y < a → 48 ≤ tx y % 2 ^ 8 ∧ tx y % 2 ^ 8 ≤ 57) → hpa0 = va_up hp 178 (RO (va_up (va_up v 13 (rvl (fun x => tx x % 2 ^ 8) p (a - p).toNat)) 10 a)) → pd_t G mR_step 2 R 65 [some (vr 178), some (vi c)] [] sz hpa0 := by
  intro f
  induction f with
  | zero =>
    intro a hpa0 hpa haE he9 hdg he0
    have ha0 : 0 ≤ a := by omega
    have hX0 := hX.1
    have hb9 := hr_b hX ha0
    have hR := pg_s he0
    have h_text := pg_n he0 (by decide) h_text
    have hr9 : hr (fun x => tx x % 2 ^ 8) (v 1) a = -9 := by omega
    have hq9 : e = a := by rw [← he9, ren_n (by omega)]
    rw [he0, ← hq9]
    rw [← hq9] at hr9 ha0
    rw [he0, ← hq9] at hR h_text
    refine pt_aload eR_step_65 rfl ?_
    refine pt_kv0r eR_step_66 (cR_here G sz _ hR h_text ha0 hX0.2 hX0.1 (show e ≤ 1000 by omega)) hR rfl (Nat.le_of_ble_eq_true rfl) (by decide) (Nat.le_refl _) (Nat.le_refl _) ?_
    rw [show hr (fun x => tx x % 2 ^ 8) (va_up (va_up v 13 (rvl (fun x => tx x % 2 ^ 8) p (e - p).toNat)) 10 e 1) (va_up (va_up v 13 (rvl (fun x => tx x % 2 ^ 8) p (e - p).toNat)) 10 e 10) = -9 from hr9]
    refine pt_ic eR_step_69 ?_
    refine pt_ic eR_step_71 ?_
    refine pt_ks3r eR_step_73 (cR_in G sz _ ⟨by omega, by omega⟩ ⟨by decide, by decide⟩ ⟨by decide, by decide⟩) (Nat.le_of_ble_eq_true rfl) (by decide) (Nat.le_refl _) (Nat.le_refl _) ?_
    refine pt_zeq eR_step_76 (pwi_j _ _ _) (fun c76 => ?_) (fun c76 => ?_)
    · exact hx
    · have c76 := pwi_1 c76
      refine pt_aload eR_step_79 rfl ?_
      exfalso; omega
  | succ f ih =>
    intro a hpa0 hpa haE he9 hdg he0
    have ha0 : 0 ≤ a := by omega
    have hX0 := hX.1
    have hb9 := hr_b hX ha0
    have hR := pg_s he0
    have h_text := pg_n he0 (by decide) h_text
    have hr9 : hr (fun x => tx x % 2 ^ 8) (v 1) a = tx a % 2 ^ 8 := by omega
    have rb9 := rvl_c (b := (fun x => tx x % 2 ^ 8)) (n := v 1) hpa hdg
    have rs9 : rvl (fun x => tx x % 2 ^ 8) p (a + 1 - p).toNat = if 99 < rvl (fun x => tx x % 2 ^ 8) p (a - p).toNat then rvl (fun x => tx x % 2 ^ 8) p (a - p).toNat else 10 * rvl (fun x => tx x % 2 ^ 8) p (a - p).toNat + tx a % 2 ^ 8 - 48 := rvl_s (b := (fun x => tx x % 2 ^ 8)) hpa
    generalize hgx : rvl (fun x => tx x % 2 ^ 8) p (a - p).toNat = xx at rb9 rs9 hR he0
    refine pt_aload eR_step_65 rfl ?_
    refine pt_kv0r eR_step_66 (cR_here G sz _ (v := va_up (va_up v 13 xx) 10 a) hR h_text ha0 hX0.2 hX0.1 (show a ≤ 1000 by omega)) hR rfl (Nat.le_of_ble_eq_true rfl) (by decide) (Nat.le_refl _) (Nat.le_refl _) ?_
    rw [show hr (fun x => tx x % 2 ^ 8) (va_up (va_up v 13 xx) 10 a 1) (va_up (va_up v 13 xx) 10 a 10) = tx a % 2 ^ 8 from hr9]
    refine pt_ic eR_step_69 ?_
    refine pt_ic eR_step_71 ?_
    refine pt_ks3r eR_step_73 (cR_in G sz _ ⟨by omega, by omega⟩ ⟨by decide, by decide⟩ ⟨by decide, by decide⟩) (Nat.le_of_ble_eq_true rfl) (by decide) (Nat.le_refl _) (Nat.le_refl _) ?_
    refine pt_zeq eR_step_76 (pwi_j _ _ _) (fun c76 => ?_) (fun c76 => ?_)
    · have c76 := pwi_0 c76
      have hq9 : e = a := by rw [← he9, ren_e (by omega) (by show ¬ (48 ≤ tx a % 2 ^ 8 ∧ tx a % 2 ^ 8 ≤ 57); omega)]
      rw [hq9] at hx
      rw [hgx] at hx
      rw [he0]
      exact hx
    · have c76 := pwi_1 c76
      refine pt_aload eR_step_79 rfl ?_
      refine pt_aload eR_step_80 rfl ?_
      refine pt_get eR_step_81 hR rfl ?_
      have c9 : va_up (va_up v 13 xx) 10 a 13 = xx := rfl
      rw [c9]
      refine pt_ic eR_step_84 ?_
      refine pt_cle eR_step_86 ⟨by omega, by omega⟩ ⟨by omega, by omega⟩ (fun c86 => ?_) (fun c86 => ?_)
      · refine pt_ic eR_step_96 ?_
        refine pt_aload eR_step_98 rfl ?_
        refine pt_get eR_step_99 hR rfl ?_
        refine pt_imul eR_step_102 ?_
        refine pt_aload eR_step_103 rfl ?_
        refine pt_kv0r eR_step_104 (cR_here G sz _ (v := va_up (va_up v 13 xx) 10 a) hR h_text ha0 hX0.2 hX0.1 (show a ≤ 1000 by omega)) hR rfl (Nat.le_of_ble_eq_true rfl) (by decide) (Nat.le_refl _) (Nat.le_refl _) ?_
        rw [show hr (fun x => tx x % 2 ^ 8) (va_up (va_up v 13 xx) 10 a 1) (va_up (va_up v 13 xx) 10 a 10) = tx a % 2 ^ 8 from hr9]
        refine pt_iadd eR_step_107 ?_
        refine pt_ic eR_step_108 ?_
        refine pt_isub eR_step_110 ?_
        refine pt_put13 eR_step_111 hR trivial ?_
        refine pt_gen ?_
        intro hp1 ev1
        have hR := pg_s ev1
        have h_text := pg_n ev1 (by omega) h_text
        refine pt_aload eR_step_114 rfl ?_
        refine pt_dupr eR_step_115 ?_
        refine pt_get eR_step_116 hR rfl ?_
        refine pt_ic eR_step_119 ?_
        refine pt_iadd eR_step_120 ?_
        refine pt_put10 eR_step_121 hR trivial ?_
        refine pt_gen ?_
        intro hp2 ev2
        have hR := pg_s ev2
        have h_text := pg_n ev2 (by omega) h_text
        refine pt_goto eR_step_124 ?_
        refine ih (a + 1) hp2 (by omega) (by omega) ((ren_s (by omega) (by show 48 ≤ tx a % 2 ^ 8 ∧ tx a % 2 ^ 8 ≤ 57; omega)).symm.trans he9) (fun y h1 h2 => ?_) ?_
        · by_cases hy : y = a
          · rw [hy]; exact c76
          · exact hdg y h1 (by omega)
        · rw [rs9]
          first
          | (rw [if_pos (by omega)]
             rw [ev2, ev1, he0, bx_uu, bx_uu]
             rfl)
          | (rw [if_neg (by omega)]
             rw [ev2, ev1, he0, bx_uu, bx_uu]
             rfl)
      · refine pt_aload eR_step_89 rfl ?_
        refine pt_get eR_step_90 hR rfl ?_
        refine pt_goto eR_step_93 ?_
        refine pt_put13 eR_step_111 hR trivial ?_
        refine pt_gen ?_
        intro hp3 ev3
        have hR := pg_s ev3
        have h_text := pg_n ev3 (by omega) h_text
        refine pt_aload eR_step_114 rfl ?_
        refine pt_dupr eR_step_115 ?_
        refine pt_get eR_step_116 hR rfl ?_
        refine pt_ic eR_step_119 ?_
        refine pt_iadd eR_step_120 ?_
        refine pt_put10 eR_step_121 hR trivial ?_
        refine pt_gen ?_
        intro hp4 ev4
        have hR := pg_s ev4
        have h_text := pg_n ev4 (by omega) h_text
        refine pt_goto eR_step_124 ?_
        refine ih (a + 1) hp4 (by omega) (by omega) ((ren_s (by omega) (by show 48 ≤ tx a % 2 ^ 8 ∧ tx a % 2 ^ 8 ≤ 57; omega)).symm.trans he9) (fun y h1 h2 => ?_) ?_
        · by_cases hy : y = a
          · rw [hy]; exact c76
          · exact hdg y h1 (by omega)
        · rw [rs9]
          first
          | (rw [if_pos (by omega)]
             rw [ev4, ev3, he0, bx_uu, bx_uu]
             rfl)
          | (rw [if_neg (by omega)]
             rw [ev4, ev3, he0, bx_uu, bx_uu]
             rfl)
