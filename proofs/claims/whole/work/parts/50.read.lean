/-! the reference's step, due, number, may -/
theorem va_sv {α : Type} {v : Nat → α} {j : Nat} {x : α} (h : x = v j) : va_up v j x = v := by
  funext k
  unfold va_up
  split
  · rename_i hk; rw [hk, h]
  · rfl
theorem stepf_by {b : Int → Int} {v : Nat → Int} {p e s x : Int} (h1 : ren b (v 1) 32 32 (v 10) = p) (h2 : tE b (v 1) p = e) (h3 : tS b (v 1) p = s) (h4 : tV b (v 1) p = x) : stepf b v = tkf4 v e p s x := by
  unfold stepf
  rw [h1, h2, h3, h4]
theorem cR_step (G : pd_G) (sz : Nat) (hp : pd_P) {v : Nat → Int} {tx : Int → Int} (hR : hp 178 = RO v) (h_text : hp 179 = ba 150 tx) (hX : okX (fun x => tx x % 2 ^ 8) (v 1)) (h0 : 0 ≤ v 10) (h1 : v 10 ≤ v 1) : pd_c G mR_step 2 [vr 178] sz hp (fun v' sz' hp' => v' = none ∧ sz' = sz ∧ hp' = va_up hp 178 (RO (stepf (fun x => tx x % 2 ^ 8) v))) := by
  refine pd_con kR_step [some (vr 178), none] rfl rfl (Nat.le_of_ble_eq_true rfl) ?_
  have hX0 := hX.1
  obtain ⟨p, hpp⟩ : ∃ p, ren (fun x => tx x % 2 ^ 8) (v 1) 32 32 (v 10) = p := ⟨_, rfl⟩
  have hpr := ren_r (b := (fun x => tx x % 2 ^ 8)) (lo := 32) (hi := 32) h1
  rw [hpp] at hpr
  have hp0 : 0 ≤ p := by omega
  have hb9 := hr_b hX hp0
  obtain ⟨c, hc⟩ : ∃ c, hr (fun x => tx x % 2 ^ 8) (v 1) p = c := ⟨_, rfl⟩
  rw [hc] at hb9
  refine lR_sp G sz hp (v := v) (p := p) h_text hX ?_ (v 1 - v 10).toNat (v 10) hp h0 (by omega) hpp (by rw [va_sv rfl]; exact pu_self hR)
  refine pt_gen ?_
  intro hpa eva
  have hR := pg_s eva
  have h_text := pg_n eva (by decide) h_text
  refine pt_aload eR_step_22 rfl ?_
  refine pt_aload eR_step_23 rfl ?_
  refine pt_get eR_step_24 hR rfl ?_
  refine pt_put11 eR_step_27 hR trivial ?_
  refine pt_gen ?_
  intro hp1 ev1
  have hR := pg_s ev1
  have h_text := pg_n ev1 (by omega) h_text
  refine pt_aload eR_step_30 rfl ?_
  refine pt_ic eR_step_31 ?_
  refine pt_put13 eR_step_32 hR trivial ?_
  refine pt_gen ?_
  intro hp2 ev2
  have hR := pg_s ev2
  have h_text := pg_n ev2 (by omega) h_text
  obtain ⟨w, hw⟩ : ∃ w : Nat → Int, w = va_up (va_up (va_up v 10 p) 11 p) 13 0 := ⟨_, rfl⟩
  have hR : hp2 178 = RO w := by rw [hw]; exact hR
  have hw1 : w 1 = v 1 := by rw [hw]; rfl
  have hw10 : w 10 = p := by rw [hw]; rfl
  have hw11 : w 11 = p := by rw [hw]; rfl
  have hw13 : w 13 = 0 := by rw [hw]; rfl
  refine pt_aload eR_step_35 rfl ?_
  refine pt_kv0r eR_step_36 (cR_here G sz _ (v := w) hR h_text (by omega) (by omega) (by omega) (by omega)) hR rfl (Nat.le_of_ble_eq_true rfl) (by decide) (Nat.le_refl _) (Nat.le_refl _) ?_
  rw [show hr (fun x => tx x % 2 ^ 8) (w 1) (w 10) = c by rw [hw1, hw10]; exact hc]
  refine pt_istore1 eR_step_39 rfl ?_
  refine pt_iload eR_step_40 rfl ?_
  refine pt_ic eR_step_41 ?_
  refine pt_cne eR_step_43 ⟨by omega, by omega⟩ ⟨by omega, by omega⟩ (fun c43 => ?_) (fun c43 => ?_)
  · refine pt_iload eR_step_54 rfl ?_
    refine pt_ic eR_step_55 ?_
    refine pt_ic eR_step_57 ?_
    refine pt_ks3r eR_step_59 (cR_in G sz _ ⟨by omega, by omega⟩ ⟨by decide, by decide⟩ ⟨by decide, by decide⟩) (Nat.le_of_ble_eq_true rfl) (by decide) (Nat.le_refl _) (Nat.le_refl _) ?_
    refine pt_zeq eR_step_62 (pwi_j _ _ _) (fun c62 => ?_) (fun c62 => ?_)
    · have c62 := pwi_0 c62
      refine pt_iload eR_step_167 rfl ?_
      refine pt_ic eR_step_168 ?_
      refine pt_ic eR_step_170 ?_
      refine pt_ks3r eR_step_172 (cR_in G sz _ ⟨by omega, by omega⟩ ⟨by decide, by decide⟩ ⟨by decide, by decide⟩) (Nat.le_of_ble_eq_true rfl) (by decide) (Nat.le_refl _) (Nat.le_refl _) ?_
      refine pt_zeq eR_step_175 (pwi_j _ _ _) (fun c175 => ?_) (fun c175 => ?_)
      · have c175 := pwi_0 c175
        have hE0 : tE (fun x => tx x % 2 ^ 8) (v 1) p = p + 1 := by unfold tE; rw [hc, if_neg c43, if_neg c62, if_neg c175]
        have hS0 : tS (fun x => tx x % 2 ^ 8) (v 1) p = if c = 59 then 3 else 5 := by unfold tS; rw [hc, if_neg c43, if_neg c62, if_neg c175]
        have hV0 : tV (fun x => tx x % 2 ^ 8) (v 1) p = 0 := by unfold tV; rw [hc, if_neg c43, if_neg c62, if_neg c175]
        refine pt_aload eR_step_235 rfl ?_
        refine pt_dupr eR_step_236 ?_
        refine pt_get eR_step_237 hR rfl ?_
        refine pt_ic eR_step_240 ?_
        refine pt_iadd eR_step_241 ?_
        refine pt_put10 eR_step_242 hR trivial ?_
        refine pt_gen ?_
        intro hp11 ev11
        have hR := pg_s ev11
        have h_text := pg_n ev11 (by omega) h_text
        refine pt_aload eR_step_245 rfl ?_
        refine pt_iload eR_step_246 rfl ?_
        refine pt_ic eR_step_247 ?_
        refine pt_cne eR_step_249 ⟨by omega, by omega⟩ ⟨by omega, by omega⟩ (fun c249 => ?_) (fun c249 => ?_)
        · refine pt_ic eR_step_256 ?_
          refine pt_put12 eR_step_257 hR trivial ?_
          refine pt_gen ?_
          intro hp12 ev12
          have hR := pg_s ev12
          have h_text := pg_n ev12 (by omega) h_text
          refine pt_vret eR_step_260 (Nat.le_refl _) (Nat.le_refl _) ?_
          first
          | rw [if_pos c249] at hS0
          | rw [if_neg c249] at hS0
          refine ⟨rfl, rfl, ?_⟩
          rw [stepf_by (b := (fun x => tx x % 2 ^ 8)) (v := v) hpp hE0 hS0 hV0]
          subst hw
          rw [ev12, ev11, ev2, ev1, eva, bx_uu, bx_uu, bx_uu, bx_uu]
          rfl
        · refine pt_ic eR_step_252 ?_
          refine pt_goto eR_step_253 ?_
          refine pt_put12 eR_step_257 hR trivial ?_
          refine pt_gen ?_
          intro hp13 ev13
          have hR := pg_s ev13
          have h_text := pg_n ev13 (by omega) h_text
          refine pt_vret eR_step_260 (Nat.le_refl _) (Nat.le_refl _) ?_
          first
          | rw [if_pos c249] at hS0
          | rw [if_neg c249] at hS0
          refine ⟨rfl, rfl, ?_⟩
          rw [stepf_by (b := (fun x => tx x % 2 ^ 8)) (v := v) hpp hE0 hS0 hV0]
          subst hw
          rw [ev13, ev11, ev2, ev1, eva, bx_uu, bx_uu, bx_uu, bx_uu]
          rfl
      · have c175 := pwi_1 c175
        obtain ⟨e, he⟩ : ∃ e, ren (fun x => tx x % 2 ^ 8) (w 1) 97 122 p = e := ⟨_, rfl⟩
        have her := ren_r (b := (fun x => tx x % 2 ^ 8)) (lo := 97) (hi := 122) (show p ≤ w 1 by omega)
        rw [he] at her
        have hE0 : tE (fun x => tx x % 2 ^ 8) (v 1) p = e := by unfold tE; rw [hc, if_neg c43, if_neg c62, if_pos c175, ← hw1]; exact he
        have hS0 : tS (fun x => tx x % 2 ^ 8) (v 1) p = 1 := by unfold tS; rw [hc, if_neg c43, if_neg c62, if_pos c175]
        have hV0 : tV (fun x => tx x % 2 ^ 8) (v 1) p = if e - p = 1 then c else 0 := by unfold tV; rw [hc, if_neg c43, if_neg c62, if_pos c175, ← hw1, he]
        refine lR_le G sz hp2 (v := w) (p := e) (c := c) h_text (by rw [hw1]; exact hX) ?_ (v 1 - p).toNat p hp2 hp0 (by omega) he (by rw [va_sv hw10.symm]; exact pu_self hR)
        refine pt_gen ?_
        intro hp5 ev5
        have hR : hp5 178 = RO (va_up w 10 e) := pg_s ev5
        have h_text := pg_n ev5 (by decide) h_text
        have hu10 : va_up w 10 e 10 = e := rfl
        have hu11 : va_up w 10 e 11 = p := hw11
        refine pt_aload eR_step_205 rfl ?_
        refine pt_aload eR_step_206 rfl ?_
        refine pt_get eR_step_207 hR rfl ?_
        rw [hu10]
        refine pt_aload eR_step_210 rfl ?_
        refine pt_get eR_step_211 hR rfl ?_
        rw [hu11]
        refine pt_isub eR_step_214 ?_
        refine pt_ic eR_step_215 ?_
        refine pt_cne eR_step_216 ⟨by omega, by omega⟩ ⟨by omega, by omega⟩ (fun c216 => ?_) (fun c216 => ?_)
        · refine pt_ic eR_step_223 ?_
          refine pt_put13 eR_step_224 hR trivial ?_
          refine pt_gen ?_
          intro hp11 ev11
          have hR := pg_s ev11
          have h_text := pg_n ev11 (by omega) h_text
          refine pt_aload eR_step_227 rfl ?_
          refine pt_ic eR_step_228 ?_
          refine pt_put12 eR_step_229 hR trivial ?_
          refine pt_gen ?_
          intro hp12 ev12
          have hR := pg_s ev12
          have h_text := pg_n ev12 (by omega) h_text
          refine pt_goto eR_step_232 ?_
          refine pt_vret eR_step_260 (Nat.le_refl _) (Nat.le_refl _) ?_
          first
          | rw [if_pos c216] at hV0
          | rw [if_neg c216] at hV0
          refine ⟨rfl, rfl, ?_⟩
          rw [stepf_by (b := (fun x => tx x % 2 ^ 8)) (v := v) hpp hE0 hS0 hV0]
          subst hw
          rw [ev12, ev11, ev5, ev2, ev1, eva, bx_uu, bx_uu, bx_uu, bx_uu, bx_uu]
          rfl
        · refine pt_iload eR_step_219 rfl ?_
          refine pt_goto eR_step_220 ?_
          refine pt_put13 eR_step_224 hR trivial ?_
          refine pt_gen ?_
          intro hp13 ev13
          have hR := pg_s ev13
          have h_text := pg_n ev13 (by omega) h_text
          refine pt_aload eR_step_227 rfl ?_
          refine pt_ic eR_step_228 ?_
          refine pt_put12 eR_step_229 hR trivial ?_
          refine pt_gen ?_
          intro hp14 ev14
          have hR := pg_s ev14
          have h_text := pg_n ev14 (by omega) h_text
          refine pt_goto eR_step_232 ?_
          refine pt_vret eR_step_260 (Nat.le_refl _) (Nat.le_refl _) ?_
          first
          | rw [if_pos c216] at hV0
          | rw [if_neg c216] at hV0
          refine ⟨rfl, rfl, ?_⟩
          rw [stepf_by (b := (fun x => tx x % 2 ^ 8)) (v := v) hpp hE0 hS0 hV0]
          subst hw
          rw [ev14, ev13, ev5, ev2, ev1, eva, bx_uu, bx_uu, bx_uu, bx_uu, bx_uu]
          rfl
    · have c62 := pwi_1 c62
      obtain ⟨e, he⟩ : ∃ e, ren (fun x => tx x % 2 ^ 8) (w 1) 48 57 p = e := ⟨_, rfl⟩
      have her := ren_r (b := (fun x => tx x % 2 ^ 8)) (lo := 48) (hi := 57) (show p ≤ w 1 by omega)
      have hin := ren_in (b := (fun x => tx x % 2 ^ 8)) (lo := 48) (hi := 57) (show p ≤ w 1 by omega)
      rw [he] at her hin
      obtain ⟨x, hx9⟩ : ∃ x, rvl (fun x => tx x % 2 ^ 8) p (e - p).toNat = x := ⟨_, rfl⟩
      have hxr := rvl_c (b := (fun x => tx x % 2 ^ 8)) (n := w 1) her.1 hin
      rw [hx9] at hxr
      have hE0 : tE (fun x => tx x % 2 ^ 8) (v 1) p = e := by unfold tE; rw [hc, if_neg c43, if_pos c62, ← hw1]; exact he
      have hV0 : tV (fun x => tx x % 2 ^ 8) (v 1) p = x := by unfold tV; rw [hc, if_neg c43, if_pos c62, ← hw1, he]; exact hx9
      have hS0 : tS (fun x => tx x % 2 ^ 8) (v 1) p = if 99 < x ∨ (c = 48 ∧ 1 < e - p) then 5 else 2 := by unfold tS; rw [hc, if_neg c43, if_pos c62, ← hw1, he, hx9]
      refine lR_di G sz hp2 (v := w) (p := p) (e := e) (c := c) h_text (by rw [hw1]; exact hX) hp0 ?_ (v 1 - p).toNat p hp2 (by omega) (by omega) he (fun y h1 h2 => absurd h2 (by omega)) ?_
      rotate_left
      · rw [show (p - p).toNat = 0 by omega, va_sv (v := w) (show rvl (fun x => tx x % 2 ^ 8) p 0 = w 13 from hw13.symm), va_sv hw10.symm]
        exact pu_self hR
      rw [hx9]
      refine pt_gen ?_
      intro hp5 ev5
      have hR : hp5 178 = RO (va_up (va_up w 13 x) 10 e) := pg_s ev5
      have h_text := pg_n ev5 (by decide) h_text
      have hu10 : va_up (va_up w 13 x) 10 e 10 = e := rfl
      have hu11 : va_up (va_up w 13 x) 10 e 11 = p := hw11
      have hu13 : va_up (va_up w 13 x) 10 e 13 = x := rfl
      refine pt_aload eR_step_127 rfl ?_
      refine pt_aload eR_step_128 rfl ?_
      refine pt_get eR_step_129 hR rfl ?_
      rw [hu13]
      refine pt_ic eR_step_132 ?_
      refine pt_cgt eR_step_134 ⟨by omega, by omega⟩ ⟨by omega, by omega⟩ (fun c134 => ?_) (fun c134 => ?_)
      · refine pt_ic eR_step_156 ?_
        refine pt_goto eR_step_157 ?_
        refine pt_put12 eR_step_161 hR trivial ?_
        refine pt_gen ?_
        intro hp11 ev11
        have hR := pg_s ev11
        have h_text := pg_n ev11 (by omega) h_text
        refine pt_goto eR_step_164 ?_
        refine pt_vret eR_step_260 (Nat.le_refl _) (Nat.le_refl _) ?_
        first
        | rw [if_pos (by omega)] at hS0
        | rw [if_neg (by omega)] at hS0
        refine ⟨rfl, rfl, ?_⟩
        rw [stepf_by (b := (fun x => tx x % 2 ^ 8)) (v := v) hpp hE0 hS0 hV0]
        subst hw
        rw [ev11, ev5, ev2, ev1, eva, bx_uu, bx_uu, bx_uu, bx_uu]
        rfl
      · refine pt_iload eR_step_137 rfl ?_
        refine pt_ic eR_step_138 ?_
        refine pt_cne eR_step_140 ⟨by omega, by omega⟩ ⟨by omega, by omega⟩ (fun c140 => ?_) (fun c140 => ?_)
        · refine pt_ic eR_step_160 ?_
          refine pt_put12 eR_step_161 hR trivial ?_
          refine pt_gen ?_
          intro hp12 ev12
          have hR := pg_s ev12
          have h_text := pg_n ev12 (by omega) h_text
          refine pt_goto eR_step_164 ?_
          refine pt_vret eR_step_260 (Nat.le_refl _) (Nat.le_refl _) ?_
          first
          | rw [if_pos (by omega)] at hS0
          | rw [if_neg (by omega)] at hS0
          refine ⟨rfl, rfl, ?_⟩
          rw [stepf_by (b := (fun x => tx x % 2 ^ 8)) (v := v) hpp hE0 hS0 hV0]
          subst hw
          rw [ev12, ev5, ev2, ev1, eva, bx_uu, bx_uu, bx_uu, bx_uu]
          rfl
        · refine pt_aload eR_step_143 rfl ?_
          refine pt_get eR_step_144 hR rfl ?_
          rw [hu10]
          refine pt_aload eR_step_147 rfl ?_
          refine pt_get eR_step_148 hR rfl ?_
          rw [hu11]
          refine pt_isub eR_step_151 ?_
          refine pt_ic eR_step_152 ?_
          refine pt_cle eR_step_153 ⟨by omega, by omega⟩ ⟨by omega, by omega⟩ (fun c153 => ?_) (fun c153 => ?_)
          · refine pt_ic eR_step_160 ?_
            refine pt_put12 eR_step_161 hR trivial ?_
            refine pt_gen ?_
            intro hp13 ev13
            have hR := pg_s ev13
            have h_text := pg_n ev13 (by omega) h_text
            refine pt_goto eR_step_164 ?_
            refine pt_vret eR_step_260 (Nat.le_refl _) (Nat.le_refl _) ?_
            first
            | rw [if_pos (by omega)] at hS0
            | rw [if_neg (by omega)] at hS0
            refine ⟨rfl, rfl, ?_⟩
            rw [stepf_by (b := (fun x => tx x % 2 ^ 8)) (v := v) hpp hE0 hS0 hV0]
            subst hw
            rw [ev13, ev5, ev2, ev1, eva, bx_uu, bx_uu, bx_uu, bx_uu]
            rfl
          · refine pt_ic eR_step_156 ?_
            refine pt_goto eR_step_157 ?_
            refine pt_put12 eR_step_161 hR trivial ?_
            refine pt_gen ?_
            intro hp14 ev14
            have hR := pg_s ev14
            have h_text := pg_n ev14 (by omega) h_text
            refine pt_goto eR_step_164 ?_
            refine pt_vret eR_step_260 (Nat.le_refl _) (Nat.le_refl _) ?_
            first
            | rw [if_pos (by omega)] at hS0
            | rw [if_neg (by omega)] at hS0
            refine ⟨rfl, rfl, ?_⟩
            rw [stepf_by (b := (fun x => tx x % 2 ^ 8)) (v := v) hpp hE0 hS0 hV0]
            subst hw
            rw [ev14, ev5, ev2, ev1, eva, bx_uu, bx_uu, bx_uu, bx_uu]
            rfl
  · have hE0 : tE (fun x => tx x % 2 ^ 8) (v 1) p = p := by unfold tE; rw [hc, if_pos c43]
    have hS0 : tS (fun x => tx x % 2 ^ 8) (v 1) p = 4 := by unfold tS; rw [hc, if_pos c43]
    have hV0 : tV (fun x => tx x % 2 ^ 8) (v 1) p = 0 := by unfold tV; rw [hc, if_pos c43]
    refine pt_aload eR_step_46 rfl ?_
    refine pt_ic eR_step_47 ?_
    refine pt_put12 eR_step_48 hR trivial ?_
    refine pt_gen ?_
    intro hp11 ev11
    have hR := pg_s ev11
    have h_text := pg_n ev11 (by omega) h_text
    refine pt_goto eR_step_51 ?_
    refine pt_vret eR_step_260 (Nat.le_refl _) (Nat.le_refl _) ?_
    refine ⟨rfl, rfl, ?_⟩
    rw [stepf_by (b := (fun x => tx x % 2 ^ 8)) (v := v) hpp hE0 hS0 hV0]
    subst hw
    rw [ev11, ev2, ev1, eva, bx_uu, bx_uu, bx_uu]
    rfl
def duf (b : Int → Int) (v : Nat → Int) (c : Int) : Nat → Int := if v 14 = 1 then v else if c = 1 then stepf b v else va_up v 14 1
def nuf (b : Int → Int) (v : Nat → Int) (lo hi : Int) : Nat → Int := duf b v (if v 12 = 2 ∧ lo ≤ v 13 ∧ v 13 ≤ hi then 1 else 0)
theorem duf_ok {b : Int → Int} {v : Nat → Int} {c : Int} (h : vok b v) : vok b (duf b v c) ∧ duf b v c 1 = v 1 := by
  obtain ⟨h1, h2, h3, h4, h5, h6, h7⟩ := h
  unfold duf
  split
  · exact ⟨⟨h1, h2, h3, h4, h5, h6, h7⟩, rfl⟩
  · split
    · exact ⟨(stepf_ok h1 h2.1 h2.2 h6 h7).1, rfl⟩
    · exact ⟨⟨h1, h2, h3, h4, h5, Or.inr rfl, h7⟩, rfl⟩
theorem nuf_ok {b : Int → Int} {v : Nat → Int} {lo hi : Int} (h : vok b v) : vok b (nuf b v lo hi) ∧ nuf b v lo hi 1 = v 1 := duf_ok h
theorem duf_0 {b : Int → Int} {v : Nat → Int} {c : Int} (h : v 14 = 0 ∨ v 14 = 1) (h2 : duf b v c 14 = 0) : v 14 = 0 ∧ c = 1 := by
  unfold duf at h2
  split at h2
  · omega
  · split at h2
    · exact ⟨by omega, by assumption⟩
    · exact absurd (show (1 : Int) = 0 from h2) (by decide)
theorem nuf_0 {b : Int → Int} {v : Nat → Int} {lo hi : Int} (h : v 14 = 0 ∨ v 14 = 1) (h2 : nuf b v lo hi 14 = 0) : v 14 = 0 ∧ v 12 = 2 ∧ lo ≤ v 13 ∧ v 13 ≤ hi := by
  obtain ⟨h3, h4⟩ := duf_0 h h2
  refine ⟨h3, ?_⟩
  split at h4
  · assumption
  · cases h4
theorem cR_due (G : pd_G) (sz : Nat) (hp : pd_P) {v : Nat → Int} {tx : Int → Int} (hR : hp 178 = RO v) (h_text : hp 179 = ba 150 tx) (hV : vok (fun x => tx x % 2 ^ 8) v) {c : Int} (hc : c = 0 ∨ c = 1) : pd_c G mR_due 3 [vr 178, vi c] sz hp (fun v' sz' hp' => v' = none ∧ sz' = sz ∧ hp' = va_up hp 178 (RO (duf (fun x => tx x % 2 ^ 8) v c))) := by
  refine pd_con kR_due [some (vr 178), some (vi c)] rfl rfl (Nat.le_of_ble_eq_true rfl) ?_
  obtain ⟨k1, k2, k3, k4, k5, k6, k7⟩ := hV
  refine pt_aload eR_due_0 rfl ?_
  refine pt_get eR_due_1 hR rfl ?_
  refine pt_zeq eR_due_4 ⟨by omega, by omega⟩ (fun c4 => ?_) (fun c4 => ?_)
  · refine pt_iload eR_due_8 rfl ?_
    refine pt_zeq eR_due_9 ⟨by omega, by omega⟩ (fun c9 => ?_) (fun c9 => ?_)
    · refine pt_aload eR_due_19 rfl ?_
      refine pt_ic eR_due_20 ?_
      refine pt_put14 eR_due_21 hR (Or.inr rfl) ?_
      refine pt_gen ?_
      intro hp1 ev1
      have hR := pg_s ev1
      have h_text := pg_n ev1 (by omega) h_text
      refine pt_vret eR_due_24 (Nat.le_refl _) (Nat.le_refl _) ?_
      refine ⟨rfl, rfl, ?_⟩
      first
      | (rw [show duf (fun x => tx x % 2 ^ 8) v c = stepf (fun x => tx x % 2 ^ 8) v by unfold duf; rw [if_neg (show ¬ v 14 = 1 by omega), if_pos (show c = 1 by omega)]]; exact hx9)
      | (rw [show duf (fun x => tx x % 2 ^ 8) v c = va_up v 14 1 by unfold duf; rw [if_neg (show ¬ v 14 = 1 by omega), if_neg (show ¬ c = 1 by omega)]]; exact ev1)
    · refine pt_aload eR_due_12 rfl ?_
      refine pt_kv0 eR_due_13 (cR_step G sz _ hR h_text k1 k2.1 k2.2) hR rfl (Nat.le_of_ble_eq_true rfl) (by decide) (Nat.le_refl _) (Nat.le_refl _) ?_
      rintro v2 sz2 hpx ⟨rfl, hz9, hx9⟩
      obtain rfl := hz9.symm
      refine pt_goto eR_due_16 ?_
      refine pt_vret eR_due_24 (Nat.le_refl _) (Nat.le_refl _) ?_
      refine ⟨rfl, rfl, ?_⟩
      first
      | (rw [show duf (fun x => tx x % 2 ^ 8) v c = stepf (fun x => tx x % 2 ^ 8) v by unfold duf; rw [if_neg (show ¬ v 14 = 1 by omega), if_pos (show c = 1 by omega)]]; exact hx9)
      | (rw [show duf (fun x => tx x % 2 ^ 8) v c = va_up v 14 1 by unfold duf; rw [if_neg (show ¬ v 14 = 1 by omega), if_neg (show ¬ c = 1 by omega)]]; exact ev1)
  · refine pt_vret eR_due_7 (Nat.le_refl _) (Nat.le_refl _) ?_
    refine ⟨rfl, rfl, ?_⟩
    rw [show duf (fun x => tx x % 2 ^ 8) v c = v by unfold duf; rw [if_pos (show v 14 = 1 by omega)]]
    exact pu_self hR
theorem cR_number (G : pd_G) (sz : Nat) (hp : pd_P) {v : Nat → Int} {tx : Int → Int} (hR : hp 178 = RO v) (h_text : hp 179 = ba 150 tx) (hV : vok (fun x => tx x % 2 ^ 8) v) {lo hi : Int} (j_lo : jR lo) (j_hi : jR hi) : pd_c G mR_number 4 [vr 178, vi lo, vi hi] sz hp (fun v' sz' hp' => v' = some (vi (v 13)) ∧ sz' = sz ∧ hp' = va_up hp 178 (RO (nuf (fun x => tx x % 2 ^ 8) v lo hi))) := by
  refine pd_con kR_number [some (vr 178), some (vi lo), some (vi hi), none] rfl rfl (Nat.le_of_ble_eq_true rfl) ?_
  have hV0 := hV
  obtain ⟨k1, k2, k3, k4, k5, k6, k7⟩ := hV
  refine pt_aload eR_number_0 rfl ?_
  refine pt_get eR_number_1 hR rfl ?_
  refine pt_istore3 eR_number_4 rfl ?_
  refine pt_aload eR_number_5 rfl ?_
  refine pt_aload eR_number_6 rfl ?_
  refine pt_get eR_number_7 hR rfl ?_
  refine pt_ic eR_number_10 ?_
  refine pt_cne eR_number_11 ⟨by omega, by omega⟩ ⟨by omega, by omega⟩ (fun c11 => ?_) (fun c11 => ?_)
  · try have c20 := pwi_0 c20
    refine pt_ic eR_number_27 ?_
    refine pt_kv1 eR_number_28 (cR_due G sz _ hR h_text hV0 (by omega)) hR rfl (Nat.le_of_ble_eq_true rfl) (by decide) (Nat.le_refl _) (Nat.le_refl _) ?_
    rintro v2 sz2 hpx ⟨rfl, hz9, hx9⟩
    obtain rfl := hz9.symm
    refine pt_iload eR_number_31 rfl ?_
    refine pt_iret eR_number_32 (Nat.le_refl _) (Nat.le_refl _) ?_
    refine ⟨rfl, rfl, ?_⟩
    unfold nuf
    first
    | (rw [if_pos (show v 12 = 2 ∧ lo ≤ v 13 ∧ v 13 ≤ hi by omega)]; exact hx9)
    | (rw [if_neg (show ¬ (v 12 = 2 ∧ lo ≤ v 13 ∧ v 13 ≤ hi) by omega)]; exact hx9)
  · refine pt_iload eR_number_14 rfl ?_
    refine pt_iload eR_number_15 rfl ?_
    refine pt_iload eR_number_16 rfl ?_
    refine pt_ks3r eR_number_17 (cR_in G sz _ ⟨by omega, by omega⟩ j_lo j_hi) (Nat.le_of_ble_eq_true rfl) (by decide) (Nat.le_refl _) (Nat.le_refl _) ?_
    refine pt_zeq eR_number_20 (pwi_j _ _ _) (fun c20 => ?_) (fun c20 => ?_)
    · try have c20 := pwi_0 c20
      refine pt_ic eR_number_27 ?_
      refine pt_kv1 eR_number_28 (cR_due G sz _ hR h_text hV0 (by omega)) hR rfl (Nat.le_of_ble_eq_true rfl) (by decide) (Nat.le_refl _) (Nat.le_refl _) ?_
      rintro v2 sz2 hpx ⟨rfl, hz9, hx9⟩
      obtain rfl := hz9.symm
      refine pt_iload eR_number_31 rfl ?_
      refine pt_iret eR_number_32 (Nat.le_refl _) (Nat.le_refl _) ?_
      refine ⟨rfl, rfl, ?_⟩
      unfold nuf
      first
      | (rw [if_pos (show v 12 = 2 ∧ lo ≤ v 13 ∧ v 13 ≤ hi by omega)]; exact hx9)
      | (rw [if_neg (show ¬ (v 12 = 2 ∧ lo ≤ v 13 ∧ v 13 ≤ hi) by omega)]; exact hx9)
    · have c20 := pwi_1 c20
      refine pt_ic eR_number_23 ?_
      refine pt_goto eR_number_24 ?_
      refine pt_kv1 eR_number_28 (cR_due G sz _ hR h_text hV0 (by omega)) hR rfl (Nat.le_of_ble_eq_true rfl) (by decide) (Nat.le_refl _) (Nat.le_refl _) ?_
      rintro v2 sz2 hpx ⟨rfl, hz9, hx9⟩
      obtain rfl := hz9.symm
      refine pt_iload eR_number_31 rfl ?_
      refine pt_iret eR_number_32 (Nat.le_refl _) (Nat.le_refl _) ?_
      refine ⟨rfl, rfl, ?_⟩
      unfold nuf
      first
      | (rw [if_pos (show v 12 = 2 ∧ lo ≤ v 13 ∧ v 13 ≤ hi by omega)]; exact hx9)
      | (rw [if_neg (show ¬ (v 12 = 2 ∧ lo ≤ v 13 ∧ v 13 ≤ hi) by omega)]; exact hx9)
def mayf (gd h L : Int) : Int := if L = 103 then (if gd < 4 then 1 else 0) else if L = 98 ∨ L = 109 then 1 else if L = 100 ∧ h = 0 then 1 else 0
theorem mayf_01 (gd h L : Int) : mayf gd h L = 0 ∨ mayf gd h L = 1 := by
  unfold mayf
  split
  · split <;> simp
  · split
    · simp
    · split <;> simp
theorem cR_may (G : pd_G) (sz : Nat) (hp : pd_P) {v : Nat → Int} {gf : Int → Int} {L : Int} (hR : hp 178 = RO v) (h_goods : hp 181 = ia 2 gf) (hg0 : 0 ≤ gf 1) (hg4 : gf 1 ≤ 4) (hL0 : 0 ≤ L) (hL1 : L ≤ 999) (hh : v 16 = 0 ∨ v 16 = 1) : pd_c G mR_may 0 [vr 178, vi L] sz hp (pd_pure (vi (mayf (gf 1) (v 16) L)) sz hp) := by
  refine pd_con kR_may [some (vr 178), some (vi L)] rfl rfl (Nat.le_of_ble_eq_true rfl) ?_
  refine pt_iload eR_may_0 rfl ?_
  rcases (show L = 98 ∨ L = 103 ∨ L = 109 ∨ (L ≠ 98 ∧ L ≠ 103 ∧ L ≠ 109) by omega) with rfl | rfl | rfl | hsw
  · refine pt_lsw (t := 52) (off := 51) eR_may_1 ⟨by decide, by decide⟩ (by decide) rfl (by decide) ?_
    refine pt_ic eR_may_52 ?_
    refine pt_iret (eR_may_53 (by omega)) (Nat.le_refl _) (Nat.le_refl _) ?_
    exact ⟨rfl, rfl, rfl⟩
  · refine pt_lsw (t := 36) (off := 35) eR_may_1 ⟨by decide, by decide⟩ (by decide) rfl (by decide) ?_
    refine pt_aload eR_may_36 rfl ?_
    refine pt_get eR_may_37 hR rfl ?_
    refine pt_ic eR_may_40 ?_
    refine pt_iald eR_may_41 h_goods (by omega) (by omega) (by decide) ?_
    refine pt_ic eR_may_42 ?_
    refine pt_cge eR_may_43 ⟨by omega, by omega⟩ ⟨by omega, by omega⟩ (fun c43 => ?_) (fun c43 => ?_)
    · refine pt_ic eR_may_50 ?_
      refine pt_iret (eR_may_51 (by omega)) (Nat.le_refl _) (Nat.le_refl _) ?_
      refine ⟨?_, rfl, rfl⟩
      unfold mayf
      congr 2
      first | (rw [if_pos (by decide), if_pos (by omega)]; done) | (rw [if_pos (by decide), if_neg (by omega)]; done)
    · refine pt_ic eR_may_46 ?_
      refine pt_goto eR_may_47 ?_
      refine pt_iret (eR_may_51 (by omega)) (Nat.le_refl _) (Nat.le_refl _) ?_
      refine ⟨?_, rfl, rfl⟩
      unfold mayf
      congr 2
      first | (rw [if_pos (by decide), if_pos (by omega)]; done) | (rw [if_pos (by decide), if_neg (by omega)]; done)
  · refine pt_lsw (t := 52) (off := 51) eR_may_1 ⟨by decide, by decide⟩ (by decide) rfl (by decide) ?_
    refine pt_ic eR_may_52 ?_
    refine pt_iret (eR_may_53 (by omega)) (Nat.le_refl _) (Nat.le_refl _) ?_
    exact ⟨rfl, rfl, rfl⟩
  · refine pt_lsw (t := 54) (off := 53) eR_may_1 ⟨by omega, by omega⟩ (by decide) (by rw [Op.lookupswitch.offset_cons, if_neg (by omega), Op.lookupswitch.offset_cons, if_neg (by omega), Op.lookupswitch.offset_cons, if_neg (by omega), Op.lookupswitch.offset_nil]) (by decide) ?_
    refine pt_iload eR_may_54 rfl ?_
    refine pt_ic eR_may_55 ?_
    refine pt_cne eR_may_57 ⟨by omega, by omega⟩ ⟨by omega, by omega⟩ (fun c57 => ?_) (fun c57 => ?_)
    · refine pt_ic eR_may_71 ?_
      refine pt_iret (eR_may_72 (by omega)) (Nat.le_refl _) (Nat.le_refl _) ?_
      refine ⟨?_, rfl, rfl⟩
      unfold mayf
      congr 2
      rw [if_neg (by omega), if_neg (by omega)]
      first | (rw [if_pos (by omega)]; done) | (rw [if_neg (by omega)]; done)
    · refine pt_aload eR_may_60 rfl ?_
      refine pt_get eR_may_61 hR rfl ?_
      refine pt_zne eR_may_64 ⟨by omega, by omega⟩ (fun c64 => ?_) (fun c64 => ?_)
      · refine pt_ic eR_may_71 ?_
        refine pt_iret (eR_may_72 (by omega)) (Nat.le_refl _) (Nat.le_refl _) ?_
        refine ⟨?_, rfl, rfl⟩
        unfold mayf
        congr 2
        rw [if_neg (by omega), if_neg (by omega)]
        first | (rw [if_pos (by omega)]; done) | (rw [if_neg (by omega)]; done)
      · refine pt_ic eR_may_67 ?_
        refine pt_goto eR_may_68 ?_
        refine pt_iret (eR_may_72 (by omega)) (Nat.le_refl _) (Nat.le_refl _) ?_
        refine ⟨?_, rfl, rfl⟩
        unfold mayf
        congr 2
        rw [if_neg (by omega), if_neg (by omega)]
        first | (rw [if_pos (by omega)]; done) | (rw [if_neg (by omega)]; done)
