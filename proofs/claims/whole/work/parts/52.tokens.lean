/-! tokens, items, the whole text: as numbers -/
def tkp (b : Int → Int) (n a : Int) : Int := ren b n 32 32 a
def te (b : Int → Int) (n a : Int) : Int := tE b n (tkp b n a)
def ts (b : Int → Int) (n a : Int) : Int := tS b n (tkp b n a)
def tv (b : Int → Int) (n a : Int) : Int := tV b n (tkp b n a)
def tk (b : Int → Int) (n a : Int) : Nat → Int
  | 0 => a
  | j + 1 => te b n (tk b n a j)
theorem te_r {b : Int → Int} {n a : Int} (h : okX b n) (h0 : 0 ≤ a) (h1 : a ≤ n) : a ≤ te b n a ∧ te b n a ≤ n ∧ (ts b n a ≠ 4 → a < te b n a) ∧ (a ≤ tkp b n a ∧ tkp b n a ≤ n) ∧ (0 ≤ tv b n a ∧ tv b n a ≤ 999) ∧ (1 ≤ ts b n a ∧ ts b n a ≤ 5) := by
  have hp := ren_r (b := b) (lo := 32) (hi := 32) h1
  have he := tE_r h (show 0 ≤ ren b n 32 32 a by omega) hp.2
  have hs := tS_r h (show 0 ≤ ren b n 32 32 a by omega)
  have hv := tV_b h (show 0 ≤ ren b n 32 32 a by omega) hp.2
  refine ⟨?_, he.2.1, fun hk => ?_, hp, hv, ⟨hs.1, hs.2.1⟩⟩
  · show a ≤ tE b n (ren b n 32 32 a); omega
  · have hk2 : tS b n (ren b n 32 32 a) ≠ 4 := hk
    have := he.2.2 (hs.2.2 hk2)
    show a < tE b n (ren b n 32 32 a)
    omega
theorem tk_r {b : Int → Int} {n a : Int} (h : okX b n) (h0 : 0 ≤ a) (h1 : a ≤ n) : ∀ j : Nat, a ≤ tk b n a j ∧ tk b n a j ≤ n
  | 0 => ⟨Int.le_refl _, h1⟩
  | j + 1 => by
    have ih := tk_r h h0 h1 j
    have := te_r h (show 0 ≤ tk b n a j by omega) ih.2
    exact ⟨by show a ≤ te b n (tk b n a j); omega, this.2.1⟩
theorem tk_a {b : Int → Int} {n a : Int} : ∀ j : Nat, tk b n a (j + 1) = tk b n (te b n a) j
  | 0 => rfl
  | j + 1 => by show te b n (tk b n a (j + 1)) = te b n (tk b n (te b n a) j); rw [tk_a j]
theorem tk_lt {b : Int → Int} {n a : Int} (h : okX b n) (h0 : 0 ≤ a) (h1 : a ≤ n) (h4 : ts b n a ≠ 4) (j : Nat) : a < tk b n a (j + 1) := by
  rw [tk_a]
  have h2 := te_r h h0 h1
  have h3 := tk_r h (show 0 ≤ te b n a by omega) h2.2.1 j
  have := h2.2.2.1 h4
  omega
/-- the j-th token of an item that begins at a is read; or one before could not stand there -/
def SV (b : Int → Int) (n a : Int) (j : Nat) (F : Int) (v : Nat → Int) : Prop := (F = -1 ∧ v 14 = 0 ∧ v 10 = tk b n a (j + 1) ∧ v 11 = tkp b n (tk b n a j) ∧ v 12 = ts b n (tk b n a j) ∧ v 13 = tv b n (tk b n a j)) ∨ (0 ≤ F ∧ v 14 = 1 ∧ v 11 = tkp b n (tk b n a F.toNat))
def upF (F : Int) (j : Nat) (c : Int) : Int := if F = -1 ∧ c ≠ 1 then (j : Int) else F
theorem SV_duf {b : Int → Int} {n a F c c2 : Int} {j : Nat} {v : Nat → Int} (h : SV b n a j F v) (hn : v 1 = n) (hc : F = -1 → (c2 = 1 ↔ c = 1)) : SV b n a (j + 1) (upF F j c) (duf b v c2) := by
  rcases h with ⟨rfl, h1, h2, h3, h4, h5⟩ | ⟨h0, h1, h2⟩
  · have hc := hc rfl
    unfold duf upF
    rw [if_neg (show ¬ v 14 = 1 by omega)]
    by_cases h6 : c = 1
    · rw [if_pos (hc.mpr h6), if_neg (fun z => z.2 h6)]
      subst hn
      refine Or.inl ⟨rfl, h1, ?_, ?_, ?_, ?_⟩
      · show te b (v 1) (v 10) = te b (v 1) (tk b (v 1) a (j + 1)); rw [h2]
      · show tkp b (v 1) (v 10) = tkp b (v 1) (tk b (v 1) a (j + 1)); rw [h2]
      · show ts b (v 1) (v 10) = ts b (v 1) (tk b (v 1) a (j + 1)); rw [h2]
      · show tv b (v 1) (v 10) = tv b (v 1) (tk b (v 1) a (j + 1)); rw [h2]
    · rw [if_neg (fun z => h6 (hc.mp z)), if_pos ⟨rfl, h6⟩]
      exact Or.inr ⟨by omega, rfl, by rw [Int.toNat_natCast]; exact h3⟩
  · have e1 : duf b v c2 = v := by unfold duf; rw [if_pos h1]
    have e2 : upF F j c = F := by unfold upF; rw [if_neg (by omega)]
    rw [e1, e2]
    exact Or.inr ⟨h0, h1, h2⟩
def okt (b : Int → Int) (n lo hi x : Int) : Int := if ts b n x = 2 ∧ lo ≤ tv b n x ∧ tv b n x ≤ hi then 1 else 0
theorem SV_nuf {b : Int → Int} {n a F lo hi : Int} {j : Nat} {v : Nat → Int} (h : SV b n a j F v) (hn : v 1 = n) : SV b n a (j + 1) (upF F j (okt b n lo hi (tk b n a j))) (nuf b v lo hi) := by
  refine SV_duf h hn (fun hF => ?_)
  rcases h with ⟨-, h1, h2, h3, h4, h5⟩ | ⟨h0, -, -⟩
  · rw [h4, h5]
    exact Iff.rfl
  · omega
theorem SV_st {b : Int → Int} {n a F : Int} {j : Nat} {v : Nat → Int} (h : SV b n a j F v) (hn : v 1 = n) : SV b n a (j + 1) (upF F j (if ts b n (tk b n a j) = 3 then 1 else 0)) (duf b v (if v 12 = 3 then 1 else 0)) := by
  refine SV_duf h hn (fun hF => ?_)
  rcases h with ⟨-, h1, h2, h3, h4, h5⟩ | ⟨h0, -, -⟩
  · rw [h4]
  · omega
theorem SV_14 {b : Int → Int} {n a F : Int} {j : Nat} {v : Nat → Int} (h : SV b n a j F v) : (v 14 = 0 ↔ F = -1) ∧ (v 14 = 1 ↔ 0 ≤ F) ∧ (F = -1 ∨ 0 ≤ F) := by
  rcases h with ⟨h0, h1, -⟩ | ⟨h0, h1, -⟩ <;> omega
/-- what an item wants -/
def nuN (L : Int) : Nat := if L = 103 then 4 else if L = 100 then 2 else 3
def loN (L : Int) (i : Nat) : Int := if L = 100 ∨ (L = 103 ∧ i = 2) then 1 else 0
def hiN (gd L : Int) (i : Nat) : Int := if L = 103 then (if i = 0 then 60 else 9) else if L = 100 then 9 else if i = 0 then 19 else if i = 1 then gd - 1 else 30
def chF (F0 : Int) (ok : Nat → Int) : Nat → Int
  | 0 => F0
  | i + 1 => upF (chF F0 ok i) (i + 1) (ok i)
def okI (b : Int → Int) (n gd L a : Int) (i : Nat) : Int := okt b n (loN L i) (hiN gd L i) (tk b n a (i + 1))
def beI (b : Int → Int) (n gd h a : Int) : Int := if ts b n a = 1 then mayf gd h (tv b n a) else 0
def enI (b : Int → Int) (n x : Int) : Int := if ts b n x = 3 then 1 else 0
def ifl (b : Int → Int) (n gd h a : Int) : Int := upF (chF (upF (-1) 0 (beI b n gd h a)) (okI b n gd (tv b n a) a) (nuN (tv b n a))) (nuN (tv b n a) + 1) (enI b n (tk b n a (nuN (tv b n a) + 1)))
def ipq (q : Nat → Int → Int) (L x0 x1 x2 x3 : Int) : Nat → Int → Int := if L = 103 then rgq q x0 x1 x2 x3 else if L = 98 then roq q 8 x0 x1 x2 else if L = 109 then roq q 9 x0 x1 x2 else rdq q x0 x1
def ipa (b : Int → Int) (n : Int) (q : Nat → Int → Int) (a : Int) : Nat → Int → Int := ipq q (tv b n a) (tv b n (tk b n a 1)) (tv b n (tk b n a 2)) (tv b n (tk b n a 3)) (tv b n (tk b n a 4))
def iph (h L : Int) : Int := if L = 100 then 1 else h
def rdf (b : Int → Int) (n : Int) : Nat → (Nat → Int → Int) → Int → Int → Int → Int × (Nat → Int → Int)
  | 0, q, _, a, _ => (-10 - a, q)
  | f + 1, q, h, a, k => if ts b n a = 4 then (k, q) else if 0 ≤ ifl b n (q 3 1) h a then (-10 - tkp b n (tk b n a (ifl b n (q 3 1) h a).toNat), q) else rdf b n f (ipa b n q a) (iph h (tv b n a)) (tk b n a (nuN (tv b n a) + 2)) (k + 1)
theorem upF_st {F : Int} {j : Nat} {c : Int} (h : 0 ≤ F) : upF F j c = F := by unfold upF; rw [if_neg (by omega)]
theorem upF_1 {F : Int} {j : Nat} {c : Int} (h : c = 1) : upF F j c = F := by unfold upF; rw [if_neg (fun z => z.2 h)]
theorem upF_0 {j : Nat} {c : Int} (h : c ≠ 1) : upF (-1) j c = (j : Int) := by unfold upF; rw [if_pos ⟨rfl, h⟩]
theorem upF_r {F : Int} {j : Nat} {c : Int} (h : F = -1 ∨ 0 ≤ F) : upF F j c = -1 ∨ 0 ≤ upF F j c := by unfold upF; split <;> omega
theorem chF_st {F0 : Int} {ok : Nat → Int} {i : Nat} (h : 0 ≤ chF F0 ok i) : ∀ k : Nat, chF F0 ok (i + k) = chF F0 ok i
  | 0 => rfl
  | k + 1 => by
    show upF (chF F0 ok (i + k)) (i + k + 1) (ok (i + k)) = _
    rw [chF_st h k, upF_st h]
theorem upF_m {F : Int} {j : Nat} {c : Int} (h : upF F j c = -1) (h2 : F = -1 ∨ 0 ≤ F) : F = -1 ∧ c = 1 := by
  unfold upF at h
  split at h
  · omega
  · rename_i h3
    refine ⟨h, ?_⟩
    by_cases hc : c = 1
    · exact hc
    · exact absurd ⟨h, hc⟩ h3
theorem chF_m {ok : Nat → Int} : ∀ m : Nat, chF (-1) ok m = -1 ∨ 0 ≤ chF (-1) ok m
  | 0 => Or.inl rfl
  | m + 1 => upF_r (chF_m m)
theorem chF_1 {ok : Nat → Int} : ∀ m : Nat, chF (-1) ok m = -1 → ∀ i, i < m → ok i = 1
  | 0, _, i, hi => absurd hi (by omega)
  | m + 1, h, i, hi => by
    have h2 := upF_m (show upF (chF (-1) ok m) (m + 1) (ok m) = -1 from h) (chF_m m)
    by_cases him : i = m
    · rw [him]; exact h2.2
    · exact chF_1 m h2.1 i (by omega)
/-- an item that can't begin -/
theorem ifl_0 {b : Int → Int} {n gd h a : Int} (h0 : beI b n gd h a ≠ 1) : ifl b n gd h a = 0 := by
  unfold ifl
  rw [upF_0 h0]
  have e1 := chF_st (F0 := ((0 : Nat) : Int)) (ok := okI b n gd (tv b n a) a) (i := 0) (by show (0 : Int) ≤ ((0 : Nat) : Int); omega) (nuN (tv b n a))
  rw [Nat.zero_add] at e1
  rw [e1]
  show upF ((0 : Nat) : Int) _ _ = 0
  rw [upF_st (by omega)]
  rfl
theorem ifl_1 {b : Int → Int} {n gd h a : Int} (h0 : beI b n gd h a = 1) : ifl b n gd h a = upF (chF (-1) (okI b n gd (tv b n a) a) (nuN (tv b n a))) (nuN (tv b n a) + 1) (enI b n (tk b n a (nuN (tv b n a) + 1))) := by
  unfold ifl
  rw [upF_1 h0]
/-- all of an item that stands -/
theorem ifl_m {b : Int → Int} {n gd h a : Int} (hm : ifl b n gd h a = -1) : beI b n gd h a = 1 ∧ (∀ i, i < nuN (tv b n a) → okI b n gd (tv b n a) a i = 1) ∧ enI b n (tk b n a (nuN (tv b n a) + 1)) = 1 := by
  by_cases h0 : beI b n gd h a = 1
  · rw [ifl_1 h0] at hm
    have h2 := upF_m hm (chF_m _)
    exact ⟨h0, chF_1 _ h2.1, h2.2⟩
  · rw [ifl_0 h0] at hm
    cases hm
theorem beI_1 {b : Int → Int} {n gd h a : Int} (h0 : beI b n gd h a = 1) : ts b n a = 1 ∧ ((tv b n a = 103 ∧ gd < 4) ∨ tv b n a = 98 ∨ tv b n a = 109 ∨ (tv b n a = 100 ∧ h = 0)) := by
  unfold beI mayf at h0
  split at h0
  · rename_i h1
    refine ⟨h1, ?_⟩
    split at h0
    · rename_i h2
      split at h0
      · rename_i h3; exact Or.inl ⟨h2, h3⟩
      · cases h0
    · split at h0
      · omega
      · split at h0
        · omega
        · cases h0
  · cases h0
/-! what of the reference's rows stays while a text is read -/
def LV (q r : Nat → Int → Int) : Prop := (∀ j, j < 2 ∨ 9 < j → r j = q j) ∧ (r 2 0 = q 2 0 ∧ r 2 1 = q 2 1 ∧ r 3 0 = q 3 0) ∧ (∀ g, 0 ≤ g → g < 4 → r 4 g = q 4 g ∧ r 5 g = q 5 g ∧ r 6 g = q 6 g ∧ r 7 g = q 7 g) ∧ ∀ k, 0 ≤ k → k < 80 → r 8 k = q 8 k ∧ r 9 k = q 9 k
def VV (v u : Nat → Int) : Prop := ∀ j, j < 10 ∨ 16 < j → u j = v j
theorem LV.rf {q : Nat → Int → Int} : LV q q := ⟨fun _ _ => rfl, ⟨rfl, rfl, rfl⟩, fun _ _ _ => ⟨rfl, rfl, rfl, rfl⟩, fun _ _ _ => ⟨rfl, rfl⟩⟩
theorem LV.tr {q r s : Nat → Int → Int} (h : LV q r) (g : LV r s) : LV q s :=
  ⟨fun j hj => (g.1 j hj).trans (h.1 j hj), ⟨g.2.1.1.trans h.2.1.1, g.2.1.2.1.trans h.2.1.2.1, g.2.1.2.2.trans h.2.1.2.2⟩, fun k h0 h1 => ⟨(g.2.2.1 k h0 h1).1.trans (h.2.2.1 k h0 h1).1, (g.2.2.1 k h0 h1).2.1.trans (h.2.2.1 k h0 h1).2.1, (g.2.2.1 k h0 h1).2.2.1.trans (h.2.2.1 k h0 h1).2.2.1, (g.2.2.1 k h0 h1).2.2.2.trans (h.2.2.1 k h0 h1).2.2.2⟩, fun k h0 h1 => ⟨(g.2.2.2 k h0 h1).1.trans (h.2.2.2 k h0 h1).1, (g.2.2.2 k h0 h1).2.trans (h.2.2.2 k h0 h1).2⟩⟩
theorem VV.rf {v : Nat → Int} : VV v v := fun _ _ => rfl
theorem VV.tr {v u w : Nat → Int} (h : VV v u) (g : VV u w) : VV v w := fun j hj => (g j hj).trans (h j hj)
theorem VV.up {v u : Nat → Int} (h : VV v u) {k : Nat} (x : Int) (hk : 10 ≤ k ∧ k ≤ 16) : VV v (va_up u k x) := fun j hj => by rw [va_up_ne _ _ (by omega)]; exact h j hj
theorem VV.st {v u : Nat → Int} {b : Int → Int} (h : VV v u) : VV v (stepf b u) := (((h.up _ (by decide)).up _ (by decide)).up _ (by decide)).up _ (by decide)
theorem VV.du {v u : Nat → Int} {b : Int → Int} {c : Int} (h : VV v u) : VV v (duf b u c) := by
  unfold duf
  split
  · exact h
  · split
    · exact h.st
    · exact h.up _ (by decide)
theorem VV.nu {v u : Nat → Int} {b : Int → Int} {lo hi : Int} (h : VV v u) : VV v (nuf b u lo hi) := h.du
theorem rgq_LV {q : Nat → Int → Int} {x0 x1 x2 x3 : Int} (h : 0 ≤ q 3 1) : LV q (rgq q x0 x1 x2 x3) := by
  refine ⟨fun j hj => ?_, ⟨rfl, rfl, ?_⟩, fun g h0 h4 => ⟨?_, ?_, ?_, ?_⟩, fun k _ _ => ⟨rfl, rfl⟩⟩
  · unfold rgq
    rw [va_up_ne _ _ (by omega), va_up_ne _ _ (by omega), va_up_ne _ _ (by omega), va_up_ne _ _ (by omega), va_up_ne _ _ (by omega)]
  · show uI (q 3) 1 (q 3 1 + 1) 0 = q 3 0; rw [uI_n _ _ (by decide)]
  · show uI (q 4) (4 + q 3 1) x0 g = q 4 g; rw [uI_n _ _ (by omega)]
  · show uI (q 5) (4 + q 3 1) x1 g = q 5 g; rw [uI_n _ _ (by omega)]
  · show uI (q 6) (4 + q 3 1) x2 g = q 6 g; rw [uI_n _ _ (by omega)]
  · show uI (q 7) (4 + q 3 1) x3 g = q 7 g; rw [uI_n _ _ (by omega)]
theorem rdq_LV {q : Nat → Int → Int} {x0 x1 : Int} : LV q (rdq q x0 x1) := by
  refine ⟨fun j hj => ?_, ⟨?_, ?_, rfl⟩, fun g h0 h4 => ⟨rfl, rfl, rfl, rfl⟩, fun k _ _ => ⟨rfl, rfl⟩⟩
  · unfold rdq; rw [va_up_ne _ _ (by omega)]
  · show uI (uI (q 2) 2 x0) 3 x1 0 = q 2 0; rw [uI_n _ _ (by decide), uI_n _ _ (by decide)]
  · show uI (uI (q 2) 2 x0) 3 x1 1 = q 2 1; rw [uI_n _ _ (by decide), uI_n _ _ (by decide)]
theorem roq_LV8 {q : Nat → Int → Int} {x0 x1 x2 : Int} (h0 : 0 ≤ x0) (h1 : 0 ≤ x1) : LV q (roq q 8 x0 x1 x2) := by
  refine ⟨fun j hj => ?_, ⟨rfl, rfl, rfl⟩, fun g h0 h4 => ⟨rfl, rfl, rfl, rfl⟩, fun k k0 k1 => ⟨?_, rfl⟩⟩
  · unfold roq; rw [va_up_ne _ _ (by omega)]
  · show uI (q 8) (80 + 4 * x0 + x1) x2 k = q 8 k; rw [uI_n _ _ (by omega)]
theorem roq_LV9 {q : Nat → Int → Int} {x0 x1 x2 : Int} (h0 : 0 ≤ x0) (h1 : 0 ≤ x1) : LV q (roq q 9 x0 x1 x2) := by
  refine ⟨fun j hj => ?_, ⟨rfl, rfl, rfl⟩, fun g h0 h4 => ⟨rfl, rfl, rfl, rfl⟩, fun k k0 k1 => ⟨rfl, ?_⟩⟩
  · unfold roq; rw [va_up_ne _ _ (by omega)]
  · show uI (q 9) (80 + 4 * x0 + x1) x2 k = q 9 k; rw [uI_n _ _ (by omega)]
