/-! by which laws -/
def gla (mo mt : Int → Int) (m : Nat) (j : Int) : Int := asn (fun d => lawf d (j / 9 + 1) (j % 9 + 1)) mo mt m
def lvl (j : Int) : Int := 10 * (j / 9 + 1) + (j % 9 + 1)
theorem gla_at {mo mt : Int → Int} {m : Nat} {e b : Int} (h0 : 1 ≤ e) (h1 : 1 ≤ b) (h2 : b ≤ 9) : gla mo mt m (9 * (e - 1) + (b - 1)) = asn (fun d => lawf d e b) mo mt m := by
  unfold gla
  rw [show (9 * (e - 1) + (b - 1)) / 9 + 1 = e by omega, show (9 * (e - 1) + (b - 1)) % 9 + 1 = b by omega]
theorem lvl_at {e b : Int} (h0 : 1 ≤ e) (h1 : 1 ≤ b) (h2 : b ≤ 9) : lvl (9 * (e - 1) + (b - 1)) = 10 * e + b := by
  unfold lvl
  omega
theorem fsd_f {h : Int → Int} {n : Nat} {a : Int} : fsd h (n + 1) a = if fsd h n a < a + n then fsd h n a else if 0 < h (a + n) then a + n else a + n + 1 := by
  obtain ⟨s1, s2, s3, s4⟩ := fsd_sp (h := h) n a
  split
  · rename_i hc
    exact fsd_un s1 (by omega) (fun _ => s3 hc) s4
  · rename_i hc
    have he : fsd h n a = a + n := by omega
    rw [he] at s4
    split
    · rename_i hd
      exact fsd_un (by omega) (by omega) (fun _ => hd) s4
    · rename_i hd
      refine fsd_un (by omega) (by omega) (fun h1 => absurd h1 (by omega)) (fun x h1 h2 => ?_)
      by_cases hx : x = a + n
      · rw [hx]; exact hd
      · exact s4 x h1 (by omega)
/-- found from behind: places k and above; from ahead: places below k -/
def fob (h : Int → Int) (k : Int) : Int := if fsd h (81 - k).toNat k < 81 then lvl (fsd h (81 - k).toNat k) else -9
def fof (h : Int → Int) (k : Int) : Int := if fsd h k.toNat 0 < k then lvl (fsd h k.toNat 0) else -9
theorem fob_s {h : Int → Int} {k : Int} (h0 : 0 ≤ k) (h1 : k < 81) : fob h k = if 0 < h k then lvl k else fob h (k + 1) := by
  unfold fob
  rw [show (81 - k).toNat = (81 - (k + 1)).toNat + 1 by omega, fsd]
  split
  · first | rfl | rw [if_pos h1]
  · rfl
theorem fob_e (h : Int → Int) : fob h 81 = -9 := by
  unfold fob
  rw [if_neg]
  show ¬ (81 : Int) < 81
  omega
theorem fof_s {h : Int → Int} {k : Int} (h0 : 0 ≤ k) : fof h (k + 1) = if fsd h k.toNat 0 < k then fof h k else if 0 < h k then lvl k else -9 := by
  obtain ⟨s1, s2, s3, s4⟩ := fsd_sp (h := h) k.toNat 0
  unfold fof
  rw [show (k + 1).toNat = k.toNat + 1 by omega, fsd_f, Int.toNat_of_nonneg h0, Int.zero_add]
  by_cases hc : fsd h k.toNat 0 < k
  · rw [if_pos hc, if_pos hc, if_pos (by omega), if_pos hc]
  · rw [if_neg hc, if_neg hc]
    by_cases hd : 0 < h k
    · rw [if_pos hd, if_pos (by omega), if_pos hd]
    · rw [if_neg hd, if_neg (by omega), if_neg hd]
theorem fof_c {h : Int → Int} {k : Int} (h0 : 0 ≤ k) : (fsd h k.toNat 0 < k ↔ ¬ fof h k = -9) ∧ -9 ≤ fof h k ∧ (k ≤ 81 → fof h k ≤ 99) := by
  obtain ⟨s1, s2, s3, s4⟩ := fsd_sp (h := h) k.toNat 0
  unfold fof
  by_cases hc : fsd h k.toNat 0 < k
  · rw [if_pos hc]
    have hl : lvl (fsd h k.toNat 0) = 10 * (fsd h k.toNat 0 / 9 + 1) + (fsd h k.toNat 0 % 9 + 1) := rfl
    exact ⟨⟨fun _ => by omega, fun _ => hc⟩, by omega, fun _ => by omega⟩
  · rw [if_neg hc]
    exact ⟨⟨fun h1 => absurd h1 hc, fun h1 => absurd rfl h1⟩, by omega, fun _ => by omega⟩
theorem fof_81 (h : Int → Int) : fof h 81 = fob h 0 := rfl
theorem gla_01 (mo mt : Int → Int) (m : Nat) (j : Int) : gla mo mt m j = 0 ∨ gla mo mt m j = 1 := asn_01 _ _ _ _
def rLaws (q : Nat → Int → Int) (v : Nat → Int) (w : Int) : Int := if ¬ (0 ≤ w ∧ w ≤ 1) then -1 else if w = 0 then sm (gla (q 27) (q 28) (v 29).toNat) 81 else fof (gla (q 27) (q 28) (v 29).toNat) 81
theorem sm_n {f : Int → Int} {n : Nat} : sm f (n + 1) = sm f n + f n := rfl
theorem sm_b {f : Int → Int} (h : ∀ j, f j = 0 ∨ f j = 1) : ∀ n : Nat, 0 ≤ sm f n ∧ sm f n ≤ n
  | 0 => ⟨Int.le_refl _, Int.le_refl _⟩
  | n + 1 => by
    have h1 := sm_b h n
    have h2 := h n
    rw [sm]
    omega
theorem lR_laws1 (G : pd_G) (sz : Nat) (hp : pd_P) {v : Nat → Int} {mo mt : Int → Int} {w : Int} (hR : hp 178 = RO v) (h_markOf : hp 197 = ia 4 mo) (h_markTo : hp 198 = ia 4 mt) (im0 : 0 ≤ v 29) (im4 : v 29 ≤ 4) (imx : ∀ i, 0 ≤ i → i < v 29 → (0 ≤ mo i ∧ mo i < 20) ∧ (mt i = -9 ∨ (0 ≤ mt i ∧ mt i < 20))) {n0 fo e b : Int} (he0 : 1 ≤ e) (he1 : e ≤ 9) (hb0 : 1 ≤ b) (hb1 : b ≤ 9) {R : pd_R} (hx : ∀  (hp0 : pd_P), hp0 = hp → pd_t G mR_laws 1 R 93 [some (vr 178), some (vi w), some (vi n0), some (vi fo), some (vi e), some (vi b), some (vi (asn (fun d => lawf d e b) mo mt (v 29 : Int).toNat)), some (vi (v 29))] [] sz hp0) : ∀ (n : Nat) (i : Int)  (hp0 : pd_P), 0 ≤ i → i + n = v 29 → hp0 = hp → pd_t G mR_laws 1 R 42 [some (vr 178), some (vi w), some (vi n0), some (vi fo), some (vi e), some (vi b), some (vi (asn (fun d => lawf d e b) mo mt (i : Int).toNat)), some (vi (i))] [] sz hp0 := by
  intro n
  induction n with
  | zero =>
    intro i  hp0 hi0 hiE heq0
    have hiE2 : v 29 = i := by omega
    subst hiE2
    have hx2 := hx  hp0 heq0
    rw [heq0] at hx2
    rw [heq0]
    refine pt_iload eR_laws_42 rfl ?_
    refine pt_aload eR_laws_44 rfl ?_
    refine pt_get eR_laws_45 hR rfl ?_
    refine pt_cge eR_laws_48 ⟨by omega, by omega⟩ ⟨by omega, by omega⟩ (fun c48 => ?_) (fun c48 => ?_)
    · exact hx2
    · exfalso; omega
  | succ n ih =>
    intro i  hp0 hi0 hiE heq0
    rw [heq0]
    refine pt_iload eR_laws_42 rfl ?_
    refine pt_aload eR_laws_44 rfl ?_
    refine pt_get eR_laws_45 hR rfl ?_
    refine pt_cge eR_laws_48 ⟨by omega, by omega⟩ ⟨by omega, by omega⟩ (fun c48 => ?_) (fun c48 => ?_)
    · exfalso; omega
    · have hx9 := imx i hi0 (by omega)
      have e9 := asn_s (S := fun d => lawf d e b) (sg := mo) (si := mt) hi0
      have hr9 := lawf_r (ev := e) (bk := b) (d := mo i) hb0 (by omega)
      refine pt_iload eR_laws_51 rfl ?_
      refine pt_zeq eR_laws_53 (asn_j _ _ _ _) (fun c53 => ?_) (fun c53 => ?_)
      · refine pt_ic eR_laws_84 ?_
        refine pt_istore6 eR_laws_85 rfl ?_
        refine pt_inc7 eR_laws_87 rfl ?_
        refine pt_goto eR_laws_90 ?_
        refine pt_lve [some (vr 178), some (vi w), some (vi n0), some (vi fo), some (vi e), some (vi b), some (vi (asn (fun d => lawf d e b) mo mt (i + 1 : Int).toNat)), some (vi (i + 1))] (by first | (rw [e9, if_pos c53]; done) | (rw [e9, if_neg c53, if_neg c77]; done) | (rw [e9, if_neg c53, if_pos c77]; done)) ?_
        exact ih (i + 1)  hp (by omega) (by omega) rfl 
      · refine pt_aload eR_laws_56 rfl ?_
        refine pt_get eR_laws_57 hR rfl ?_
        refine pt_iload eR_laws_60 rfl ?_
        refine pt_iald eR_laws_62 h_markOf (by omega) (by omega) (by decide) ?_
        refine pt_iload eR_laws_63 rfl ?_
        refine pt_iload eR_laws_65 rfl ?_
        refine pt_ks3r eR_laws_67 (cR_lawOn G sz _ he0 he1 hb0 hb1 (by omega) (by omega)) (Nat.le_of_ble_eq_true rfl) (by decide) (Nat.le_refl _) (Nat.le_refl _) ?_
        refine pt_aload eR_laws_70 rfl ?_
        refine pt_get eR_laws_71 hR rfl ?_
        refine pt_iload eR_laws_74 rfl ?_
        refine pt_iald eR_laws_76 h_markTo (by omega) (by omega) (by decide) ?_
        refine pt_cne eR_laws_77 ⟨by omega, by omega⟩ ⟨by omega, by omega⟩ (fun c77 => ?_) (fun c77 => ?_)
        · refine pt_ic eR_laws_84 ?_
          refine pt_istore6 eR_laws_85 rfl ?_
          refine pt_inc7 eR_laws_87 rfl ?_
          refine pt_goto eR_laws_90 ?_
          refine pt_lve [some (vr 178), some (vi w), some (vi n0), some (vi fo), some (vi e), some (vi b), some (vi (asn (fun d => lawf d e b) mo mt (i + 1 : Int).toNat)), some (vi (i + 1))] (by first | (rw [e9, if_pos c53]; done) | (rw [e9, if_neg c53, if_neg c77]; done) | (rw [e9, if_neg c53, if_pos c77]; done)) ?_
          exact ih (i + 1)  hp (by omega) (by omega) rfl 
        · refine pt_ic eR_laws_80 ?_
          refine pt_goto eR_laws_81 ?_
          refine pt_istore6 eR_laws_85 rfl ?_
          refine pt_inc7 eR_laws_87 rfl ?_
          refine pt_goto eR_laws_90 ?_
          refine pt_lve [some (vr 178), some (vi w), some (vi n0), some (vi fo), some (vi e), some (vi b), some (vi (asn (fun d => lawf d e b) mo mt (i + 1 : Int).toNat)), some (vi (i + 1))] (by first | (rw [e9, if_pos c53]; done) | (rw [e9, if_neg c53, if_neg c77]; done) | (rw [e9, if_neg c53, if_pos c77]; done)) ?_
          exact ih (i + 1)  hp (by omega) (by omega) rfl 
theorem lR_laws2 (G : pd_G) (sz : Nat) (hp : pd_P) {v : Nat → Int} {mo mt : Int → Int} {w : Int} (hR : hp 178 = RO v) (h_markOf : hp 197 = ia 4 mo) (h_markTo : hp 198 = ia 4 mt) (im0 : 0 ≤ v 29) (im4 : v 29 ≤ 4) (imx : ∀ i, 0 ≤ i → i < v 29 → (0 ≤ mo i ∧ mo i < 20) ∧ (mt i = -9 ∨ (0 ≤ mt i ∧ mt i < 20))) {e : Int} (he0 : 1 ≤ e) (he1 : e ≤ 9) {R : pd_R} (hx : ∀ l6 l7, pd_t G mR_laws 1 R 130 [some (vr 178), some (vi w), some (vi (sm (gla mo mt (v 29).toNat) 81 - sm (gla mo mt (v 29).toNat) (9 * (e - 1) + 0).toNat)), some (vi (fob (gla mo mt (v 29).toNat) (9 * (e - 1) + 0))), some (vi e), some (vi 0), l6, l7] [] sz hp) : ∀ (m : Nat), m ≤ 9 → ∀ l6 l7, pd_t G mR_laws 1 R 30 [some (vr 178), some (vi w), some (vi (sm (gla mo mt (v 29).toNat) 81 - sm (gla mo mt (v 29).toNat) (9 * (e - 1) + (m : Int)).toNat)), some (vi (fob (gla mo mt (v 29).toNat) (9 * (e - 1) + (m : Int)))), some (vi e), some (vi (m : Int)), l6, l7] [] sz hp := by
  intro m
  induction m with
  | zero =>
    intro hm l6 l7
    have hx2 := hx l6 l7
    refine pt_iload eR_laws_30 rfl ?_
    refine pt_ic eR_laws_32 ?_
    refine pt_clt eR_laws_33 ⟨by omega, by omega⟩ ⟨by omega, by omega⟩ (fun c33 => ?_) (fun c33 => ?_)
    · exact hx2
    · exfalso; omega
  | succ m ih =>
    intro hm l6 l7
    refine pt_iload eR_laws_30 rfl ?_
    refine pt_ic eR_laws_32 ?_
    refine pt_clt eR_laws_33 ⟨by omega, by omega⟩ ⟨by omega, by omega⟩ (fun c33 => ?_) (fun c33 => ?_)
    · exfalso; omega
    · refine pt_ic eR_laws_36 ?_
      refine pt_istore6 eR_laws_37 rfl ?_
      refine pt_ic eR_laws_39 ?_
      refine pt_istore7 eR_laws_40 rfl ?_
      refine lR_laws1 G sz hp hR h_markOf h_markTo im0 im4 imx he0 he1 (by omega) (by omega) (fun hp5 he5 => ?_) (v 29).toNat 0 hp (by omega) (by omega) rfl
      rw [he5]
      have g9 := gla_at (mo := mo) (mt := mt) (m := (v 29).toNat) (e := e) (b := ((m + 1 : Nat) : Int)) he0 (by omega) (by omega)
      have f9 := fob_s (h := (gla mo mt (v 29).toNat)) (k := 9 * (e - 1) + (m : Int)) (by omega) (by omega)
      have s9 := sm_s (f := (gla mo mt (v 29).toNat)) (i := 9 * (e - 1) + (m : Int)) (by omega)
      have z9 := asn_01 (fun d => lawf d e ((m + 1 : Nat) : Int)) mo mt (v 29).toNat
      rw [show 9 * (e - 1) + (m : Int) = 9 * (e - 1) + (((m + 1 : Nat) : Int) - 1) by omega, g9] at f9
      rw [show 9 * (e - 1) + (((m + 1 : Nat) : Int) - 1) + 1 = 9 * (e - 1) + ((m + 1 : Nat) : Int) by omega] at f9
      rw [show 9 * (e - 1) + (m : Int) = 9 * (e - 1) + (((m + 1 : Nat) : Int) - 1) by omega, g9] at s9
      rw [show 9 * (e - 1) + (((m + 1 : Nat) : Int) - 1) + 1 = 9 * (e - 1) + ((m + 1 : Nat) : Int) by omega] at s9
      rw [show 9 * (e - 1) + (((m + 1 : Nat) : Int) - 1) = 9 * (e - 1) + (m : Int) by omega] at s9
      generalize asn (fun d => lawf d e ((m + 1 : Nat) : Int)) mo mt (v 29).toNat = z at z9 f9 s9 ⊢
      refine pt_iload eR_laws_93 rfl ?_
      refine pt_iload eR_laws_94 rfl ?_
      refine pt_zeq eR_laws_96 ⟨by omega, by omega⟩ (fun c96 => ?_) (fun c96 => ?_)
      · refine pt_ic eR_laws_103 ?_
        refine pt_iadd eR_laws_104 ?_
        refine pt_istore2 eR_laws_105 rfl ?_
        refine pt_iload eR_laws_106 rfl ?_
        refine pt_zeq eR_laws_108 ⟨by omega, by omega⟩ (fun c108 => ?_) (fun c108 => ?_)
        · refine pt_iload eR_laws_122 rfl ?_
          refine pt_istore3 eR_laws_123 rfl ?_
          refine pt_inc5 eR_laws_124 rfl ?_
          refine pt_goto eR_laws_127 ?_
          first
          | (exfalso; omega)
          | (rw [if_neg (by omega)] at f9
             refine pt_lve [some (vr 178), some (vi w), some (vi (sm (gla mo mt (v 29).toNat) 81 - sm (gla mo mt (v 29).toNat) (9 * (e - 1) + (m : Int)).toNat)), some (vi (fob (gla mo mt (v 29).toNat) (9 * (e - 1) + (m : Int)))), some (vi e), some (vi (m : Int)), _, _] (by rw [← show 9 * (e - 1) + (((m + 1 : Nat) : Int) - 1) = 9 * (e - 1) + (m : Int) by omega, f9, show 9 * (e - 1) + (((m + 1 : Nat) : Int) - 1) = 9 * (e - 1) + (m : Int) by omega, show sm (gla mo mt (v 29).toNat) 81 - sm (gla mo mt (v 29).toNat) (9 * (e - 1) + (m : Int)).toNat = sm (gla mo mt (v 29).toNat) 81 - sm (gla mo mt (v 29).toNat) (9 * (e - 1) + ((m + 1 : Nat) : Int)).toNat + 0 by omega, show ((m + 1 : Nat) : Int) + -1 = (m : Int) by omega]) ?_
             exact ih (by omega) _ _)
          | (rw [if_pos (by omega), lvl_at he0 (by omega) (by omega)] at f9
             refine pt_lve [some (vr 178), some (vi w), some (vi (sm (gla mo mt (v 29).toNat) 81 - sm (gla mo mt (v 29).toNat) (9 * (e - 1) + (m : Int)).toNat)), some (vi (fob (gla mo mt (v 29).toNat) (9 * (e - 1) + (m : Int)))), some (vi e), some (vi (m : Int)), _, _] (by rw [← show 9 * (e - 1) + (((m + 1 : Nat) : Int) - 1) = 9 * (e - 1) + (m : Int) by omega, f9, show 9 * (e - 1) + (((m + 1 : Nat) : Int) - 1) = 9 * (e - 1) + (m : Int) by omega, show sm (gla mo mt (v 29).toNat) 81 - sm (gla mo mt (v 29).toNat) (9 * (e - 1) + (m : Int)).toNat = sm (gla mo mt (v 29).toNat) 81 - sm (gla mo mt (v 29).toNat) (9 * (e - 1) + ((m + 1 : Nat) : Int)).toNat + 1 by omega, show ((m + 1 : Nat) : Int) + -1 = (m : Int) by omega]) ?_
             exact ih (by omega) _ _)
        · refine pt_ic eR_laws_111 ?_
          refine pt_iload eR_laws_113 rfl ?_
          refine pt_imul eR_laws_115 ?_
          refine pt_iload eR_laws_116 rfl ?_
          refine pt_iadd eR_laws_118 ?_
          refine pt_goto eR_laws_119 ?_
          refine pt_istore3 eR_laws_123 rfl ?_
          refine pt_inc5 eR_laws_124 rfl ?_
          refine pt_goto eR_laws_127 ?_
          first
          | (exfalso; omega)
          | (rw [if_neg (by omega)] at f9
             refine pt_lve [some (vr 178), some (vi w), some (vi (sm (gla mo mt (v 29).toNat) 81 - sm (gla mo mt (v 29).toNat) (9 * (e - 1) + (m : Int)).toNat)), some (vi (fob (gla mo mt (v 29).toNat) (9 * (e - 1) + (m : Int)))), some (vi e), some (vi (m : Int)), _, _] (by rw [← show 9 * (e - 1) + (((m + 1 : Nat) : Int) - 1) = 9 * (e - 1) + (m : Int) by omega, f9, show 9 * (e - 1) + (((m + 1 : Nat) : Int) - 1) = 9 * (e - 1) + (m : Int) by omega, show sm (gla mo mt (v 29).toNat) 81 - sm (gla mo mt (v 29).toNat) (9 * (e - 1) + (m : Int)).toNat = sm (gla mo mt (v 29).toNat) 81 - sm (gla mo mt (v 29).toNat) (9 * (e - 1) + ((m + 1 : Nat) : Int)).toNat + 0 by omega, show ((m + 1 : Nat) : Int) + -1 = (m : Int) by omega]) ?_
             exact ih (by omega) _ _)
          | (rw [if_pos (by omega), lvl_at he0 (by omega) (by omega)] at f9
             refine pt_lve [some (vr 178), some (vi w), some (vi (sm (gla mo mt (v 29).toNat) 81 - sm (gla mo mt (v 29).toNat) (9 * (e - 1) + (m : Int)).toNat)), some (vi (fob (gla mo mt (v 29).toNat) (9 * (e - 1) + (m : Int)))), some (vi e), some (vi (m : Int)), _, _] (by rw [← show 9 * (e - 1) + (((m + 1 : Nat) : Int) - 1) = 9 * (e - 1) + (m : Int) by omega, f9, show 9 * (e - 1) + (((m + 1 : Nat) : Int) - 1) = 9 * (e - 1) + (m : Int) by omega, show sm (gla mo mt (v 29).toNat) 81 - sm (gla mo mt (v 29).toNat) (9 * (e - 1) + (m : Int)).toNat = sm (gla mo mt (v 29).toNat) 81 - sm (gla mo mt (v 29).toNat) (9 * (e - 1) + ((m + 1 : Nat) : Int)).toNat + 1 by omega, show ((m + 1 : Nat) : Int) + -1 = (m : Int) by omega]) ?_
             exact ih (by omega) _ _)
      · refine pt_ic eR_laws_99 ?_
        refine pt_goto eR_laws_100 ?_
        refine pt_iadd eR_laws_104 ?_
        refine pt_istore2 eR_laws_105 rfl ?_
        refine pt_iload eR_laws_106 rfl ?_
        refine pt_zeq eR_laws_108 ⟨by omega, by omega⟩ (fun c108 => ?_) (fun c108 => ?_)
        · refine pt_iload eR_laws_122 rfl ?_
          refine pt_istore3 eR_laws_123 rfl ?_
          refine pt_inc5 eR_laws_124 rfl ?_
          refine pt_goto eR_laws_127 ?_
          first
          | (exfalso; omega)
          | (rw [if_neg (by omega)] at f9
             refine pt_lve [some (vr 178), some (vi w), some (vi (sm (gla mo mt (v 29).toNat) 81 - sm (gla mo mt (v 29).toNat) (9 * (e - 1) + (m : Int)).toNat)), some (vi (fob (gla mo mt (v 29).toNat) (9 * (e - 1) + (m : Int)))), some (vi e), some (vi (m : Int)), _, _] (by rw [← show 9 * (e - 1) + (((m + 1 : Nat) : Int) - 1) = 9 * (e - 1) + (m : Int) by omega, f9, show 9 * (e - 1) + (((m + 1 : Nat) : Int) - 1) = 9 * (e - 1) + (m : Int) by omega, show sm (gla mo mt (v 29).toNat) 81 - sm (gla mo mt (v 29).toNat) (9 * (e - 1) + (m : Int)).toNat = sm (gla mo mt (v 29).toNat) 81 - sm (gla mo mt (v 29).toNat) (9 * (e - 1) + ((m + 1 : Nat) : Int)).toNat + 0 by omega, show ((m + 1 : Nat) : Int) + -1 = (m : Int) by omega]) ?_
             exact ih (by omega) _ _)
          | (rw [if_pos (by omega), lvl_at he0 (by omega) (by omega)] at f9
             refine pt_lve [some (vr 178), some (vi w), some (vi (sm (gla mo mt (v 29).toNat) 81 - sm (gla mo mt (v 29).toNat) (9 * (e - 1) + (m : Int)).toNat)), some (vi (fob (gla mo mt (v 29).toNat) (9 * (e - 1) + (m : Int)))), some (vi e), some (vi (m : Int)), _, _] (by rw [← show 9 * (e - 1) + (((m + 1 : Nat) : Int) - 1) = 9 * (e - 1) + (m : Int) by omega, f9, show 9 * (e - 1) + (((m + 1 : Nat) : Int) - 1) = 9 * (e - 1) + (m : Int) by omega, show sm (gla mo mt (v 29).toNat) 81 - sm (gla mo mt (v 29).toNat) (9 * (e - 1) + (m : Int)).toNat = sm (gla mo mt (v 29).toNat) 81 - sm (gla mo mt (v 29).toNat) (9 * (e - 1) + ((m + 1 : Nat) : Int)).toNat + 1 by omega, show ((m + 1 : Nat) : Int) + -1 = (m : Int) by omega]) ?_
             exact ih (by omega) _ _)
        · refine pt_ic eR_laws_111 ?_
          refine pt_iload eR_laws_113 rfl ?_
          refine pt_imul eR_laws_115 ?_
          refine pt_iload eR_laws_116 rfl ?_
          refine pt_iadd eR_laws_118 ?_
          refine pt_goto eR_laws_119 ?_
          refine pt_istore3 eR_laws_123 rfl ?_
          refine pt_inc5 eR_laws_124 rfl ?_
          refine pt_goto eR_laws_127 ?_
          first
          | (exfalso; omega)
          | (rw [if_neg (by omega)] at f9
             refine pt_lve [some (vr 178), some (vi w), some (vi (sm (gla mo mt (v 29).toNat) 81 - sm (gla mo mt (v 29).toNat) (9 * (e - 1) + (m : Int)).toNat)), some (vi (fob (gla mo mt (v 29).toNat) (9 * (e - 1) + (m : Int)))), some (vi e), some (vi (m : Int)), _, _] (by rw [← show 9 * (e - 1) + (((m + 1 : Nat) : Int) - 1) = 9 * (e - 1) + (m : Int) by omega, f9, show 9 * (e - 1) + (((m + 1 : Nat) : Int) - 1) = 9 * (e - 1) + (m : Int) by omega, show sm (gla mo mt (v 29).toNat) 81 - sm (gla mo mt (v 29).toNat) (9 * (e - 1) + (m : Int)).toNat = sm (gla mo mt (v 29).toNat) 81 - sm (gla mo mt (v 29).toNat) (9 * (e - 1) + ((m + 1 : Nat) : Int)).toNat + 0 by omega, show ((m + 1 : Nat) : Int) + -1 = (m : Int) by omega]) ?_
             exact ih (by omega) _ _)
          | (rw [if_pos (by omega), lvl_at he0 (by omega) (by omega)] at f9
             refine pt_lve [some (vr 178), some (vi w), some (vi (sm (gla mo mt (v 29).toNat) 81 - sm (gla mo mt (v 29).toNat) (9 * (e - 1) + (m : Int)).toNat)), some (vi (fob (gla mo mt (v 29).toNat) (9 * (e - 1) + (m : Int)))), some (vi e), some (vi (m : Int)), _, _] (by rw [← show 9 * (e - 1) + (((m + 1 : Nat) : Int) - 1) = 9 * (e - 1) + (m : Int) by omega, f9, show 9 * (e - 1) + (((m + 1 : Nat) : Int) - 1) = 9 * (e - 1) + (m : Int) by omega, show sm (gla mo mt (v 29).toNat) 81 - sm (gla mo mt (v 29).toNat) (9 * (e - 1) + (m : Int)).toNat = sm (gla mo mt (v 29).toNat) 81 - sm (gla mo mt (v 29).toNat) (9 * (e - 1) + ((m + 1 : Nat) : Int)).toNat + 1 by omega, show ((m + 1 : Nat) : Int) + -1 = (m : Int) by omega]) ?_
             exact ih (by omega) _ _)
theorem lR_laws3 (G : pd_G) (sz : Nat) (hp : pd_P) {v : Nat → Int} {mo mt : Int → Int} {w : Int} (hR : hp 178 = RO v) (h_markOf : hp 197 = ia 4 mo) (h_markTo : hp 198 = ia 4 mt) (im0 : 0 ≤ v 29) (im4 : v 29 ≤ 4) (imx : ∀ i, 0 ≤ i → i < v 29 → (0 ≤ mo i ∧ mo i < 20) ∧ (mt i = -9 ∨ (0 ≤ mt i ∧ mt i < 20))) {R : pd_R} (hx : ∀ l5 l6 l7, pd_t G mR_laws 1 R 136 [some (vr 178), some (vi w), some (vi (sm (gla mo mt (v 29).toNat) 81 - sm (gla mo mt (v 29).toNat) (9 * 0 : Int).toNat)), some (vi (fob (gla mo mt (v 29).toNat) (9 * 0))), some (vi 0), l5, l6, l7] [] sz hp) : ∀ (n : Nat), n ≤ 9 → ∀ l5 l6 l7, pd_t G mR_laws 1 R 20 [some (vr 178), some (vi w), some (vi (sm (gla mo mt (v 29).toNat) 81 - sm (gla mo mt (v 29).toNat) (9 * (n : Int) : Int).toNat)), some (vi (fob (gla mo mt (v 29).toNat) (9 * (n : Int)))), some (vi (n : Int)), l5, l6, l7] [] sz hp := by
  intro n
  induction n with
  | zero =>
    intro hn l5 l6 l7
    have hx2 := hx l5 l6 l7
    refine pt_iload eR_laws_20 rfl ?_
    refine pt_ic eR_laws_22 ?_
    refine pt_clt eR_laws_23 ⟨by omega, by omega⟩ ⟨by omega, by omega⟩ (fun c23 => ?_) (fun c23 => ?_)
    · exact hx2
    · exfalso; omega
  | succ n ih =>
    intro hn l5 l6 l7
    refine pt_iload eR_laws_20 rfl ?_
    refine pt_ic eR_laws_22 ?_
    refine pt_clt eR_laws_23 ⟨by omega, by omega⟩ ⟨by omega, by omega⟩ (fun c23 => ?_) (fun c23 => ?_)
    · exfalso; omega
    · refine pt_ic eR_laws_26 ?_
      refine pt_istore5 eR_laws_28 rfl ?_
      refine pt_lve [some (vr 178), some (vi w), some (vi (sm (gla mo mt (v 29).toNat) 81 - sm (gla mo mt (v 29).toNat) (9 * (((n + 1 : Nat) : Int) - 1) + ((9 : Nat) : Int)).toNat)), some (vi (fob (gla mo mt (v 29).toNat) (9 * (((n + 1 : Nat) : Int) - 1) + ((9 : Nat) : Int)))), some (vi ((n + 1 : Nat) : Int)), some (vi ((9 : Nat) : Int)), l6, l7] (by rw [show 9 * (((n + 1 : Nat) : Int) - 1) + ((9 : Nat) : Int) = 9 * ((n + 1 : Nat) : Int) by omega]; rfl) ?_
      refine lR_laws2 G sz hp hR h_markOf h_markTo im0 im4 imx (e := ((n + 1 : Nat) : Int)) (by omega) (by omega) (fun l6 l7 => ?_) 9 (by omega) l6 l7
      rw [show 9 * (((n + 1 : Nat) : Int) - 1) + 0 = 9 * (n : Int) by omega]
      refine pt_inc4 eR_laws_130 rfl ?_
      refine pt_goto eR_laws_133 ?_
      rw [show ((n + 1 : Nat) : Int) + -1 = (n : Int) by omega]
      exact ih (by omega) _ l6 l7
theorem xR_laws (G : pd_G) (sz : Nat) (hp : pd_P) {q : Nat → Int → Int} {v : Nat → Int} (hM : MW hp q v) (hI : IN q v) {w : Int} (j_w : jR w) : pd_c G mR_laws 1 [vr 178, vi w] sz hp (mPost hp sz ((q, v, rLaws q v w))) := by
  refine pd_con kR_laws [some (vr 178), some (vi w), none, none, none, none, none, none] rfl rfl (Nat.le_of_ble_eq_true rfl) ?_
  obtain ⟨⟨ig0, ig4⟩, ⟨id0, id1, id2, id3⟩, iB, iM, iU, iF, iS, iP, iI, ⟨is0, is4, isx⟩, ⟨im0, im4, imx⟩, it0, it1⟩ := hI
  have k_w := j_w
  unfold jR at k_w
  have hR := hM.1
  have h_markOf := hM.w_markOf
  have h_markTo := hM.w_markTo
  refine pt_iload eR_laws_0 rfl ?_
  refine pt_ic eR_laws_1 ?_
  refine pt_ic eR_laws_2 ?_
  refine pt_ks3r eR_laws_3 (cR_in G sz _ (by unfold jR at *; omega) (by unfold jR at *; omega) (by unfold jR at *; omega)) (Nat.le_of_ble_eq_true rfl) (by decide) (Nat.le_refl _) (Nat.le_refl _) ?_
  refine pt_zne eR_laws_6 (pwi_j _ _ _) (fun c6 => ?_) (fun c6 => ?_)
  · have c6 := pwi_1 c6
    refine pt_ic eR_laws_11 ?_
    refine pt_istore2 eR_laws_12 rfl ?_
    refine pt_ic eR_laws_13 ?_
    refine pt_istore3 eR_laws_15 rfl ?_
    refine pt_ic eR_laws_16 ?_
    refine pt_istore4 eR_laws_18 rfl ?_
    refine pt_lve [some (vr 178), some (vi w), some (vi (sm (gla (q 27) (q 28) (v 29).toNat) 81 - sm (gla (q 27) (q 28) (v 29).toNat) (9 * ((9 : Nat) : Int) : Int).toNat)), some (vi (fob (gla (q 27) (q 28) (v 29).toNat) (9 * ((9 : Nat) : Int)))), some (vi ((9 : Nat) : Int)), none, none, none] (by rw [show (9 * ((9 : Nat) : Int)) = 81 from rfl, fob_e, show sm (gla (q 27) (q 28) (v 29).toNat) 81 - sm (gla (q 27) (q 28) (v 29).toNat) (81 : Int).toNat = 0 from Int.sub_self _]; rfl) ?_
    refine lR_laws3 G sz hp hR h_markOf h_markTo im0 im4 imx (fun l5 l6 l7 => ?_) 9 (by omega) none none none
    rw [show (9 * (0 : Int)) = 0 from rfl, show sm (gla (q 27) (q 28) (v 29).toNat) 81 - sm (gla (q 27) (q 28) (v 29).toNat) (0 : Int).toNat = sm (gla (q 27) (q 28) (v 29).toNat) 81 from Int.sub_zero _]
    refine pt_iload eR_laws_136 rfl ?_
    refine pt_zne eR_laws_137 ⟨by omega, by omega⟩ (fun c137 => ?_) (fun c137 => ?_)
    · refine pt_iload eR_laws_144 rfl ?_
      refine pt_iret eR_laws_145 (Nat.le_refl _) (Nat.le_refl _) ?_
      first
      | (rw [show rLaws q v w = _ by unfold rLaws; rw [if_neg (fun z => z c6), if_pos c137]]
         exact ⟨rfl, rfl, hM, fr.rf⟩)
      | (rw [show rLaws q v w = _ by unfold rLaws; rw [if_neg (fun z => z c6), if_neg c137, fof_81]]
         exact ⟨rfl, rfl, hM, fr.rf⟩)
    · refine pt_iload eR_laws_140 rfl ?_
      refine pt_goto eR_laws_141 ?_
      refine pt_iret eR_laws_145 (Nat.le_refl _) (Nat.le_refl _) ?_
      first
      | (rw [show rLaws q v w = _ by unfold rLaws; rw [if_neg (fun z => z c6), if_pos c137]]
         exact ⟨rfl, rfl, hM, fr.rf⟩)
      | (rw [show rLaws q v w = _ by unfold rLaws; rw [if_neg (fun z => z c6), if_neg c137, fof_81]]
         exact ⟨rfl, rfl, hM, fr.rf⟩)
  · refine pt_ic eR_laws_9 ?_
    refine pt_iret eR_laws_10 (Nat.le_refl _) (Nat.le_refl _) ?_
    have c6 := pwi_0 c6
    rw [show rLaws q v w = -1 by unfold rLaws; rw [if_pos c6]]
    exact ⟨rfl, rfl, hM, fr.rf⟩
theorem lD_gave (G : pd_G) (sz : Nat) (hp : pd_P) {to dr : Nat} {se ga : Int} {mo mt : Int → Int} (hD : hp 1 = DO to dr se ga) (hGd : hp 55 = ia 4 mo) (hGt : hp 56 = ia 4 mt) (im0 : 0 ≤ ga) (im4 : ga ≤ 4) (imx : ∀ i, 0 ≤ i → i < ga → (0 ≤ mo i ∧ mo i < 20) ∧ (mt i = -9 ∨ (0 ≤ mt i ∧ mt i < 20))) {e b : Int} (he0 : 1 ≤ e) (he1 : e ≤ 9) (hb0 : 1 ≤ b) (hb1 : b ≤ 9) : ∀ (n : Nat) (i : Int), 0 ≤ i → i + n = ga → asn (fun d => lawf d e b) mo mt i.toNat = 1 → pd_t G mD_isAsGave 2 (pd_pure (vi (asn (fun d => lawf d e b) mo mt ga.toNat)) sz hp) 2 [some (vr 1), some (vi e), some (vi b), some (vi i)] [] sz hp := by
  intro n
  induction n with
  | zero =>
    intro i hi0 hiE ha
    have hie : i = ga := by omega
    refine pt_iload eD_isAsGave_2 rfl ?_
    refine pt_aload eD_isAsGave_3 rfl ?_
    refine pt_get eD_isAsGave_4 hD rfl ?_
    refine pt_cge eD_isAsGave_7 ⟨by omega, by omega⟩ ⟨by omega, by omega⟩ (fun c7 => ?_) (fun c7 => ?_)
    · refine pt_ic eD_isAsGave_38 ?_
      refine pt_iret (eD_isAsGave_39 (by omega)) (Nat.le_refl _) (Nat.le_refl _) ?_
      rw [← hie, ha]
      exact ⟨rfl, rfl, rfl⟩
    · exfalso; omega
  | succ n ih =>
    intro i hi0 hiE ha
    have hx9 := imx i hi0 (by omega)
    have e9 := asn_s (S := fun d => lawf d e b) (sg := mo) (si := mt) hi0
    rw [if_neg (by omega)] at e9
    have hr9 := lawf_r (ev := e) (bk := b) (d := mo i) hb0 (by omega)
    refine pt_iload eD_isAsGave_2 rfl ?_
    refine pt_aload eD_isAsGave_3 rfl ?_
    refine pt_get eD_isAsGave_4 hD rfl ?_
    refine pt_cge eD_isAsGave_7 ⟨by omega, by omega⟩ ⟨by omega, by omega⟩ (fun c7 => ?_) (fun c7 => ?_)
    · exfalso; omega
    · refine pt_iload eD_isAsGave_10 rfl ?_
      refine pt_iload eD_isAsGave_11 rfl ?_
      refine pt_aload eD_isAsGave_12 rfl ?_
      refine pt_get eD_isAsGave_13 hD rfl ?_
      refine pt_iload eD_isAsGave_16 rfl ?_
      refine pt_iald eD_isAsGave_17 hGd (by omega) (by omega) (by decide) ?_
      refine pt_ks3r eD_isAsGave_18 (cD_leadsBy G sz _ he0 he1 hb0 hb1 (by omega) (by omega)) (Nat.le_of_ble_eq_true rfl) (by decide) (Nat.le_refl _) (Nat.le_refl _) ?_
      refine pt_aload eD_isAsGave_21 rfl ?_
      refine pt_get eD_isAsGave_22 hD rfl ?_
      refine pt_iload eD_isAsGave_25 rfl ?_
      refine pt_iald eD_isAsGave_26 hGt (by omega) (by omega) (by decide) ?_
      refine pt_ceq eD_isAsGave_27 ⟨by omega, by omega⟩ ⟨by omega, by omega⟩ (fun c27 => ?_) (fun c27 => ?_)
      · refine pt_inc3 eD_isAsGave_32 rfl ?_
        refine pt_goto eD_isAsGave_35 ?_
        exact ih (i + 1) (by omega) (by omega) (by rw [e9, if_pos (by omega)])
      · refine pt_ic eD_isAsGave_30 ?_
        refine pt_iret (eD_isAsGave_31 (by omega)) (Nat.le_refl _) (Nat.le_refl _) ?_
        rw [if_neg (by omega)] at e9
        have e8 := asn_z e9 n
        rw [show (i + 1).toNat + n = ga.toNat by omega] at e8
        rw [e8]
        exact ⟨rfl, rfl, rfl⟩
theorem cD_isAsGave (G : pd_G) (sz : Nat) (hp : pd_P) {to dr : Nat} {se ga : Int} {mo mt : Int → Int} (hD : hp 1 = DO to dr se ga) (hGd : hp 55 = ia 4 mo) (hGt : hp 56 = ia 4 mt) (im0 : 0 ≤ ga) (im4 : ga ≤ 4) (imx : ∀ i, 0 ≤ i → i < ga → (0 ≤ mo i ∧ mo i < 20) ∧ (mt i = -9 ∨ (0 ≤ mt i ∧ mt i < 20))) {e b : Int} (he0 : 1 ≤ e) (he1 : e ≤ 9) (hb0 : 1 ≤ b) (hb1 : b ≤ 9) : pd_c G mD_isAsGave 2 [vr 1, vi e, vi b] sz hp (pd_pure (vi (asn (fun d => lawf d e b) mo mt ga.toNat)) sz hp) := by
  refine pd_con kD_isAsGave [some (vr 1), some (vi e), some (vi b), none] rfl rfl (Nat.le_of_ble_eq_true rfl) ?_
  refine pt_ic eD_isAsGave_0 ?_
  refine pt_istore3 eD_isAsGave_1 rfl ?_
  exact lD_gave G sz hp hD hGd hGt im0 im4 imx he0 he1 hb0 hb1 ga.toNat 0 (by omega) (by omega) rfl
theorem lD_laws1 (G : pd_G) (sz : Nat) (hp : pd_P) {to dr : Nat} {se ga : Int} {mo mt : Int → Int} (hD : hp 1 = DO to dr se ga) (hGd : hp 55 = ia 4 mo) (hGt : hp 56 = ia 4 mt) (im0 : 0 ≤ ga) (im4 : ga ≤ 4) (imx : ∀ i, 0 ≤ i → i < ga → (0 ≤ mo i ∧ mo i < 20) ∧ (mt i = -9 ∨ (0 ≤ mt i ∧ mt i < 20))) {w e : Int} (ha0 : 1 ≤ e) (ha1 : e ≤ 9) {R : pd_R} (hx : ∀  (hp0 : pd_P), hp0 = hp → pd_t G mD_laws 3 R 75 [some (vr 1), some (vi w), some (vi (sm (gla mo mt ga.toNat) (9 * (e - 1) + (10 - 1) : Int).toNat)), some (vi (fof (gla mo mt ga.toNat) (9 * (e - 1) + (10 - 1)))), some (vi e), some (vi (10))] [] sz hp0) : ∀ (n : Nat) (i : Int)  (hp0 : pd_P), 1 ≤ i → i + n = 10 → hp0 = hp → pd_t G mD_laws 3 R 29 [some (vr 1), some (vi w), some (vi (sm (gla mo mt ga.toNat) (9 * (e - 1) + (i - 1) : Int).toNat)), some (vi (fof (gla mo mt ga.toNat) (9 * (e - 1) + (i - 1)))), some (vi e), some (vi (i))] [] sz hp0 := by
  intro n
  induction n with
  | zero =>
    intro i  hp0 hi0 hiE he0
    have hiE2 : 10 = i := by omega
    subst hiE2
    have hx2 := hx  hp0 he0
    rw [he0] at hx2
    rw [he0]
    refine pt_iload eD_laws_29 rfl ?_
    refine pt_ic eD_laws_31 ?_
    refine pt_cgt eD_laws_33 ⟨by omega, by omega⟩ ⟨by omega, by omega⟩ (fun c33 => ?_) (fun c33 => ?_)
    · exact hx2
    · exfalso; omega
  | succ n ih =>
    intro i  hp0 hi0 hiE he0
    rw [he0]
    refine pt_iload eD_laws_29 rfl ?_
    refine pt_ic eD_laws_31 ?_
    refine pt_cgt eD_laws_33 ⟨by omega, by omega⟩ ⟨by omega, by omega⟩ (fun c33 => ?_) (fun c33 => ?_)
    · exfalso; omega
    · have g9 := gla_at (mo := mo) (mt := mt) (m := ga.toNat) (e := e) (b := i) ha0 (by omega) (by omega)
      have f9 := fof_s (h := (gla mo mt ga.toNat)) (k := 9 * (e - 1) + (i - 1)) (by omega)
      have c9 := fof_c (h := (gla mo mt ga.toNat)) (k := 9 * (e - 1) + (i - 1)) (by omega)
      have c8 := c9.2.2 (by omega)
      have c7 := c9.2.1
      have s9 := sm_s (f := (gla mo mt ga.toNat)) (i := 9 * (e - 1) + (i - 1)) (by omega)
      have z9 := asn_01 (fun d => lawf d e i) mo mt ga.toNat
      rw [g9] at f9 s9
      rw [lvl_at ha0 (by omega) (by omega)] at f9
      rw [show 9 * (e - 1) + (i - 1) + 1 = 9 * (e - 1) + (i + 1 - 1) by omega] at f9 s9
      refine pt_aload eD_laws_36 rfl ?_
      refine pt_iload eD_laws_37 rfl ?_
      refine pt_iload eD_laws_39 rfl ?_
      refine pt_kv2r eD_laws_41 (cD_isAsGave G sz _ hD hGd hGt im0 im4 imx ha0 ha1 (by omega) (by omega)) hD rfl (Nat.le_of_ble_eq_true rfl) (by decide) (Nat.le_refl _) (Nat.le_refl _) ?_
      generalize asn (fun d => lawf d e i) mo mt ga.toNat = z at z9 f9 s9 ⊢
      refine pt_zeq eD_laws_44 ⟨by omega, by omega⟩ (fun c44 => ?_) (fun c44 => ?_)
      · refine pt_inc5 eD_laws_69 rfl ?_
        refine pt_goto eD_laws_72 ?_
        first
        | (have c44 := c44
           subst c44
           rw [if_neg (show ¬ (0 : Int) < 0 by omega)] at f9
           have f8 : fof (gla mo mt ga.toNat) (9 * (e - 1) + (i + 1 - 1)) = fof (gla mo mt ga.toNat) (9 * (e - 1) + (i - 1)) := by
             by_cases hc : fsd (gla mo mt ga.toNat) (9 * (e - 1) + (i - 1)).toNat 0 < 9 * (e - 1) + (i - 1)
             · rw [f9, if_pos hc]
             · rw [f9, if_neg hc]
               have := (not_congr c9.1).1 hc
               omega
           refine pt_lve [some (vr 1), some (vi w), some (vi (sm (gla mo mt ga.toNat) (9 * (e - 1) + (i + 1 - 1) : Int).toNat)), some (vi (fof (gla mo mt ga.toNat) (9 * (e - 1) + (i + 1 - 1)))), some (vi e), some (vi (i + 1))] (by rw [f8, s9, Int.add_zero]) ?_)
        | (obtain rfl : z = 1 := by omega
           rw [if_pos (show 0 < (1 : Int) by omega), if_neg (fun h => (c9.1.1 h) c53)] at f9
           refine pt_lve [some (vr 1), some (vi w), some (vi (sm (gla mo mt ga.toNat) (9 * (e - 1) + (i + 1 - 1) : Int).toNat)), some (vi (fof (gla mo mt ga.toNat) (9 * (e - 1) + (i + 1 - 1)))), some (vi e), some (vi (i + 1))] (by rw [f9, s9]) ?_)
        | (obtain rfl : z = 1 := by omega
           rw [if_pos (c9.1.2 c53)] at f9
           refine pt_lve [some (vr 1), some (vi w), some (vi (sm (gla mo mt ga.toNat) (9 * (e - 1) + (i + 1 - 1) : Int).toNat)), some (vi (fof (gla mo mt ga.toNat) (9 * (e - 1) + (i + 1 - 1)))), some (vi e), some (vi (i + 1))] (by rw [f9, s9]) ?_)
        exact ih (i + 1)  hp (by omega) (by omega) rfl 
      · refine pt_inc2 eD_laws_47 rfl ?_
        refine pt_iload eD_laws_50 rfl ?_
        refine pt_ic eD_laws_51 ?_
        refine pt_cne eD_laws_53 ⟨by omega, by omega⟩ ⟨by omega, by omega⟩ (fun c53 => ?_) (fun c53 => ?_)
        · refine pt_iload eD_laws_67 rfl ?_
          refine pt_istore3 eD_laws_68 rfl ?_
          refine pt_inc5 eD_laws_69 rfl ?_
          refine pt_goto eD_laws_72 ?_
          first
          | (have c44 := c44
             subst c44
             rw [if_neg (show ¬ (0 : Int) < 0 by omega)] at f9
             have f8 : fof (gla mo mt ga.toNat) (9 * (e - 1) + (i + 1 - 1)) = fof (gla mo mt ga.toNat) (9 * (e - 1) + (i - 1)) := by
               by_cases hc : fsd (gla mo mt ga.toNat) (9 * (e - 1) + (i - 1)).toNat 0 < 9 * (e - 1) + (i - 1)
               · rw [f9, if_pos hc]
               · rw [f9, if_neg hc]
                 have := (not_congr c9.1).1 hc
                 omega
             refine pt_lve [some (vr 1), some (vi w), some (vi (sm (gla mo mt ga.toNat) (9 * (e - 1) + (i + 1 - 1) : Int).toNat)), some (vi (fof (gla mo mt ga.toNat) (9 * (e - 1) + (i + 1 - 1)))), some (vi e), some (vi (i + 1))] (by rw [f8, s9, Int.add_zero]) ?_)
          | (obtain rfl : z = 1 := by omega
             rw [if_pos (show 0 < (1 : Int) by omega), if_neg (fun h => (c9.1.1 h) c53)] at f9
             refine pt_lve [some (vr 1), some (vi w), some (vi (sm (gla mo mt ga.toNat) (9 * (e - 1) + (i + 1 - 1) : Int).toNat)), some (vi (fof (gla mo mt ga.toNat) (9 * (e - 1) + (i + 1 - 1)))), some (vi e), some (vi (i + 1))] (by rw [f9, s9]) ?_)
          | (obtain rfl : z = 1 := by omega
             rw [if_pos (c9.1.2 c53)] at f9
             refine pt_lve [some (vr 1), some (vi w), some (vi (sm (gla mo mt ga.toNat) (9 * (e - 1) + (i + 1 - 1) : Int).toNat)), some (vi (fof (gla mo mt ga.toNat) (9 * (e - 1) + (i + 1 - 1)))), some (vi e), some (vi (i + 1))] (by rw [f9, s9]) ?_)
          exact ih (i + 1)  hp (by omega) (by omega) rfl 
        · refine pt_ic eD_laws_56 ?_
          refine pt_iload eD_laws_58 rfl ?_
          refine pt_imul eD_laws_60 ?_
          refine pt_iload eD_laws_61 rfl ?_
          refine pt_iadd eD_laws_63 ?_
          refine pt_goto eD_laws_64 ?_
          refine pt_istore3 eD_laws_68 rfl ?_
          refine pt_inc5 eD_laws_69 rfl ?_
          refine pt_goto eD_laws_72 ?_
          first
          | (have c44 := c44
             subst c44
             rw [if_neg (show ¬ (0 : Int) < 0 by omega)] at f9
             have f8 : fof (gla mo mt ga.toNat) (9 * (e - 1) + (i + 1 - 1)) = fof (gla mo mt ga.toNat) (9 * (e - 1) + (i - 1)) := by
               by_cases hc : fsd (gla mo mt ga.toNat) (9 * (e - 1) + (i - 1)).toNat 0 < 9 * (e - 1) + (i - 1)
               · rw [f9, if_pos hc]
               · rw [f9, if_neg hc]
                 have := (not_congr c9.1).1 hc
                 omega
             refine pt_lve [some (vr 1), some (vi w), some (vi (sm (gla mo mt ga.toNat) (9 * (e - 1) + (i + 1 - 1) : Int).toNat)), some (vi (fof (gla mo mt ga.toNat) (9 * (e - 1) + (i + 1 - 1)))), some (vi e), some (vi (i + 1))] (by rw [f8, s9, Int.add_zero]) ?_)
          | (obtain rfl : z = 1 := by omega
             rw [if_pos (show 0 < (1 : Int) by omega), if_neg (fun h => (c9.1.1 h) c53)] at f9
             refine pt_lve [some (vr 1), some (vi w), some (vi (sm (gla mo mt ga.toNat) (9 * (e - 1) + (i + 1 - 1) : Int).toNat)), some (vi (fof (gla mo mt ga.toNat) (9 * (e - 1) + (i + 1 - 1)))), some (vi e), some (vi (i + 1))] (by rw [f9, s9]) ?_)
          | (obtain rfl : z = 1 := by omega
             rw [if_pos (c9.1.2 c53)] at f9
             refine pt_lve [some (vr 1), some (vi w), some (vi (sm (gla mo mt ga.toNat) (9 * (e - 1) + (i + 1 - 1) : Int).toNat)), some (vi (fof (gla mo mt ga.toNat) (9 * (e - 1) + (i + 1 - 1)))), some (vi e), some (vi (i + 1))] (by rw [f9, s9]) ?_)
          exact ih (i + 1)  hp (by omega) (by omega) rfl 
theorem lD_laws2 (G : pd_G) (sz : Nat) (hp : pd_P) {to dr : Nat} {se ga : Int} {mo mt : Int → Int} (hD : hp 1 = DO to dr se ga) (hGd : hp 55 = ia 4 mo) (hGt : hp 56 = ia 4 mt) (im0 : 0 ≤ ga) (im4 : ga ≤ 4) (imx : ∀ i, 0 ≤ i → i < ga → (0 ≤ mo i ∧ mo i < 20) ∧ (mt i = -9 ∨ (0 ≤ mt i ∧ mt i < 20))) {w : Int} {R : pd_R} (hx : ∀ (l5 : Option pv) (hp0 : pd_P), hp0 = hp → pd_t G mD_laws 3 R 81 [some (vr 1), some (vi w), some (vi (sm (gla mo mt ga.toNat) (9 * (10 - 1) : Int).toNat)), some (vi (fof (gla mo mt ga.toNat) (9 * (10 - 1)))), some (vi (10)), l5] [] sz hp0) : ∀ (n : Nat) (i : Int) (l5 : Option pv) (hp0 : pd_P), 1 ≤ i → i + n = 10 → hp0 = hp → pd_t G mD_laws 3 R 19 [some (vr 1), some (vi w), some (vi (sm (gla mo mt ga.toNat) (9 * (i - 1) : Int).toNat)), some (vi (fof (gla mo mt ga.toNat) (9 * (i - 1)))), some (vi (i)), l5] [] sz hp0 := by
  intro n
  induction n with
  | zero =>
    intro i l5 hp0 hi0 hiE hI
    have hiE2 : 10 = i := by omega
    subst hiE2
    have hx2 := hx l5 hp0 hI
    rw [hI]
    rw [hI] at hx2
    refine pt_iload eD_laws_19 rfl ?_
    refine pt_ic eD_laws_21 ?_
    refine pt_cgt eD_laws_23 ⟨by omega, by omega⟩ ⟨by omega, by omega⟩ (fun c23 => ?_) (fun c23 => ?_)
    · exact hx2
    · exfalso; omega
  | succ n ih =>
    intro i l5 hp0 hi0 hiE hI
    rw [hI]
    refine pt_iload eD_laws_19 rfl ?_
    refine pt_ic eD_laws_21 ?_
    refine pt_cgt eD_laws_23 ⟨by omega, by omega⟩ ⟨by omega, by omega⟩ (fun c23 => ?_) (fun c23 => ?_)
    · exfalso; omega
    · refine pt_ic eD_laws_26 ?_
      refine pt_istore5 eD_laws_27 rfl ?_
      refine pt_lve [some (vr 1), some (vi w), some (vi (sm (gla mo mt ga.toNat) (9 * (i - 1) + (1 - 1) : Int).toNat)), some (vi (fof (gla mo mt ga.toNat) (9 * (i - 1) + (1 - 1)))), some (vi i), some (vi (1))] (by rw [show 9 * (i - 1) + (1 - 1) = 9 * (i - 1) by omega]) ?_
      refine lD_laws1 G sz hp hD hGd hGt im0 im4 imx hi0 (by omega) (fun hp5 he5 => ?_) 9 1 hp (by omega) (by omega) rfl
      rw [he5, show 9 * (i - 1) + (10 - 1) = 9 * (i + 1 - 1) by omega]
      refine pt_inc4 eD_laws_75 rfl ?_
      refine pt_goto eD_laws_78 ?_
      exact ih (i + 1) _ hp (by omega) (by omega) rfl
theorem xD_laws (G : pd_G) (sz : Nat) (hp : pd_P) {to dr : Nat} {q : Nat → Int → Int} {v : Nat → Int} (hC : CW hp to dr q v) (hI : IN q v) {w : Int} (j_w : jR w) : pd_c G mD_laws 3 [vr 1, vi w] sz hp (cPost hp sz ((q, v, rLaws q v w))) := by
  refine pd_con kD_laws [some (vr 1), some (vi w), none, none, none, none] rfl rfl (Nat.le_of_ble_eq_true rfl) ?_
  obtain ⟨⟨ig0, ig4⟩, ⟨id0, id1, id2, id3⟩, iB, iM, iU, iF, iS, iP, iI, ⟨is0, is4, isx⟩, ⟨im0, im4, imx⟩, it0, it1⟩ := hI
  have k_w := j_w
  unfold jR at k_w
  have hC0 := hC
  obtain ⟨hto, hDo, hTx, hHs, hHd, hLf, hI0, hI1, hGo, hPl⟩ := hC
  have hDo2 := hDo
  obtain ⟨hD, ⟨imf, hIm, him0, him1⟩, hKp, hSg, hSt, hGd, hGt⟩ := hDo2
  refine pt_iload eD_laws_0 rfl ?_
  refine pt_ic eD_laws_1 ?_
  refine pt_ic eD_laws_2 ?_
  refine pt_ks3r eD_laws_3 (cD_within G sz _ (by unfold jR at *; omega) (by unfold jR at *; omega) (by unfold jR at *; omega)) (Nat.le_of_ble_eq_true rfl) (by decide) (Nat.le_refl _) (Nat.le_refl _) ?_
  refine pt_zne eD_laws_6 (pwi_j _ _ _) (fun c6 => ?_) (fun c6 => ?_)
  · have c6 := pwi_1 c6
    refine pt_ic eD_laws_11 ?_
    refine pt_istore2 eD_laws_12 rfl ?_
    refine pt_ic eD_laws_13 ?_
    refine pt_istore3 eD_laws_15 rfl ?_
    refine pt_ic eD_laws_16 ?_
    refine pt_istore4 eD_laws_17 rfl ?_
    refine lD_laws2 G sz hp hD hGd hGt im0 im4 imx (fun l5 hp5 he5 => ?_) 9 1 none hp (by omega) (by omega) rfl
    rw [he5, show (9 * ((10 : Int) - 1)) = 81 from rfl]
    refine pt_iload eD_laws_81 rfl ?_
    refine pt_zne eD_laws_82 ⟨by omega, by omega⟩ (fun c82 => ?_) (fun c82 => ?_)
    · refine pt_iload eD_laws_89 rfl ?_
      refine pt_iret eD_laws_90 (Nat.le_refl _) (Nat.le_refl _) ?_
      first
      | (rw [show rLaws q v w = _ by unfold rLaws; rw [if_neg (fun z => z c6), if_pos c82]]
         exact ⟨rfl, rfl, ⟨to, dr, hC0⟩, fr.rf⟩)
      | (rw [show rLaws q v w = _ by unfold rLaws; rw [if_neg (fun z => z c6), if_neg c82]]
         exact ⟨rfl, rfl, ⟨to, dr, hC0⟩, fr.rf⟩)
    · refine pt_iload eD_laws_85 rfl ?_
      refine pt_goto eD_laws_86 ?_
      refine pt_iret eD_laws_90 (Nat.le_refl _) (Nat.le_refl _) ?_
      first
      | (rw [show rLaws q v w = _ by unfold rLaws; rw [if_neg (fun z => z c6), if_pos c82]]
         exact ⟨rfl, rfl, ⟨to, dr, hC0⟩, fr.rf⟩)
      | (rw [show rLaws q v w = _ by unfold rLaws; rw [if_neg (fun z => z c6), if_neg c82]]
         exact ⟨rfl, rfl, ⟨to, dr, hC0⟩, fr.rf⟩)
  · refine pt_ic eD_laws_9 ?_
    refine pt_iret eD_laws_10 (Nat.le_refl _) (Nat.le_refl _) ?_
    have c6 := pwi_0 c6
    rw [show rLaws q v w = -1 by unfold rLaws; rw [if_pos c6]]
    exact ⟨rfl, rfl, ⟨to, dr, hC0⟩, fr.rf⟩
