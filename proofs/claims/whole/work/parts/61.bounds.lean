/-! the bounds are kept -/
theorem okS_c {ms σ τ : Int → Int} (h : ∀ x, 0 ≤ x → x < 90 → τ x = σ x) (hs : okS ms σ) : okS ms τ := by
  obtain ⟨s0, s1, s2, s3, s4⟩ := hs
  refine ⟨by rw [h 0 (by omega) (by omega)]; exact s0, by rw [h 0 (by omega) (by omega)]; exact s1, by rw [h 1 (by omega) (by omega)]; exact s2, fun g g0 g1 => ?_, fun k k0 k1 => ?_⟩
  · rw [h (2 + g) (by omega) (by omega)]; exact s3 g g0 g1
  · rw [h (10 + k) (by omega) (by omega)]; exact s4 k k0 k1
theorem okS_m {ms nt σ : Int → Int} (h : ∀ x, 0 ≤ x → x < 80 → nt x = ms x) (hs : okS ms σ) : okS nt σ := by
  obtain ⟨s0, s1, s2, s3, s4⟩ := hs
  exact ⟨s0, s1, s2, s3, fun k k0 k1 => by rw [h k k0 k1]; exact s4 k k0 k1⟩
theorem okP_c {ms f g : Int → Int} {k o : Int} (h : ∀ x, o ≤ x → x < o + 900 → g x = f x) (hs : okP ms f k o) : okP ms g k o := by
  obtain ⟨s0, s1, s2⟩ := hs
  exact ⟨s0, s1, fun i i0 i1 => okS_c (fun x x0 x1 => h _ (by omega) (by omega)) (s2 i i0 i1)⟩
theorem okP_m {ms nt f : Int → Int} {k o : Int} (h : ∀ x, 0 ≤ x → x < 80 → nt x = ms x) (hs : okP ms f k o) : okP nt f k o := by
  obtain ⟨s0, s1, s2⟩ := hs
  exact ⟨s0, s1, fun i i0 i1 => okS_m h (s2 i i0 i1)⟩
theorem kbf_hj {bf σ : Int → Int} {k x : Int} (h0 : 0 ≤ k) (h1 : k ≤ 10) (hx : 900 ≤ x) : kbf bf σ k x = bf x := by
  unfold kbf
  split
  · rw [blk_out (by omega), blk_out (by omega)]
  · rw [blk_out (by omega)]
theorem kbf_P {ms bf σ : Int → Int} {k : Int} (hP : okP ms bf k 0) (hs : okS ms σ) : okP ms (kbf bf σ k) (knf k) 0 := by
  obtain ⟨s0, s1, s2⟩ := hP
  unfold kbf knf
  by_cases hk : k = 10
  · rw [if_pos hk, if_pos hk]
    refine ⟨by omega, by omega, fun i i0 i1 => ?_⟩
    by_cases hi : i = 9
    · exact okS_c (fun x x0 x1 => by rw [blk_in (by omega) (by omega)]; congr 1; omega) hs
    · exact okS_c (fun x x0 x1 => by rw [blk_out (by omega), blk_in (by omega) (by omega)]; congr 1; omega) (s2 (i + 1) (by omega) (by omega))
  · rw [if_neg hk, if_neg hk]
    refine ⟨by omega, by omega, fun i i0 i1 => ?_⟩
    by_cases hi : i = k
    · exact okS_c (fun x x0 x1 => by rw [blk_in (by omega) (by omega)]; congr 1; omega) hs
    · exact okS_c (fun x x0 x1 => by rw [blk_out (by omega)]) (s2 i (by omega) (by omega))
theorem opf_q {ev bk : Int} {σ : Int → Int} (h1 : 1 ≤ bk) : opf ev bk σ = -9 ∨ (0 ≤ opf ev bk σ ∧ opf ev bk σ < 20) := by
  unfold opf
  split
  · exact Or.inl rfl
  · unfold lawf
    split
    · right; omega
    · exact Or.inl rfl
theorem IN_type {q : Nat → Int → Int} {v : Nat → Int} (hI : IN q v) {c : Int} : IN (fType q v c).1 (fType q v c).2.1 := by
  unfold fType
  split
  · exact hI
  · split
    · exact hI
    · rename_i h1 h2
      obtain ⟨i1, i2, iB, iM, iU, iF, iS, iP, iI, i26, i29, iv1⟩ := hI
      exact ⟨i1, i2, iB, iM, iU, iF, iS, iP, iI, i26, i29, show 0 ≤ v 1 + 1 ∧ v 1 + 1 ≤ 150 by omega⟩
theorem IN_clear {q : Nat → Int → Int} {v : Nat → Int} (hI : IN q v) : IN (fClear q v).1 (fClear q v).2.1 := by
  obtain ⟨i1, i2, iB, iM, iU, iF, iS, iP, iI, i26, i29, iv1⟩ := hI
  exact ⟨i1, i2, iB, iM, iU, iF, iS, iP, iI, i26, i29, show (0 : Int) ≤ 0 ∧ (0 : Int) ≤ 150 by omega⟩
theorem IN_saw {q : Nat → Int → Int} {v : Nat → Int} (hI : IN q v) {g n : Int} : IN (fSaw q v g n).1 (fSaw q v g n).2.1 := by
  unfold fSaw
  split
  · exact hI
  · split
    · exact hI
    · rename_i h1 h2
      obtain ⟨i1, i2, iB, iM, iU, iF, iS, iP, iI, i26, i29, iv1⟩ := hI
      obtain ⟨a0, a1, a2⟩ := i26
      refine ⟨i1, i2, iB, iM, iU, iF, iS, iP, iI, ⟨show 0 ≤ v 26 + 1 by omega, show v 26 + 1 ≤ 4 by omega, fun i k0 k1 => ?_⟩, i29, iv1⟩
      have k2 : i < v 26 + 1 := k1
      show (0 ≤ uI (q 24) (v 26) g i ∧ uI (q 24) (v 26) g i < q 3 0) ∧ (0 ≤ uI (q 25) (v 26) n i ∧ uI (q 25) (v 26) n i ≤ 999)
      by_cases hi : i = v 26
      · rw [hi, uI_s, uI_s]; omega
      · rw [uI_n _ _ hi, uI_n _ _ hi]; exact a2 i k0 (by omega)
theorem IN_gave {q : Nat → Int → Int} {v : Nat → Int} (hI : IN q v) {d t : Int} : IN (fGave q v d t).1 (fGave q v d t).2.1 := by
  unfold fGave
  split
  · exact hI
  · split
    · exact hI
    · rename_i h1 h2
      obtain ⟨i1, i2, iB, iM, iU, iF, iS, iP, iI, i26, i29, iv1⟩ := hI
      obtain ⟨a0, a1, a2⟩ := i29
      refine ⟨i1, i2, iB, iM, iU, iF, iS, iP, iI, i26, ⟨show 0 ≤ v 29 + 1 by omega, show v 29 + 1 ≤ 4 by omega, fun i k0 k1 => ?_⟩, iv1⟩
      have k2 : i < v 29 + 1 := k1
      show (0 ≤ uI (q 27) (v 29) d i ∧ uI (q 27) (v 29) d i < 20) ∧ (uI (q 28) (v 29) (if t = -1 then -9 else t) i = -9 ∨ (0 ≤ uI (q 28) (v 29) (if t = -1 then -9 else t) i ∧ uI (q 28) (v 29) (if t = -1 then -9 else t) i < 20))
      by_cases hi : i = v 29
      · rw [hi, uI_s, uI_s]
        split <;> omega
      · rw [uI_n _ _ hi, uI_n _ _ hi]; exact a2 i k0 (by omega)
theorem IN_forget {q : Nat → Int → Int} {v : Nat → Int} (hI : IN q v) : IN (fForget q v).1 (fForget q v).2.1 := by
  obtain ⟨i1, i2, iB, iM, iU, iF, iS, iP, iI, i26, i29, iv1⟩ := hI
  exact ⟨i1, i2, iB, iM, iU, iF, iS, iP, iI, ⟨show (0 : Int) ≤ 0 by omega, show (0 : Int) ≤ 4 by omega, fun i k0 k1 => absurd (show i < 0 from k1) (by omega)⟩, ⟨show (0 : Int) ≤ 0 by omega, show (0 : Int) ≤ 4 by omega, fun i k0 k1 => absurd (show i < 0 from k1) (by omega)⟩, iv1⟩
theorem IN_now0 {q : Nat → Int → Int} {v : Nat → Int} (hI : IN q v) {τ : Int → Int} (hτ : okS (q 9) τ) : IN (va_up q 17 τ) v := by
  obtain ⟨i1, i2, iB, iM, iU, iF, iS, iP, iI, i26, i29, iv1⟩ := hI
  exact ⟨i1, i2, iB, iM, iU, iF, hτ, iP, iI, i26, i29, iv1⟩
theorem IN_know {q : Nat → Int → Int} {v : Nat → Int} (hI : IN q v) : IN (fKnow q) v := by
  obtain ⟨i1, i2, iB, iM, iU, iF, iS, iP, iI, i26, i29, iv1⟩ := hI
  have hk := iP.1
  have hk1 := iP.2.1
  refine ⟨i1, i2, iB, iM, iU, iF, iS, ?_, fun j j0 j1 => ⟨(iI j j0 j1).1, fun h1 => ?_⟩, i26, i29, iv1⟩
  · show okP (q 9) (kbf (q 19) (q 17) (q 18 0)) (uI (q 18) 0 (knf (q 18 0)) 0) 0
    rw [uI_s]
    exact kbf_P iP iS
  · have h2 := (iI j j0 j1).2 h1
    refine ⟨h2.1, ?_⟩
    show okP (q 9) (kbf (q 19) (q 17) (q 18 0)) (uI (q 18) 0 (knf (q 18 0)) (1 + j)) (900 * (1 + j))
    rw [uI_n _ _ (by omega)]
    exact okP_c (fun x x0 x1 => kbf_hj hk hk1 (by omega)) h2.2
theorem IN_goes {q : Nat → Int → Int} {v : Nat → Int} (hI : IN q v) : IN (fGoes q v).1 (fGoes q v).2.1 := by
  unfold fGoes
  split
  · exact hI
  · rename_i h1
    have hK := IN_know hI
    obtain ⟨i1, i2, iB, iM, iU, iF, iS, iP, iI, i26, i29, iv1⟩ := hI
    exact IN_now0 hK (passf_ok i1.1 i1.2 iM iU iS (by have := iS.2.1; omega))
theorem tkf_S {ev bk : Int} {ms σ : Int → Int} {g n : Int} (hs : okS ms σ) (hm : okB ms) (h1 : 1 ≤ bk) (g0 : 0 ≤ g) (g1 : g < 4) (n0 : 1 ≤ n) (ho : opf ev bk σ ≠ -9) (hn : n ≤ canf ev bk ms σ g) : okS ms (tkf ev bk σ g n) := by
  obtain ⟨s0, s1, s2, s3, s4⟩ := hs
  rcases opf_q (ev := ev) (σ := σ) h1 with h | ⟨h2, h3⟩
  · exact absurd h ho
  · rw [canf_eq, if_neg ho] at hn
    unfold tkf
    generalize opf ev bk σ = d at *
    refine ⟨?_, ?_, ?_, fun k k0 k1 => ?_, fun k k0 k1 => ?_⟩
    · rw [uI_n _ _ (by omega), uI_n _ _ (by omega)]; exact s0
    · rw [uI_n _ _ (by omega), uI_n _ _ (by omega)]; exact s1
    · rw [uI_n _ _ (by omega), uI_n _ _ (by omega)]; exact s2
    · have h5 := s3 k k0 k1
      by_cases hk : k = g
      · rw [hk, uI_s]
        rw [hk] at h5
        omega
      · rw [uI_n _ _ (by omega), uI_n _ _ (by omega)]; exact h5
    · have h5 := s4 k k0 k1
      rw [uI_n _ _ (by omega)]
      by_cases hk : k = 4 * d + g
      · rw [hk] at h5 ⊢
        rw [show 10 + (4 * d + g) = 10 + 4 * d + g by omega] at h5 ⊢
        rw [uI_s]
        omega
      · rw [uI_n _ _ (by omega)]; exact h5
theorem IN_takes {q : Nat → Int → Int} {v : Nat → Int} (hI : IN q v) {g n : Int} : IN (fTakes q v g n).1 (fTakes q v g n).2.1 := by
  unfold fTakes
  split
  · exact hI
  · split
    · exact hI
    · rename_i h1 h2
      have hK := IN_know hI
      obtain ⟨i1, i2, iB, iM, iU, iF, iS, iP, iI, i26, i29, iv1⟩ := hI
      have hn : n ≤ canf (q 2 0) (q 2 1) (q 9) (q 17) g := by omega
      exact IN_now0 hK (tkf_S iS iM i2.2.2.1 (by omega) (by omega) (by omega) (fun h => h2 (Or.inl h)) hn)
theorem IN_buys {q : Nat → Int → Int} {v : Nat → Int} (hI : IN q v) {g n : Int} : IN (fBuys q v g n).1 (fBuys q v g n).2.1 := by
  unfold fBuys
  split
  · exact hI
  · split
    · exact hI
    · rename_i h1 h2
      have hK := IN_know hI
      obtain ⟨i1, i2, iB, iM, iU, iF, iS, iP, iI, i26, i29, iv1⟩ := hI
      refine IN_now0 hK ?_
      obtain ⟨s0, s1, s2, s3, s4⟩ := iS
      show okS (q 9) (uI (q 17) (2 + g) (min (q 17 (2 + g) + n) 999))
      refine ⟨?_, ?_, ?_, fun k k0 k1 => ?_, fun k k0 k1 => ?_⟩
      · rw [uI_n _ _ (by omega)]; exact s0
      · rw [uI_n _ _ (by omega)]; exact s1
      · rw [uI_n _ _ (by omega)]; exact s2
      · have h5 := s3 k k0 k1
        by_cases hk : k = g
        · rw [hk, uI_s]
          rw [hk] at h5
          omega
        · rw [uI_n _ _ (by omega)]; exact h5
      · rw [uI_n _ _ (by omega)]; exact s4 k k0 k1
theorem IN_holds {q : Nat → Int → Int} {v : Nat → Int} (hI : IN q v) {w : Int} : IN (fHolds q v w).1 (fHolds q v w).2.1 := by
  unfold fHolds
  split
  · exact hI
  · split
    · exact hI
    · rename_i h1 h2
      have hK := IN_know hI
      obtain ⟨i1, i2, iB, iM, iU, iF, iS, iP, iI, i26, i29, iv1⟩ := hI
      refine IN_now0 hK ?_
      obtain ⟨s0, s1, s2, s3, s4⟩ := iS
      show okS (q 9) (uI (q 17) 1 w)
      refine ⟨?_, ?_, ?_, fun k k0 k1 => ?_, fun k k0 k1 => ?_⟩
      · rw [uI_n _ _ (by omega)]; exact s0
      · rw [uI_n _ _ (by omega)]; exact s1
      · rw [uI_s]; omega
      · rw [uI_n _ _ (by omega)]; exact s3 k k0 k1
      · rw [uI_n _ _ (by omega)]; exact s4 k k0 k1
theorem IN_undo {q : Nat → Int → Int} {v : Nat → Int} (hI : IN q v) : IN (fUndo q v).1 (fUndo q v).2.1 := by
  unfold fUndo
  split
  · exact hI
  · rename_i h1
    obtain ⟨i1, i2, iB, iM, iU, iF, iS, iP, iI, i26, i29, iv1⟩ := hI
    obtain ⟨p0, p1, p2⟩ := iP
    refine ⟨i1, i2, iB, iM, iU, iF, ?_, ⟨show 0 ≤ q 18 0 - 1 by omega, show q 18 0 - 1 ≤ 10 by omega, fun i k0 k1 => ?_⟩, fun j j0 j1 => ?_, i26, i29, iv1⟩
    · exact okS_c (fun x x0 x1 => by show q 19 (90 * (q 18 0 - 1) + x) = q 19 (0 + 90 * (q 18 0 - 1) + x); rw [Int.zero_add]) (p2 (q 18 0 - 1) (by omega) (by omega))
    · have k2 : i < q 18 0 - 1 := k1
      exact p2 i k0 (by omega)
    · refine ⟨(iI j j0 j1).1, fun h2 => ⟨((iI j j0 j1).2 h2).1, ?_⟩⟩
      show okP (q 9) (q 19) (uI (q 18) 0 (q 18 0 - 1) (1 + j)) (900 * (1 + j))
      rw [uI_n _ _ (by omega)]
      exact ((iI j j0 j1).2 h2).2
theorem IN_keep {q : Nat → Int → Int} {v : Nat → Int} (hI : IN q v) {j : Int} : IN (fKeep q v j).1 (fKeep q v j).2.1 := by
  unfold fKeep
  split
  · exact hI
  · rename_i h1
    obtain ⟨i1, i2, iB, iM, iU, iF, iS, iP, iI, i26, i29, iv1⟩ := hI
    refine ⟨i1, i2, iB, iM, iU, iF, iS, ?_, fun i i0 i3 => ?_, i26, i29, iv1⟩
    · show okP (q 9) (blk (q 19) (q 19) (900 * (1 + j)) 900) (uI (q 18) (1 + j) (q 18 0) 0) 0
      rw [uI_n _ _ (by omega)]
      exact okP_c (fun x x0 x1 => blk_out (by omega)) iP
    · show (uI (q 21) j 1 i = 0 ∨ uI (q 21) j 1 i = 1) ∧ (uI (q 21) j 1 i = 1 → okS (q 9) (fun x => blk (q 20) (q 17) (90 * j) 90 (90 * i + x)) ∧ okP (q 9) (blk (q 19) (q 19) (900 * (1 + j)) 900) (uI (q 18) (1 + j) (q 18 0) (1 + i)) (900 * (1 + i)))
      by_cases hij : i = j
      · rw [hij, uI_s, uI_s]
        refine ⟨Or.inr rfl, fun _ => ⟨okS_c (fun x x0 x1 => by rw [blk_in (by omega) (by omega)]; congr 1; omega) iS, ?_⟩⟩
        obtain ⟨p0, p1, p2⟩ := iP
        exact ⟨p0, p1, fun i2 k0 k1 => okS_c (fun x x0 x1 => by rw [blk_in (by omega) (by omega)]; congr 1; omega) (p2 i2 k0 k1)⟩
      · rw [uI_n _ _ hij, uI_n _ _ (by omega)]
        refine ⟨(iI i i0 i3).1, fun h2 => ?_⟩
        have h3 := (iI i i0 i3).2 h2
        exact ⟨okS_c (fun x x0 x1 => by rw [blk_out (by omega)]) h3.1, okP_c (fun x x0 x1 => blk_out (by omega)) h3.2⟩
theorem IN_back {q : Nat → Int → Int} {v : Nat → Int} (hI : IN q v) {j : Int} : IN (fBack q v j).1 (fBack q v j).2.1 := by
  unfold fBack
  split
  · exact hI
  · split
    · exact hI
    · rename_i h1 h2
      obtain ⟨i1, i2, iB, iM, iU, iF, iS, iP, iI, i26, i29, iv1⟩ := hI
      have hj := iI j (by omega) (by omega)
      have hj2 := hj.2 (by rcases hj.1 with h | h; exact absurd h h2; exact h)
      refine ⟨i1, i2, iB, iM, iU, iF, hj2.1, ?_, fun i i0 i3 => ⟨(iI i i0 i3).1, fun h4 => ⟨((iI i i0 i3).2 h4).1, ?_⟩⟩, i26, i29, iv1⟩
      · show okP (q 9) (blk (q 19) (fun x => q 19 (900 * (1 + j) + x)) 0 900) (uI (q 18) 0 (q 18 (1 + j)) 0) 0
        rw [uI_s]
        obtain ⟨p0, p1, p2⟩ := hj2.2
        exact ⟨p0, p1, fun i2 k0 k1 => okS_c (fun x x0 x1 => by rw [blk_in (by omega) (by omega)]; congr 1; omega) (p2 i2 k0 k1)⟩
      · show okP (q 9) (blk (q 19) (fun x => q 19 (900 * (1 + j) + x)) 0 900) (uI (q 18) 0 (q 18 (1 + j)) (1 + i)) (900 * (1 + i))
        rw [uI_n _ _ (by omega)]
        exact okP_c (fun x x0 x1 => blk_out (by omega)) ((iI i i0 i3).2 h4).2
theorem IN_mark {q : Nat → Int → Int} {v : Nat → Int} (hI : IN q v) {k g : Int} : IN (fMark q v k g).1 (fMark q v k g).2.1 := by
  unfold fMark
  split
  · exact hI
  · obtain ⟨i1, i2, iB, iM, iU, iF, iS, iP, iI, i26, i29, iv1⟩ := hI
    exact ⟨i1, i2, iB, iM, iU, iF, iS, iP, iI, i26, i29, iv1⟩
theorem IN_g {r : Nat → Int → Int} {q : Nat → Int → Int} {v : Nat → Int} (hI : IN q v) (hj : ∀ j, j ≠ 22 → j ≠ 23 → j ≠ 30 → r j = q j) : IN r v := by
  unfold IN at hI ⊢
  rw [hj 2 (by decide) (by decide) (by decide), hj 3 (by decide) (by decide) (by decide), hj 4 (by decide) (by decide) (by decide), hj 5 (by decide) (by decide) (by decide), hj 6 (by decide) (by decide) (by decide), hj 7 (by decide) (by decide) (by decide), hj 8 (by decide) (by decide) (by decide), hj 9 (by decide) (by decide) (by decide), hj 17 (by decide) (by decide) (by decide), hj 18 (by decide) (by decide) (by decide), hj 19 (by decide) (by decide) (by decide), hj 20 (by decide) (by decide) (by decide), hj 21 (by decide) (by decide) (by decide), hj 24 (by decide) (by decide) (by decide), hj 25 (by decide) (by decide) (by decide), hj 27 (by decide) (by decide) (by decide), hj 28 (by decide) (by decide) (by decide)]
  exact hI
theorem CW_g {r q : Nat → Int → Int} {v : Nat → Int} {hp : pd_P} {to dr : Nat} (hC : CW hp to dr q v) (hj : ∀ j, j ≠ 22 → j ≠ 23 → j ≠ 30 → r j = q j) : CW hp to dr r v := by
  unfold CW DoA TxA HsA LfA ImA at hC ⊢
  rw [hj 0 (by decide) (by decide) (by decide), hj 2 (by decide) (by decide) (by decide), hj 3 (by decide) (by decide) (by decide), hj 4 (by decide) (by decide) (by decide), hj 5 (by decide) (by decide) (by decide), hj 6 (by decide) (by decide) (by decide), hj 7 (by decide) (by decide) (by decide), hj 8 (by decide) (by decide) (by decide), hj 9 (by decide) (by decide) (by decide), hj 17 (by decide) (by decide) (by decide), hj 18 (by decide) (by decide) (by decide), hj 19 (by decide) (by decide) (by decide), hj 20 (by decide) (by decide) (by decide), hj 21 (by decide) (by decide) (by decide), hj 24 (by decide) (by decide) (by decide), hj 25 (by decide) (by decide) (by decide), hj 27 (by decide) (by decide) (by decide), hj 28 (by decide) (by decide) (by decide)]
  exact hC
theorem IN_lv {q r : Nat → Int → Int} {v u : Nat → Int} (hI : IN q v) (hl : LV q r) (hv : VV v u) : IN r u := by
  obtain ⟨i1, i2, iB, iM, iU, iF, iS, iP, iI, i26, i29, iv1⟩ := hI
  obtain ⟨l1, ⟨l2, l3, l4⟩, l5, l6⟩ := hl
  have m9 : ∀ x, 0 ≤ x → x < 80 → r 9 x = q 9 x := fun x x0 x1 => (l6 x x0 x1).2
  have e17 := l1 17 (by decide)
  have e18 := l1 18 (by decide)
  have e19 := l1 19 (by decide)
  have e20 := l1 20 (by decide)
  have e21 := l1 21 (by decide)
  have e24 := l1 24 (by decide)
  have e25 := l1 25 (by decide)
  have e27 := l1 27 (by decide)
  have e28 := l1 28 (by decide)
  have u1 := hv 1 (by decide)
  have u26 := hv 26 (by decide)
  have u29 := hv 29 (by decide)
  unfold IN
  rw [e17, e18, e19, e20, e21, e24, e25, e27, e28, u1, u26, u29, l2, l3, l4]
  refine ⟨i1, i2, fun k k0 k1 => by rw [(l6 k k0 k1).1]; exact iB k k0 k1, fun k k0 k1 => by rw [(l6 k k0 k1).2]; exact iM k k0 k1, fun k k0 k1 => by rw [(l5 k k0 (by omega)).2.1]; exact iU k k0 k1, fun g g0 g1 => ?_, okS_m m9 iS, okP_m m9 iP, fun j j0 j1 => ⟨(iI j j0 j1).1, fun h => ⟨okS_m m9 ((iI j j0 j1).2 h).1, okP_m m9 ((iI j j0 j1).2 h).2⟩⟩, i26, i29, iv1⟩
  obtain ⟨a, b, c, d⟩ := l5 g g0 (by omega)
  rw [a, c, d]
  exact iF g g0 g1
theorem CW_lv {q r : Nat → Int → Int} {v u : Nat → Int} {hp hp1 hp2 : pd_P} {to dr : Nat} (hC : CW hp to dr q v) (hl : LV q r) (hv : VV v u) (hg : q 3 0 ≤ 4) (e1 : hp1 = va_up hp (to + 5) (ia 80 (r 8))) (e2 : hp2 = va_up hp1 (to + 6) (ia 80 (r 9))) : CW hp2 to dr r u := by
  obtain ⟨hto, hDo, hTx, ⟨fi, us, we, wo, st, ⟨hH, hH1, hH2, hH3, hH4, hH5, hH6, hH7⟩, hag, hst⟩, hHd, hLf, hI0, hI1, hGo, hPl⟩ := hC
  have hf : fr hp hp2 to (to + 8) := (fr.rf.up e1 (by omega) (by omega)).up e2 (by omega) (by omega)
  obtain ⟨l1, ⟨l2, l3, l4⟩, l5, l6⟩ := hl
  have e0 := l1 0 (by decide)
  have e17 := l1 17 (by decide)
  have e18 := l1 18 (by decide)
  have e19 := l1 19 (by decide)
  have e20 := l1 20 (by decide)
  have e21 := l1 21 (by decide)
  have e24 := l1 24 (by decide)
  have e25 := l1 25 (by decide)
  have e27 := l1 27 (by decide)
  have e28 := l1 28 (by decide)
  have u1 := hv 1 (by decide)
  have u26 := hv 26 (by decide)
  have u29 := hv 29 (by decide)
  have hDo := hDo.keep hf (by omega)
  have hTx := hTx.keep hf (by omega)
  have hLf := hLf.keep hf (by omega)
  have hI0 := hI0.keep hf (by omega)
  have hI1 := hI1.keep hf (by omega)
  refine ⟨hto, ?_, ?_, ⟨fi, us, we, wo, st, ⟨?_, pg_n e2 (by omega) (pg_n e1 (by omega) hH1), pg_n e2 (by omega) (pg_n e1 (by omega) hH2), pg_n e2 (by omega) (pg_n e1 (by omega) hH3), pg_n e2 (by omega) (pg_n e1 (by omega) hH4), pg_n e2 (by omega) (pg_s e1), pg_s e2, pg_n e2 (by omega) (pg_n e1 (by omega) hH7)⟩, fun g g0 g1 => ?_, fun d g hd g0 g1 => ?_⟩, hHd.keep hf (by omega), ?_, ?_, ?_, (hGo.keep hf (by omega)).v (hv 31 (by decide)), hPl.keep hf (by omega)⟩
  · unfold DoA at hDo ⊢
    rw [e21, e24, e25, e27, e28, u26, u29]
    exact hDo
  · unfold TxA at hTx ⊢
    rw [e0, u1]
    exact hTx
  · rw [l2, l3, l4]
    exact pg_n e2 (by omega) (pg_n e1 (by omega) hH)
  · rw [l4] at g1
    obtain ⟨a, b, c, d⟩ := l5 g g0 (by omega)
    rw [a, b, c, d]
    exact hag g g0 g1
  · rw [l4] at g1
    obtain ⟨a, b, c, d9⟩ := l5 g g0 (by omega)
    rw [hst d g hd g0 g1]
    exact sto_c a.symm b.symm g0 (by omega) (fun k k0 k1 => (l6 k k0 k1).1.symm) (fun k k0 k1 => (l6 k k0 k1).2.symm) d hd
  · unfold LfA at hLf ⊢
    rw [e17, e18, e19]
    exact hLf
  · unfold ImA at hI0 ⊢
    rw [e18, e19, e20, e21]
    exact hI0
  · unfold ImA at hI1 ⊢
    rw [e18, e19, e20, e21]
    exact hI1
theorem IN_house {q : Nat → Int → Int} {v : Nat → Int} (hI : IN q v) : IN (fHouse q v).1 (fHouse q v).2.1 := by
  unfold fHouse
  split
  · exact hI
  · obtain ⟨hD, hL⟩ := rdf_ok (b := fun x => q 0 x % 2 ^ 8) (n := v 1) 151 (rq0 q) 0 0 0 rq0_D
    have hr0 : hrd q v = rdf (fun x => q 0 x % 2 ^ 8) (v 1) 151 (rq0 q) 0 0 0 := rfl
    rw [← hr0] at hD hL
    show IN (hsq (hrd q v).2) (hsv v)
    generalize (hrd q v).2 = r at hD hL
    obtain ⟨⟨d0, d1⟩, ⟨d2, d3, d4, d5⟩, d6, d7⟩ := hD
    have e8 : ∀ k, 0 ≤ k → k < 80 → hsq r 8 k = r 8 (80 + k) := fun k k0 k1 => by
      show blk (r 8) (fun k => r 8 (80 + k)) 0 80 k = _
      rw [blk_in (by omega) (by omega), Int.sub_zero]
    have e9 : ∀ k, 0 ≤ k → k < 80 → hsq r 9 k = r 9 (80 + k) := fun k k0 k1 => by
      show blk (r 9) (fun k => r 9 (80 + k)) 0 80 k = _
      rw [blk_in (by omega) (by omega), Int.sub_zero]
    have e4 : ∀ g, 0 ≤ g → g < r 3 1 → hsq r 4 g = r 4 (4 + g) ∧ hsq r 5 g = r 5 (4 + g) ∧ hsq r 6 g = r 6 (4 + g) ∧ hsq r 7 g = r 7 (4 + g) := fun g g0 g1 => by
      refine ⟨?_, ?_, ?_, ?_⟩
      · show blk (r 4) (fun g => r 4 (4 + g)) 0 4 g = _; rw [blk_in (by omega) (by omega), Int.sub_zero]
      · show blk (r 5) (fun g => r 5 (4 + g)) 0 4 g = _; rw [blk_in (by omega) (by omega), Int.sub_zero]
      · show blk (r 6) (fun g => r 6 (4 + g)) 0 4 g = _; rw [blk_in (by omega) (by omega), Int.sub_zero]
      · show blk (r 7) (fun g => r 7 (4 + g)) 0 4 g = _; rw [blk_in (by omega) (by omega), Int.sub_zero]
    have hm : okB (hsq r 9) := fun k k0 k1 => by rw [e9 k k0 k1]; exact (d6 (80 + k) (by omega) (by omega)).2
    refine ⟨⟨d0, d1⟩, ⟨d2, d3, d4, d5⟩, fun k k0 k1 => by rw [e8 k k0 k1]; exact (d6 (80 + k) (by omega) (by omega)).1, hm, fun g g0 g1 => ?_, fun g g0 g1 => ?_, beg_ok d1 hm (fun g g0 g1 => (d7 g g0 g1).1), ⟨show (0 : Int) ≤ 0 by omega, show (0 : Int) ≤ 10 by omega, fun i k0 k1 => absurd (show i < 0 from k1) (by omega)⟩, fun j j0 j1 => ?_, ⟨show (0 : Int) ≤ 0 by omega, show (0 : Int) ≤ 4 by omega, fun i k0 k1 => absurd (show i < 0 from k1) (by omega)⟩, ⟨show (0 : Int) ≤ 0 by omega, show (0 : Int) ≤ 4 by omega, fun i k0 k1 => absurd (show i < 0 from k1) (by omega)⟩, ⟨show (0 : Int) ≤ 0 by omega, show (0 : Int) ≤ 150 by omega⟩⟩
    · have g2 : g < r 3 1 := g1
      rw [(e4 g g0 g2).2.1]; exact (d7 g g0 g2).2.1
    · have g2 : g < r 3 1 := g1
      obtain ⟨a, b, c, d⟩ := e4 g g0 g2
      rw [a, c, d]
      exact ⟨(d7 g g0 g2).1, (d7 g g0 g2).2.2.1, (d7 g g0 g2).2.2.2⟩
    · have h0 : hsq r 21 j = 0 := by
        show uI (uI (r 21) 0 0) 1 0 j = 0
        by_cases hj : j = 1
        · rw [hj, uI_s]
        · rw [uI_n _ _ hj, show j = 0 by omega, uI_s]
      rw [h0]
      exact ⟨Or.inl rfl, fun h => absurd h (by decide)⟩
