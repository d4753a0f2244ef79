/-! more rows: numbers, Math, arraycopy, references into rows -/
theorem jI_div {x y : Int} (hx : 0 ≤ x) (hx2 : x < 2147483648) (hy : 0 < y) (hy2 : y < 2147483648) : jI x / jI y = jI (x / y) := by
  apply Int32.toInt_inj.mp
  have h1 : 0 ≤ x / y := Int.ediv_nonneg hx (by omega)
  have h2 : x / y ≤ x := Int.ediv_le_self y hx
  have hne : jI y ≠ -1 := by
    intro h
    have h3 : jI y = jI (-1) := h
    rw [jI_eq ⟨by omega, by omega⟩ ⟨by omega, by omega⟩] at h3
    omega
  rw [Int32.toInt_div_of_ne_right _ _ hne, jI_toInt ⟨by omega, by omega⟩, jI_toInt ⟨by omega, by omega⟩, jI_toInt ⟨by omega, by omega⟩, Int.tdiv_eq_ediv_of_nonneg hx]
theorem jI_ne0 {y : Int} (hy : 0 < y) (hy2 : y < 2147483648) : ¬ jI y = 0 := by
  intro h
  have h3 : jI y = jI 0 := h
  rw [jI_eq ⟨by omega, by omega⟩ jR_0] at h3
  omega
theorem jI_rem {x y : Int} (hx : 0 ≤ x) (hx2 : x < 2147483648) (hy : 0 < y) (hy2 : y < 2147483648) : jI x - jI x / jI y * jI y = jI (x % y) := by
  rw [jI_div hx hx2 hy hy2, jI_mul, jI_sub]
  congr 1
  have h1 := Int.emod_add_mul_ediv x y
  have h2 : x / y * y = y * (x / y) := Int.mul_comm _ _
  omega
theorem jI_and_mask (x : Int) (k : Nat) (hk : k ≤ 30) {m : Int} (hm : m = 2 ^ k - 1) : jI x &&& jI m = jI (x % 2 ^ k) := by
  have hp : (0 : Int) < 2 ^ k := Int.pow_pos (by decide)
  have hle : (2 : Int) ^ k ≤ 2 ^ 30 := by
    have := Nat.pow_le_pow_right (show 0 < 2 by decide) hk
    exact_mod_cast this
  have e1 : jI x &&& jI m = nI ((jI x).toBitVec.toNat % 2 ^ k) := by
    refine pk_and (jI x) k ?_
    subst hm
    have h1 : ((2 : Int) ^ k - 1) = (((2 ^ k - 1 : Nat)) : Int) := by
      have h9 : 1 ≤ 2 ^ k := Nat.one_le_two_pow
      rw [Int.natCast_sub h9]
      simp
    show (Int32.ofInt _).toBitVec.toNat = _
    rw [h1, Int32.ofInt_eq_ofNat]
    refine pk_tn ?_
    have : 2 ^ k ≤ 2 ^ 30 := Nat.pow_le_pow_right (by decide) hk
    omega
  rw [e1]
  show Int32.ofNat _ = Int32.ofInt _
  rw [← Int32.ofInt_eq_ofNat]
  congr 1
  have h2 : (((jI x).toBitVec.toNat : Nat) : Int) = x % 2 ^ 32 := by
    show (((BitVec.ofInt 32 x).toNat : Nat) : Int) = _
    rw [BitVec.toNat_ofInt]
    have : (0 : Int) ≤ x % (2 ^ 32 : Nat) := Int.emod_nonneg _ (by decide)
    omega
  rw [Int.natCast_emod, h2]
  have h3 : ((2 ^ k : Nat) : Int) = 2 ^ k := by simp
  rw [h3, Int.emod_emod_of_dvd]
  have hd : (2 ^ k : Nat) ∣ 2 ^ 32 := Nat.pow_dvd_pow 2 (by omega)
  have := Int.natCast_dvd_natCast.mpr hd
  simpa using this
theorem jI_min (x y : Int) (hx : jR x) (hy : jR y) : (if jI y < jI x then jI y else jI x) = jI (min x y) := by
  by_cases h : y < x
  · rw [if_pos ((jI_lt hy hx).mpr h), Int.min_eq_right (by omega)]
  · rw [if_neg (fun q => h ((jI_lt hy hx).mp q)), Int.min_eq_left (by omega)]
theorem jI_max (x y : Int) (hx : jR x) (hy : jR y) : (if jI x < jI y then jI y else jI x) = jI (max x y) := by
  by_cases h : x < y
  · rw [if_pos ((jI_lt hx hy).mpr h), Int.max_eq_right (by omega)]
  · rw [if_neg (fun q => h ((jI_lt hx hy).mp q)), Int.max_eq_left (by omega)]
theorem jI_i2b {x : Int} (hx : 0 ≤ x) (hx2 : x < 256) : (jI x).toInt8.toInt32 = jI (if x < 128 then x else x - 256) := by
  apply Int32.toInt_inj.mp
  rw [Int8.toInt_toInt32, Int32.toInt_toInt8, jI_toInt ⟨by omega, by omega⟩]
  by_cases h : x < 128
  · rw [if_pos h, jI_toInt ⟨by omega, by omega⟩]
    exact Int.bmod_eq_of_le (by omega) (by omega)
  · rw [if_neg h, jI_toInt ⟨by omega, by omega⟩]
    simp only [Int.bmod]
    omega
theorem pd_words (G : pd_G) : ∀ st : List pv, ((st.map (pd_up G)).map fun v => v.category).sum ≤ 2 * st.length
  | [] => by simp
  | v :: st => by
    have ih := pd_words G st
    have hc := lv_cat (pd_up G v)
    simp only [List.map_cons, List.sum_cons, List.length_cons]
    omega
section PDMORE
variable {G : pd_G} {M : pd_M} {d mc ms : Nat} {X : Option (Nat × (Nat → Int))} {R : pd_R} {pc n t : Nat} {lv : List (Option pv)} {st : List pv} {sz ce sl : Nat} {hp : pd_P}
theorem pt_idiv {x y : Int} (h : pd_i M pc .idiv 1 n) (h1 : 0 ≤ x) (h2 : x < 2147483648) (h3 : 0 < y) (h4 : y < 2147483648) (k : pd_T G M d mc ms X R n lv (vi (x / y) :: st) sz ce sl hp) : pd_T G M d mc ms X R pc lv (vi y :: vi x :: st) sz ce sl hp := by
  intro p e Rm s m args below meth c Q hx hq H locs ls hH hS hl
  obtain ⟨g1, rfl⟩ := h
  refine lv_idiv hx.1 hx.2.1 g1 (jI_ne0 h3 h4) ?_
  rw [jI_div h1 h2 h3 h4]
  exact k p e Rm s m args below meth c Q hx hq H locs ls hH hS hl
theorem pt_irem {x y : Int} (h : pd_i M pc .irem 1 n) (h1 : 0 ≤ x) (h2 : x < 2147483648) (h3 : 0 < y) (h4 : y < 2147483648) (k : pd_T G M d mc ms X R n lv (vi (x % y) :: st) sz ce sl hp) : pd_T G M d mc ms X R pc lv (vi y :: vi x :: st) sz ce sl hp := by
  intro p e Rm s m args below meth c Q hx hq H locs ls hH hS hl
  obtain ⟨g1, rfl⟩ := h
  refine lv_irem hx.1 hx.2.1 g1 (jI_ne0 h3 h4) ?_
  rw [jI_rem h1 h2 h3 h4]
  exact k p e Rm s m args below meth c Q hx hq H locs ls hH hS hl
theorem pt_iand {x m0 : Int} (kb : Nat) (h : pd_i M pc .iand 1 n) (hk : kb ≤ 30) (hm : m0 = 2 ^ kb - 1) (k : pd_T G M d mc ms X R n lv (vi (x % 2 ^ kb) :: st) sz ce sl hp) : pd_T G M d mc ms X R pc lv (vi m0 :: vi x :: st) sz ce sl hp := by
  intro p e Rm s m args below meth c Q hx hq H locs ls hH hS hl
  obtain ⟨g1, rfl⟩ := h
  refine lv_iand hx.1 hx.2.1 g1 ?_
  rw [jI_and_mask x kb hk hm]
  exact k p e Rm s m args below meth c Q hx hq H locs ls hH hS hl
theorem pt_i2b {x : Int} (h : pd_i M pc .i2b 1 n) (h1 : 0 ≤ x) (h2 : x < 256) (k : pd_T G M d mc ms X R n lv (vi (if x < 128 then x else x - 256) :: st) sz ce sl hp) : pd_T G M d mc ms X R pc lv (vi x :: st) sz ce sl hp := by
  intro p e Rm s m args below meth c Q hx hq H locs ls hH hS hl
  obtain ⟨g1, rfl⟩ := h
  exact lv_i2b hx.1 hx.2.1 g1 (jI_i2b h1 h2) (k p e Rm s m args below meth c Q hx hq H locs ls hH hS hl)
theorem pt_ior {x y z : Int} (h : pd_i M pc .ior 1 n) (he : jI x ||| jI y = jI z) (k : pd_T G M d mc ms X R n lv (vi z :: st) sz ce sl hp) : pd_T G M d mc ms X R pc lv (vi y :: vi x :: st) sz ce sl hp := by
  intro p e Rm s m args below meth c Q hx hq H locs ls hH hS hl
  obtain ⟨g1, rfl⟩ := h
  refine lv_ior hx.1 hx.2.1 g1 ?_
  rw [he]
  exact k p e Rm s m args below meth c Q hx hq H locs ls hH hS hl
theorem pt_ishl {x y z : Int} (h : pd_i M pc .ishl 1 n) (he : jI x <<< (jI y &&& 31) = jI z) (k : pd_T G M d mc ms X R n lv (vi z :: st) sz ce sl hp) : pd_T G M d mc ms X R pc lv (vi y :: vi x :: st) sz ce sl hp := by
  intro p e Rm s m args below meth c Q hx hq H locs ls hH hS hl
  obtain ⟨g1, rfl⟩ := h
  refine lv_ishl hx.1 hx.2.1 g1 ?_
  rw [he]
  exact k p e Rm s m args below meth c Q hx hq H locs ls hH hS hl
theorem pt_ishr {x y z : Int} (h : pd_i M pc .ishr 1 n) (he : jI x >>> (jI y &&& 31) = jI z) (k : pd_T G M d mc ms X R n lv (vi z :: st) sz ce sl hp) : pd_T G M d mc ms X R pc lv (vi y :: vi x :: st) sz ce sl hp := by
  intro p e Rm s m args below meth c Q hx hq H locs ls hH hS hl
  obtain ⟨g1, rfl⟩ := h
  refine lv_ishr hx.1 hx.2.1 g1 ?_
  rw [he]
  exact k p e Rm s m args below meth c Q hx hq H locs ls hH hS hl
theorem pt_lcmp {x y : Int} (h : pd_i M pc .lcmp 1 n) (he : x = y) (k : pd_T G M d mc ms X R n lv (vi 0 :: st) sz ce sl hp) : pd_T G M d mc ms X R pc lv (vl y :: vl x :: st) sz ce sl hp := by
  intro p e Rm s m args below meth c Q hx hq H locs ls hH hS hl
  obtain ⟨g1, rfl⟩ := h
  refine W.lcmp hx.1 hx.2.1 g1 ?_
  have e0 : lg_cmp (jL x) (jL y) = jI 0 := by
    subst he
    unfold lg_cmp
    rw [if_neg (by simp [Int64.lt_irrefl]), if_pos rfl]
    rfl
  rw [e0]
  exact k p e Rm s m args below meth c Q hx hq H locs ls hH hS hl
theorem mth_min : Cond.static Lib.Math.min.name ∈ pd_tbl ∧ Cond.code Lib.Math.min.name Lib.Math.min.code 2 (some .int) ∈ pd_tbl ∧ Cond.initialized "java/lang/Math" ∈ pd_tbl := ⟨pd_m 395 (by decide +kernel) (by decide +kernel), pd_m 396 (by decide +kernel) (by decide +kernel), pd_m 59 (by decide +kernel) (by decide +kernel)⟩
def pd_min (M : pd_M) (pc n : Nat) : Prop := ∃ idx, pd_i M pc (.invokestatic idx) 3 n ∧ Cond.methodLink M.1.cls idx Lib.Math.min.name ∈ pd_tbl
theorem pt_min {x y : Int} (h : pd_min M pc n) (h1 : jR x) (h2 : jR y) (hd : 1 ≤ d) (hr : st.length ≤ 8) (hce : ce ≤ mc) (hsl : sl ≤ ms) (k : pd_T G M d mc ms X R n lv (vi (min x y) :: st) sz ce sl hp) : pd_T G M d mc ms X R pc lv (vi y :: vi x :: st) sz ce sl hp := by
  intro p e Rm s m args below meth c Q hx hq H locs ls hH hS hl
  obtain ⟨idx, ⟨g1, rfl⟩, g2⟩ := h
  have hts := hx.2.2.2.2.1
  obtain ⟨r1, r2, r3, r4⟩ := hx.2.2.2.2.2.2.1
  have hcat := pd_words G st
  refine va_mmin hx.1 hx.2.1 (hx.2.2.1.trans hl.1.symm) hx.2.2.2.1 (hts _ g2) (hts _ mth_min.1) (hts _ mth_min.2.2) (hts _ mth_min.2.1) (by omega) (by omega) (by omega) (by omega) g1 ?_
  rw [jI_min x y h1 h2]
  exact k p e Rm s m args below meth c Q hx hq H locs ls hH hS hl
theorem mth_max : Cond.static Lib.Math.max.name ∈ pd_tbl ∧ Cond.code Lib.Math.max.name Lib.Math.max.code 2 (some .int) ∈ pd_tbl ∧ Cond.initialized "java/lang/Math" ∈ pd_tbl := ⟨pd_m 436 (by decide +kernel) (by decide +kernel), pd_m 437 (by decide +kernel) (by decide +kernel), pd_m 59 (by decide +kernel) (by decide +kernel)⟩
def pd_max (M : pd_M) (pc n : Nat) : Prop := ∃ idx, pd_i M pc (.invokestatic idx) 3 n ∧ Cond.methodLink M.1.cls idx Lib.Math.max.name ∈ pd_tbl
theorem pt_max {x y : Int} (h : pd_max M pc n) (h1 : jR x) (h2 : jR y) (hd : 1 ≤ d) (hr : st.length ≤ 8) (hce : ce ≤ mc) (hsl : sl ≤ ms) (k : pd_T G M d mc ms X R n lv (vi (max x y) :: st) sz ce sl hp) : pd_T G M d mc ms X R pc lv (vi y :: vi x :: st) sz ce sl hp := by
  intro p e Rm s m args below meth c Q hx hq H locs ls hH hS hl
  obtain ⟨idx, ⟨g1, rfl⟩, g2⟩ := h
  have hts := hx.2.2.2.2.1
  obtain ⟨r1, r2, r3, r4⟩ := hx.2.2.2.2.2.2.1
  have hcat := pd_words G st
  refine va_mmax hx.1 hx.2.1 (hx.2.2.1.trans hl.1.symm) hx.2.2.2.1 (hts _ g2) (hts _ mth_max.1) (hts _ mth_max.2.2) (hts _ mth_max.2.1) (by omega) (by omega) (by omega) (by omega) g1 ?_
  rw [jI_max x y h1 h2]
  exact k p e Rm s m args below meth c Q hx hq H locs ls hH hS hl
end PDMORE
