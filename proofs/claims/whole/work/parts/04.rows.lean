/-! rows: an instruction each -/
def pd_i (M : pd_M) (pc : Nat) (i : Instr) (len n : Nat) : Prop := decode M.2.1 pc = .ok (i, len) ∧ n = pc + len
def pd_il (M : pd_M) (pc k n : Nat) : Prop := (∃ f : Fin 4, (f : Nat) = k ∧ pd_i M pc (.iload_n f) 1 n) ∨ pd_i M pc (.iload k) 2 n
def pd_al (M : pd_M) (pc k n : Nat) : Prop := (∃ f : Fin 4, (f : Nat) = k ∧ pd_i M pc (.aload_n f) 1 n) ∨ pd_i M pc (.aload k) 2 n
def pd_jl (M : pd_M) (pc k n : Nat) : Prop := (∃ f : Fin 4, (f : Nat) = k ∧ pd_i M pc (.lload_n f) 1 n) ∨ pd_i M pc (.lload k) 2 n
def pd_is (M : pd_M) (pc k n : Nat) : Prop := k < M.2.2.1 ∧ ((∃ f : Fin 4, (f : Nat) = k ∧ pd_i M pc (.istore_n f) 1 n) ∨ pd_i M pc (.istore k) 2 n)
def pd_as (M : pd_M) (pc k n : Nat) : Prop := k < M.2.2.1 ∧ ((∃ f : Fin 4, (f : Nat) = k ∧ pd_i M pc (.astore_n f) 1 n) ∨ pd_i M pc (.astore k) 2 n)
def pd_js (M : pd_M) (pc k n : Nat) : Prop := k + 1 < M.2.2.1 ∧ ((∃ f : Fin 4, (f : Nat) = k ∧ pd_i M pc (.lstore_n f) 1 n) ∨ pd_i M pc (.lstore k) 2 n)
def pd_ii (M : pd_M) (pc k : Nat) (z : Int) (n : Nat) : Prop := k < M.2.2.1 ∧ pd_i M pc (.iinc k z) 3 n
def pd_ic (M : pd_M) (pc : Nat) (z : Int) (n : Nat) : Prop := pd_i M pc (.iconst z) 1 n ∨ (pd_i M pc (.bipush z) 2 n ∧ (Int8.ofInt z).toInt32 = jI z) ∨ (pd_i M pc (.sipush z) 3 n ∧ (Int16.ofInt z).toInt32 = jI z) ∨ (∃ idx, pd_i M pc (.ldc idx) 2 n ∧ Cond.constant M.1.cls idx (jI z) ∈ pd_tbl) ∨ (∃ idx, pd_i M pc (.ldc_w idx) 3 n ∧ Cond.constant M.1.cls idx (jI z) ∈ pd_tbl)
def pd_jc (M : pd_M) (pc : Nat) (z : Int) (n : Nat) : Prop := (∃ f : Fin 2, pd_i M pc (.lconst f) 1 n ∧ Int64.ofNat (f : Nat) = jL z) ∨ (∃ idx, pd_i M pc (.ldc2_w idx) 3 n ∧ Cond.constantLong M.1.cls idx (jL z) ∈ pd_tbl)
def pd_b1 (M : pd_M) (pc : Nat) (cd : Jvm.ClassFile.Cond) (n t : Nat) : Prop := ∃ off : Int, pd_i M pc (.ifCond cd off) 3 n ∧ (pc : Int) + off = (t : Int)
def pd_b2 (M : pd_M) (pc : Nat) (cd : Jvm.ClassFile.Cond) (n t : Nat) : Prop := ∃ off : Int, pd_i M pc (.if_icmp cd off) 3 n ∧ (pc : Int) + off = (t : Int)
def pd_go (M : pd_M) (pc t : Nat) : Prop := ∃ off : Int, decode M.2.1 pc = .ok (.goto off, 3) ∧ (pc : Int) + off = (t : Int)
def uI {α : Type} (f : Int → α) (z : Int) (x : α) : Int → α := fun i => if i = z then x else f i
theorem uI_s {α : Type} (f : Int → α) (z : Int) (x : α) : uI f z x z = x := by simp [uI]
theorem uI_n {α : Type} (f : Int → α) {z i : Int} (x : α) (h : i ≠ z) : uI f z x i = f i := by simp [uI, h]
section PDROWS
variable {G : pd_G} {M : pd_M} {d mc ms : Nat} {X : Option (Nat × (Nat → Int))} {R : pd_R} {pc n t : Nat} {lv : List (Option pv)} {st : List pv} {sz ce sl : Nat} {hp : pd_P}
theorem pt_iadd {x y : Int} (h : pd_i M pc .iadd 1 n) (k : pd_T G M d mc ms X R n lv (vi (x + y) :: st) sz ce sl hp) : pd_T G M d mc ms X R pc lv (vi y :: vi x :: st) sz ce sl hp := by
  intro p e Rm s m args below meth c Q hx hq H locs ls hH hS hl
  obtain ⟨h1, rfl⟩ := h
  refine lv_iadd hx.1 hx.2.1 h1 ?_
  rw [jI_add]
  exact k p e Rm s m args below meth c Q hx hq H locs ls hH hS hl
theorem pt_isub {x y : Int} (h : pd_i M pc .isub 1 n) (k : pd_T G M d mc ms X R n lv (vi (x - y) :: st) sz ce sl hp) : pd_T G M d mc ms X R pc lv (vi y :: vi x :: st) sz ce sl hp := by
  intro p e Rm s m args below meth c Q hx hq H locs ls hH hS hl
  obtain ⟨h1, rfl⟩ := h
  refine lv_isub hx.1 hx.2.1 h1 ?_
  rw [jI_sub]
  exact k p e Rm s m args below meth c Q hx hq H locs ls hH hS hl
theorem pt_imul {x y : Int} (h : pd_i M pc .imul 1 n) (k : pd_T G M d mc ms X R n lv (vi (x * y) :: st) sz ce sl hp) : pd_T G M d mc ms X R pc lv (vi y :: vi x :: st) sz ce sl hp := by
  intro p e Rm s m args below meth c Q hx hq H locs ls hH hS hl
  obtain ⟨h1, rfl⟩ := h
  refine lv_imul hx.1 hx.2.1 h1 ?_
  rw [jI_mul]
  exact k p e Rm s m args below meth c Q hx hq H locs ls hH hS hl
theorem pt_ladd {x y : Int} (h : pd_i M pc .ladd 1 n) (k : pd_T G M d mc ms X R n lv (vl (x + y) :: st) sz ce sl hp) : pd_T G M d mc ms X R pc lv (vl y :: vl x :: st) sz ce sl hp := by
  intro p e Rm s m args below meth c Q hx hq H locs ls hH hS hl
  obtain ⟨h1, rfl⟩ := h
  refine lv_ladd hx.1 hx.2.1 h1 ?_
  rw [jL_add]
  exact k p e Rm s m args below meth c Q hx hq H locs ls hH hS hl
theorem pt_lmul {x y : Int} (h : pd_i M pc .lmul 1 n) (k : pd_T G M d mc ms X R n lv (vl (x * y) :: st) sz ce sl hp) : pd_T G M d mc ms X R pc lv (vl y :: vl x :: st) sz ce sl hp := by
  intro p e Rm s m args below meth c Q hx hq H locs ls hH hS hl
  obtain ⟨h1, rfl⟩ := h
  refine lv_lmul hx.1 hx.2.1 h1 ?_
  rw [jL_mul]
  exact k p e Rm s m args below meth c Q hx hq H locs ls hH hS hl
theorem pt_ic {z : Int} (h : pd_ic M pc z n) (k : pd_T G M d mc ms X R n lv (vi z :: st) sz ce sl hp) : pd_T G M d mc ms X R pc lv st sz ce sl hp := by
  intro p e Rm s m args below meth c Q hx hq H locs ls hH hS hl
  rcases h with ⟨h1, rfl⟩ | ⟨⟨h1, rfl⟩, h2⟩ | ⟨⟨h1, rfl⟩, h2⟩ | ⟨idx, ⟨h1, rfl⟩, h2⟩ | ⟨idx, ⟨h1, rfl⟩, h2⟩
  · exact lv_iconst (v := jI z) hx.1 hx.2.1 h1 rfl (k p e Rm s m args below meth c Q hx hq H locs ls hH hS hl)
  · exact lv_bipush (v := jI z) hx.1 hx.2.1 h1 h2 (k p e Rm s m args below meth c Q hx hq H locs ls hH hS hl)
  · exact lv_sipush (v := jI z) hx.1 hx.2.1 h1 h2 (k p e Rm s m args below meth c Q hx hq H locs ls hH hS hl)
  · exact lv_ldc (v := jI z) hx.1 hx.2.1 hx.2.2.2.1 (hx.2.2.2.2.1 _ h2) h1 (k p e Rm s m args below meth c Q hx hq H locs ls hH hS hl)
  · exact lv_ldcw (v := jI z) hx.1 hx.2.1 hx.2.2.2.1 (hx.2.2.2.2.1 _ h2) h1 (k p e Rm s m args below meth c Q hx hq H locs ls hH hS hl)
theorem pt_jc {z : Int} (h : pd_jc M pc z n) (k : pd_T G M d mc ms X R n lv (vl z :: st) sz ce sl hp) : pd_T G M d mc ms X R pc lv st sz ce sl hp := by
  intro p e Rm s m args below meth c Q hx hq H locs ls hH hS hl
  rcases h with ⟨f, ⟨h1, rfl⟩, h2⟩ | ⟨idx, ⟨h1, rfl⟩, h2⟩
  · exact lv_lconst (v := jL z) hx.1 hx.2.1 h1 h2 (k p e Rm s m args below meth c Q hx hq H locs ls hH hS hl)
  · exact lv_ldc2 (v := jL z) hx.1 hx.2.1 hx.2.2.2.1 (hx.2.2.2.2.1 _ h2) h1 (k p e Rm s m args below meth c Q hx hq H locs ls hH hS hl)
theorem pt_iload {i : Nat} {z : Int} (h : pd_il M pc i n) (hv : pd_nth lv i = some (vi z)) (k : pd_T G M d mc ms X R n lv (vi z :: st) sz ce sl hp) : pd_T G M d mc ms X R pc lv st sz ce sl hp := by
  intro p e Rm s m args below meth c Q hx hq H locs ls hH hS hl
  have hg := hl.2.2 i _ hv
  rcases h with ⟨f, hf, h1, rfl⟩ | ⟨h1, rfl⟩
  · exact lv_iload_n hx.1 hx.2.1 h1 hf hg (k p e Rm s m args below meth c Q hx hq H locs ls hH hS hl)
  · exact lv_iload hx.1 hx.2.1 h1 hg (k p e Rm s m args below meth c Q hx hq H locs ls hH hS hl)
theorem pt_lload {i : Nat} {z : Int} (h : pd_jl M pc i n) (hv : pd_nth lv i = some (vl z)) (k : pd_T G M d mc ms X R n lv (vl z :: st) sz ce sl hp) : pd_T G M d mc ms X R pc lv st sz ce sl hp := by
  intro p e Rm s m args below meth c Q hx hq H locs ls hH hS hl
  have hg := hl.2.2 i _ hv
  rcases h with ⟨f, hf, h1, rfl⟩ | ⟨h1, rfl⟩
  · exact lv_lload_n hx.1 hx.2.1 h1 hf hg (k p e Rm s m args below meth c Q hx hq H locs ls hH hS hl)
  · exact lv_lload hx.1 hx.2.1 h1 hg (k p e Rm s m args below meth c Q hx hq H locs ls hH hS hl)
theorem pt_aload {i a : Nat} (h : pd_al M pc i n) (hv : pd_nth lv i = some (vr a)) (k : pd_T G M d mc ms X R n lv (vr a :: st) sz ce sl hp) : pd_T G M d mc ms X R pc lv st sz ce sl hp := by
  intro p e Rm s m args below meth c Q hx hq H locs ls hH hS hl
  have hg := hl.2.2 i _ hv
  rcases h with ⟨f, hf, h1, rfl⟩ | ⟨h1, rfl⟩
  · exact lv_aload_n hx.1 hx.2.1 h1 hf hg (k p e Rm s m args below meth c Q hx hq H locs ls hH hS hl)
  · exact lv_aload hx.1 hx.2.1 h1 hg (k p e Rm s m args below meth c Q hx hq H locs ls hH hS hl)
theorem pt_istore {i : Nat} {z : Int} (h : pd_is M pc i n) (ho : pd_o1 lv i = true) (k : pd_T G M d mc ms X R n (pd_put lv i (some (vi z))) st sz ce sl hp) : pd_T G M d mc ms X R pc lv (vi z :: st) sz ce sl hp := by
  intro p e Rm s m args below meth c Q hx hq H locs ls hH hS hl
  obtain ⟨hn, h⟩ := h
  rcases h with ⟨f, hf, h1, rfl⟩ | ⟨h1, rfl⟩
  · exact lv_istore_n hx.1 hx.2.1 h1 hf hl.has hn rfl (fun ls' hl' => k p e Rm s m args below meth c Q hx hq H locs ls' hH hS (pd_lv.st1 ho hl'))
  · exact lv_istore hx.1 hx.2.1 h1 hl.has hn rfl (fun ls' hl' => k p e Rm s m args below meth c Q hx hq H locs ls' hH hS (pd_lv.st1 ho hl'))
theorem pt_astore {i : Nat} {z : Nat} (h : pd_as M pc i n) (ho : pd_o1 lv i = true) (k : pd_T G M d mc ms X R n (pd_put lv i (some (vr z))) st sz ce sl hp) : pd_T G M d mc ms X R pc lv (vr z :: st) sz ce sl hp := by
  intro p e Rm s m args below meth c Q hx hq H locs ls hH hS hl
  obtain ⟨hn, h⟩ := h
  rcases h with ⟨f, hf, h1, rfl⟩ | ⟨h1, rfl⟩
  · exact lv_astore_n hx.1 hx.2.1 h1 hf hl.has hn rfl (fun ls' hl' => k p e Rm s m args below meth c Q hx hq H locs ls' hH hS (pd_lv.st1 ho hl'))
  · exact lv_astore hx.1 hx.2.1 h1 hl.has hn rfl (fun ls' hl' => k p e Rm s m args below meth c Q hx hq H locs ls' hH hS (pd_lv.st1 ho hl'))
theorem pt_lstore {i : Nat} {z : Int} (h : pd_js M pc i n) (ho : pd_o1 lv i = true) (k : pd_T G M d mc ms X R n (pd_put (pd_put lv (i + 1) none) i (some (vl z))) st sz ce sl hp) : pd_T G M d mc ms X R pc lv (vl z :: st) sz ce sl hp := by
  intro p e Rm s m args below meth c Q hx hq H locs ls hH hS hl
  obtain ⟨hn, h⟩ := h
  rcases h with ⟨f, hf, h1, rfl⟩ | ⟨h1, rfl⟩
  · exact lv_lstore_n hx.1 hx.2.1 h1 hf hl.has hn rfl (fun ls' hl' => k p e Rm s m args below meth c Q hx hq H locs ls' hH hS (pd_lv.st2 ho hl'))
  · exact lv_lstore hx.1 hx.2.1 h1 hl.has hn rfl (fun ls' hl' => k p e Rm s m args below meth c Q hx hq H locs ls' hH hS (pd_lv.st2 ho hl'))
theorem pt_iinc {i : Nat} {z c0 : Int} (h : pd_ii M pc i c0 n) (ho : pd_o1 lv i = true) (hv : pd_nth lv i = some (vi z)) (k : pd_T G M d mc ms X R n (pd_put lv i (some (vi (z + c0)))) st sz ce sl hp) : pd_T G M d mc ms X R pc lv st sz ce sl hp := by
  intro p e Rm s m args below meth c Q hx hq H locs ls hH hS hl
  obtain ⟨hn, h1, rfl⟩ := h
  obtain ⟨kk, hk⟩ := List.getElem?_of_mem (pd_ll_mem (G := G) hv)
  refine lv_iinc (v := jI (z + c0)) hx.1 hx.2.1 h1 hl.has hk (jI_add z c0) hn rfl (fun ls' hl' => ?_)
  exact k p e Rm s m args below meth c Q hx hq H locs ls' hH hS (pd_lv.st1 ho hl')
theorem pt_dup {v : pv} (h : pd_i M pc .dup 1 n) (hv : ∀ z, v ≠ vl z) (k : pd_T G M d mc ms X R n lv (v :: v :: st) sz ce sl hp) : pd_T G M d mc ms X R pc lv (v :: st) sz ce sl hp := by
  intro p e Rm s m args below meth c Q hx hq H locs ls hH hS hl
  obtain ⟨h1, rfl⟩ := h
  exact lv_dup hx.1 hx.2.1 h1 (pd_one G v hv) (k p e Rm s m args below meth c Q hx hq H locs ls hH hS hl)
theorem pt_dupr {a : Nat} (h : pd_i M pc .dup 1 n) (k : pd_T G M d mc ms X R n lv (vr a :: vr a :: st) sz ce sl hp) : pd_T G M d mc ms X R pc lv (vr a :: st) sz ce sl hp := pt_dup h (fun z q => by cases q) k
theorem pt_dupi {z : Int} (h : pd_i M pc .dup 1 n) (k : pd_T G M d mc ms X R n lv (vi z :: vi z :: st) sz ce sl hp) : pd_T G M d mc ms X R pc lv (vi z :: st) sz ce sl hp := pt_dup h (fun z q => by cases q) k
theorem pt_popi {z : Int} (h : pd_i M pc .pop 1 n) (k : pd_T G M d mc ms X R n lv st sz ce sl hp) : pd_T G M d mc ms X R pc lv (vi z :: st) sz ce sl hp := by
  intro p e Rm s m args below meth c Q hx hq H locs ls hH hS hl
  obtain ⟨h1, rfl⟩ := h
  exact lv_pop hx.1 hx.2.1 h1 rfl (k p e Rm s m args below meth c Q hx hq H locs ls hH hS hl)
theorem pt_dup2 {z : Int} {a : Nat} (h : pd_i M pc .dup2 1 n) (k : pd_T G M d mc ms X R n lv (vi z :: vr a :: vi z :: vr a :: st) sz ce sl hp) : pd_T G M d mc ms X R pc lv (vi z :: vr a :: st) sz ce sl hp := by
  intro p e Rm s m args below meth c Q hx hq H locs ls hH hS hl
  obtain ⟨h1, rfl⟩ := h
  exact lv_dup2_11 hx.1 hx.2.1 h1 rfl rfl (k p e Rm s m args below meth c Q hx hq H locs ls hH hS hl)
theorem pt_ceq {x y : Int} (h : pd_b2 M pc .eq n t) (hx2 : jR x) (hy : jR y) (k1 : x = y → pd_T G M d mc ms X R t lv st sz ce sl hp) (k2 : ¬ x = y → pd_T G M d mc ms X R n lv st sz ce sl hp) : pd_T G M d mc ms X R pc lv (vi y :: vi x :: st) sz ce sl hp := by
  intro p e Rm s m args below meth c Q hx hq H locs ls hH hS hl
  obtain ⟨off, ⟨h1, rfl⟩, h2⟩ := h
  refine lv_icmp_eq hx.1 hx.2.1 h1 h2 (fun g => ?_) (fun g => ?_)
  · exact k1 ((jI_eq hx2 hy).mp g) p e Rm s m args below meth c Q hx hq H locs ls hH hS hl
  · exact k2 (fun q => g ((jI_eq hx2 hy).mpr q)) p e Rm s m args below meth c Q hx hq H locs ls hH hS hl
theorem pt_zeq {x : Int} (h : pd_b1 M pc .eq n t) (hx2 : jR x) (k1 : x = 0 → pd_T G M d mc ms X R t lv st sz ce sl hp) (k2 : ¬ x = 0 → pd_T G M d mc ms X R n lv st sz ce sl hp) : pd_T G M d mc ms X R pc lv (vi x :: st) sz ce sl hp := by
  intro p e Rm s m args below meth c Q hx hq H locs ls hH hS hl
  obtain ⟨off, ⟨h1, rfl⟩, h2⟩ := h
  refine lv_if_eq hx.1 hx.2.1 h1 h2 (fun g => ?_) (fun g => ?_)
  · exact k1 ((jI_eq hx2 jR_0).mp g) p e Rm s m args below meth c Q hx hq H locs ls hH hS hl
  · exact k2 (fun q => g ((jI_eq hx2 jR_0).mpr q)) p e Rm s m args below meth c Q hx hq H locs ls hH hS hl
theorem pt_cne {x y : Int} (h : pd_b2 M pc .ne n t) (hx2 : jR x) (hy : jR y) (k1 : ¬ x = y → pd_T G M d mc ms X R t lv st sz ce sl hp) (k2 : x = y → pd_T G M d mc ms X R n lv st sz ce sl hp) : pd_T G M d mc ms X R pc lv (vi y :: vi x :: st) sz ce sl hp := by
  intro p e Rm s m args below meth c Q hx hq H locs ls hH hS hl
  obtain ⟨off, ⟨h1, rfl⟩, h2⟩ := h
  refine lv_icmp_ne hx.1 hx.2.1 h1 h2 (fun g => ?_) (fun g => ?_)
  · exact k1 (fun q => g ((jI_eq hx2 hy).mpr q)) p e Rm s m args below meth c Q hx hq H locs ls hH hS hl
  · exact k2 ((jI_eq hx2 hy).mp g) p e Rm s m args below meth c Q hx hq H locs ls hH hS hl
theorem pt_zne {x : Int} (h : pd_b1 M pc .ne n t) (hx2 : jR x) (k1 : ¬ x = 0 → pd_T G M d mc ms X R t lv st sz ce sl hp) (k2 : x = 0 → pd_T G M d mc ms X R n lv st sz ce sl hp) : pd_T G M d mc ms X R pc lv (vi x :: st) sz ce sl hp := by
  intro p e Rm s m args below meth c Q hx hq H locs ls hH hS hl
  obtain ⟨off, ⟨h1, rfl⟩, h2⟩ := h
  refine lv_if_ne hx.1 hx.2.1 h1 h2 (fun g => ?_) (fun g => ?_)
  · exact k1 (fun q => g ((jI_eq hx2 jR_0).mpr q)) p e Rm s m args below meth c Q hx hq H locs ls hH hS hl
  · exact k2 ((jI_eq hx2 jR_0).mp g) p e Rm s m args below meth c Q hx hq H locs ls hH hS hl
theorem pt_clt {x y : Int} (h : pd_b2 M pc .lt n t) (hx2 : jR x) (hy : jR y) (k1 : x < y → pd_T G M d mc ms X R t lv st sz ce sl hp) (k2 : ¬ x < y → pd_T G M d mc ms X R n lv st sz ce sl hp) : pd_T G M d mc ms X R pc lv (vi y :: vi x :: st) sz ce sl hp := by
  intro p e Rm s m args below meth c Q hx hq H locs ls hH hS hl
  obtain ⟨off, ⟨h1, rfl⟩, h2⟩ := h
  refine lv_icmp_lt hx.1 hx.2.1 h1 h2 (fun g => ?_) (fun g => ?_)
  · exact k1 ((jI_lt hx2 hy).mp g) p e Rm s m args below meth c Q hx hq H locs ls hH hS hl
  · exact k2 (fun q => g ((jI_lt hx2 hy).mpr q)) p e Rm s m args below meth c Q hx hq H locs ls hH hS hl
theorem pt_zlt {x : Int} (h : pd_b1 M pc .lt n t) (hx2 : jR x) (k1 : x < 0 → pd_T G M d mc ms X R t lv st sz ce sl hp) (k2 : ¬ x < 0 → pd_T G M d mc ms X R n lv st sz ce sl hp) : pd_T G M d mc ms X R pc lv (vi x :: st) sz ce sl hp := by
  intro p e Rm s m args below meth c Q hx hq H locs ls hH hS hl
  obtain ⟨off, ⟨h1, rfl⟩, h2⟩ := h
  refine lv_if_lt hx.1 hx.2.1 h1 h2 (fun g => ?_) (fun g => ?_)
  · exact k1 ((jI_lt hx2 jR_0).mp g) p e Rm s m args below meth c Q hx hq H locs ls hH hS hl
  · exact k2 (fun q => g ((jI_lt hx2 jR_0).mpr q)) p e Rm s m args below meth c Q hx hq H locs ls hH hS hl
theorem pt_cge {x y : Int} (h : pd_b2 M pc .ge n t) (hx2 : jR x) (hy : jR y) (k1 : y ≤ x → pd_T G M d mc ms X R t lv st sz ce sl hp) (k2 : ¬ y ≤ x → pd_T G M d mc ms X R n lv st sz ce sl hp) : pd_T G M d mc ms X R pc lv (vi y :: vi x :: st) sz ce sl hp := by
  intro p e Rm s m args below meth c Q hx hq H locs ls hH hS hl
  obtain ⟨off, ⟨h1, rfl⟩, h2⟩ := h
  refine lv_icmp_ge hx.1 hx.2.1 h1 h2 (fun g => ?_) (fun g => ?_)
  · exact k1 ((jI_le hy hx2).mp g) p e Rm s m args below meth c Q hx hq H locs ls hH hS hl
  · exact k2 (fun q => g ((jI_le hy hx2).mpr q)) p e Rm s m args below meth c Q hx hq H locs ls hH hS hl
theorem pt_zge {x : Int} (h : pd_b1 M pc .ge n t) (hx2 : jR x) (k1 : 0 ≤ x → pd_T G M d mc ms X R t lv st sz ce sl hp) (k2 : ¬ 0 ≤ x → pd_T G M d mc ms X R n lv st sz ce sl hp) : pd_T G M d mc ms X R pc lv (vi x :: st) sz ce sl hp := by
  intro p e Rm s m args below meth c Q hx hq H locs ls hH hS hl
  obtain ⟨off, ⟨h1, rfl⟩, h2⟩ := h
  refine lv_if_ge hx.1 hx.2.1 h1 h2 (fun g => ?_) (fun g => ?_)
  · exact k1 ((jI_le jR_0 hx2).mp g) p e Rm s m args below meth c Q hx hq H locs ls hH hS hl
  · exact k2 (fun q => g ((jI_le jR_0 hx2).mpr q)) p e Rm s m args below meth c Q hx hq H locs ls hH hS hl
theorem pt_cgt {x y : Int} (h : pd_b2 M pc .gt n t) (hx2 : jR x) (hy : jR y) (k1 : y < x → pd_T G M d mc ms X R t lv st sz ce sl hp) (k2 : ¬ y < x → pd_T G M d mc ms X R n lv st sz ce sl hp) : pd_T G M d mc ms X R pc lv (vi y :: vi x :: st) sz ce sl hp := by
  intro p e Rm s m args below meth c Q hx hq H locs ls hH hS hl
  obtain ⟨off, ⟨h1, rfl⟩, h2⟩ := h
  refine lv_icmp_gt hx.1 hx.2.1 h1 h2 (fun g => ?_) (fun g => ?_)
  · exact k1 ((jI_lt hy hx2).mp g) p e Rm s m args below meth c Q hx hq H locs ls hH hS hl
  · exact k2 (fun q => g ((jI_lt hy hx2).mpr q)) p e Rm s m args below meth c Q hx hq H locs ls hH hS hl
theorem pt_zgt {x : Int} (h : pd_b1 M pc .gt n t) (hx2 : jR x) (k1 : 0 < x → pd_T G M d mc ms X R t lv st sz ce sl hp) (k2 : ¬ 0 < x → pd_T G M d mc ms X R n lv st sz ce sl hp) : pd_T G M d mc ms X R pc lv (vi x :: st) sz ce sl hp := by
  intro p e Rm s m args below meth c Q hx hq H locs ls hH hS hl
  obtain ⟨off, ⟨h1, rfl⟩, h2⟩ := h
  refine lv_if_gt hx.1 hx.2.1 h1 h2 (fun g => ?_) (fun g => ?_)
  · exact k1 ((jI_lt jR_0 hx2).mp g) p e Rm s m args below meth c Q hx hq H locs ls hH hS hl
  · exact k2 (fun q => g ((jI_lt jR_0 hx2).mpr q)) p e Rm s m args below meth c Q hx hq H locs ls hH hS hl
theorem pt_cle {x y : Int} (h : pd_b2 M pc .le n t) (hx2 : jR x) (hy : jR y) (k1 : x ≤ y → pd_T G M d mc ms X R t lv st sz ce sl hp) (k2 : ¬ x ≤ y → pd_T G M d mc ms X R n lv st sz ce sl hp) : pd_T G M d mc ms X R pc lv (vi y :: vi x :: st) sz ce sl hp := by
  intro p e Rm s m args below meth c Q hx hq H locs ls hH hS hl
  obtain ⟨off, ⟨h1, rfl⟩, h2⟩ := h
  refine lv_icmp_le hx.1 hx.2.1 h1 h2 (fun g => ?_) (fun g => ?_)
  · exact k1 ((jI_le hx2 hy).mp g) p e Rm s m args below meth c Q hx hq H locs ls hH hS hl
  · exact k2 (fun q => g ((jI_le hx2 hy).mpr q)) p e Rm s m args below meth c Q hx hq H locs ls hH hS hl
theorem pt_zle {x : Int} (h : pd_b1 M pc .le n t) (hx2 : jR x) (k1 : x ≤ 0 → pd_T G M d mc ms X R t lv st sz ce sl hp) (k2 : ¬ x ≤ 0 → pd_T G M d mc ms X R n lv st sz ce sl hp) : pd_T G M d mc ms X R pc lv (vi x :: st) sz ce sl hp := by
  intro p e Rm s m args below meth c Q hx hq H locs ls hH hS hl
  obtain ⟨off, ⟨h1, rfl⟩, h2⟩ := h
  refine lv_if_le hx.1 hx.2.1 h1 h2 (fun g => ?_) (fun g => ?_)
  · exact k1 ((jI_le hx2 jR_0).mp g) p e Rm s m args below meth c Q hx hq H locs ls hH hS hl
  · exact k2 (fun q => g ((jI_le hx2 jR_0).mpr q)) p e Rm s m args below meth c Q hx hq H locs ls hH hS hl
theorem pt_goto (h : pd_go M pc t) (k : pd_T G M d mc ms X R t lv st sz ce sl hp) : pd_T G M d mc ms X R pc lv st sz ce sl hp := by
  intro p e Rm s m args below meth c Q hx hq H locs ls hH hS hl
  obtain ⟨off, h1, h2⟩ := h
  exact lv_goto hx.1 hx.2.1 h1 h2 (k p e Rm s m args below meth c Q hx hq H locs ls hH hS hl)
theorem pt_tin {dflt lo hi : Int} {offs : Array Int} {len : Nat} {x off : Int} (h : pd_i M pc (.tableswitch dflt lo hi offs) len n) (hr : jR x) (h1 : lo ≤ x) (h2 : x ≤ hi) (ho : offs[(x - lo).toNat]? = some off) (ht : (pc : Int) + off = (t : Int)) (k : pd_T G M d mc ms X R t lv st sz ce sl hp) : pd_T G M d mc ms X R pc lv (vi x :: st) sz ce sl hp := by
  intro p e Rm s m args below meth c Q hx hq H locs ls hH hS hl
  have e0 := jI_toInt hr
  exact lv_tableIn (off := off) hx.1 hx.2.1 h.1 (by rw [e0]; omega) (by rw [e0]; omega) (by rw [e0]; exact ho) ht (k p e Rm s m args below meth c Q hx hq H locs ls hH hS hl)
theorem pt_tout {dflt lo hi : Int} {offs : Array Int} {len : Nat} {x : Int} (h : pd_i M pc (.tableswitch dflt lo hi offs) len n) (hr : jR x) (h1 : x < lo ∨ hi < x) (ht : (pc : Int) + dflt = (t : Int)) (k : pd_T G M d mc ms X R t lv st sz ce sl hp) : pd_T G M d mc ms X R pc lv (vi x :: st) sz ce sl hp := by
  intro p e Rm s m args below meth c Q hx hq H locs ls hH hS hl
  have e0 := jI_toInt hr
  exact lv_tableOut hx.1 hx.2.1 h.1 (by rw [e0]; exact h1) ht (k p e Rm s m args below meth c Q hx hq H locs ls hH hS hl)
theorem pt_lsw {dflt : Int} {ps : Array (Int × Int)} {len : Nat} {x off : Int} (h : pd_i M pc (.lookupswitch dflt ps) len n) (hr : jR x) (hs : (ps.toList.zip (ps.toList.drop 1)).all (fun (a, next) => a.1 < next.1) = true) (ho : Op.lookupswitch.offset ps.toList dflt x = off) (ht : (pc : Int) + off = (t : Int)) (k : pd_T G M d mc ms X R t lv st sz ce sl hp) : pd_T G M d mc ms X R pc lv (vi x :: st) sz ce sl hp := by
  intro p e Rm s m args below meth c Q hx hq H locs ls hH hS hl
  have e0 := jI_toInt hr
  exact lv_lookup (off := off) hx.1 hx.2.1 h.1 hs (by rw [e0]; exact ho) ht (k p e Rm s m args below meth c Q hx hq H locs ls hH hS hl)
theorem pt_ret {v : Option pv} (h : pd_rd M pc v) (hc : ce ≤ mc) (hs : sl ≤ ms) (k : R v sz hp) : pd_T G M d mc ms X R pc lv v.toList sz ce sl hp := by
  intro p e Rm s m args below meth c Q hx hq H locs ls hH hS hl
  exact W.widen hc hs (hq pc H locs ls v sz hp h k hH hS)
theorem pt_iret {z : Int} (h : pd_rd M pc (some (vi z))) (hc : ce ≤ mc) (hs : sl ≤ ms) (k : R (some (vi z)) sz hp) : pd_T G M d mc ms X R pc lv [vi z] sz ce sl hp := pt_ret (v := some (vi z)) h hc hs k
theorem pt_lret {z : Int} (h : pd_rd M pc (some (vl z))) (hc : ce ≤ mc) (hs : sl ≤ ms) (k : R (some (vl z)) sz hp) : pd_T G M d mc ms X R pc lv [vl z] sz ce sl hp := pt_ret (v := some (vl z)) h hc hs k
theorem pt_vret (h : pd_rd M pc none) (hc : ce ≤ mc) (hs : sl ≤ ms) (k : R none sz hp) : pd_T G M d mc ms X R pc lv [] sz ce sl hp := pt_ret (v := none) h hc hs k
end PDROWS
