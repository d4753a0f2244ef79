/-! numbers: a Java int is jI z, z an Int -/
def jI (z : Int) : Int32 := Int32.ofInt z
def jL (z : Int) : Int64 := Int64.ofInt z
def jR (z : Int) : Prop := -2147483648 ≤ z ∧ z < 2147483648
theorem jI_add (a b : Int) : jI a + jI b = jI (a + b) := (Int32.ofInt_add a b).symm
theorem jI_sub (a b : Int) : jI a - jI b = jI (a - b) := (Int32.ofInt_sub a b).symm
theorem jI_mul (a b : Int) : jI a * jI b = jI (a * b) := (Int32.ofInt_mul a b).symm
theorem jL_add (a b : Int) : jL a + jL b = jL (a + b) := (Int64.ofInt_add a b).symm
theorem jL_mul (a b : Int) : jL a * jL b = jL (a * b) := (Int64.ofInt_mul a b).symm
theorem jI_toInt {z : Int} (h : jR z) : (jI z).toInt = z := Int32.toInt_ofInt_of_le h.1 h.2
theorem jI_of (x : Int32) : ∃ z : Int, jR z ∧ x = jI z := ⟨x.toInt, ⟨Int32.le_toInt x, Int32.toInt_lt x⟩, (Int32.ofInt_toInt x).symm⟩
theorem jI_lt {a b : Int} (ha : jR a) (hb : jR b) : jI a < jI b ↔ a < b := by
  rw [Int32.lt_iff_toInt_lt, jI_toInt ha, jI_toInt hb]
theorem jI_le {a b : Int} (ha : jR a) (hb : jR b) : jI a ≤ jI b ↔ a ≤ b := by
  rw [Int32.le_iff_toInt_le, jI_toInt ha, jI_toInt hb]
theorem jI_eq {a b : Int} (ha : jR a) (hb : jR b) : jI a = jI b ↔ a = b :=
  ⟨fun h => by have := congrArg Int32.toInt h; rwa [jI_toInt ha, jI_toInt hb] at this, fun h => by rw [h]⟩
theorem jI_0 : (0 : Int32) = jI 0 := rfl
theorem jR_0 : jR 0 := ⟨by decide, by decide⟩
theorem jI_cl {z : Int} {n : Nat} (h0 : 0 ≤ z) (h : z < n) (hn : (n : Int) ≤ 2147483648) : (jI z).toNatClampNeg = z.toNat := by
  have h1 : (jI z).toInt = z := jI_toInt ⟨by omega, by omega⟩
  show (jI z).toInt.toNat = z.toNat
  rw [h1]
theorem jI_in {z : Int} {n : Nat} (h0 : 0 ≤ z) (h : z < n) (hn : (n : Int) ≤ 2147483648) : vp_in (jI z) n := by
  have hc := jI_cl h0 h hn
  intro hh
  rcases hh with hh | hh
  · have : (jI z) < jI 0 := hh
    rw [jI_lt ⟨by omega, by omega⟩ jR_0] at this
    omega
  · rw [hc] at hh
    omega
/-! values: an int, a long, a reference by its place in the world (0: the script) -/
abbrev pv : Type := Int ⊕ (Int ⊕ Option Nat)
abbrev vi (z : Int) : pv := Sum.inl z
abbrev vl (z : Int) : pv := Sum.inr (Sum.inl z)
abbrev vr (k : Nat) : pv := Sum.inr (Sum.inr (some k))
abbrev vn : pv := Sum.inr (Sum.inr none)
abbrev pd_G : Type := Launch × va_G × (Nat → ClassId) × Nat × Nat
def pd_ad (G : pd_G) : Nat → Nat
  | 0 => G.2.2.2.2
  | k + 1 => G.2.2.2.1 + k
def pd_up (G : pd_G) : pv → Value
  | .inl z => .int (jI z)
  | .inr (.inl z) => .long (jL z)
  | .inr (.inr r) => va_rf (r.map (pd_ad G))
abbrev pd_E : Type := (Nat × Nat × ((Int → Int) ⊕ (Int → Option Nat))) ⊕ (Nat × List pv)
abbrev ia (n : Nat) (f : Int → Int) : pd_E := .inl (0, n, .inl f)
abbrev ba (n : Nat) (f : Int → Int) : pd_E := .inl (1, n, .inl f)
abbrev za (n : Nat) (f : Int → Int) : pd_E := .inl (2, n, .inl f)
abbrev ra (k n : Nat) (f : Int → Option Nat) : pd_E := .inl (k, n, .inr f)
abbrev ob (c : Nat) (fs : List pv) : pd_E := .inr (c, fs)
def pd_e (G : pd_G) : pd_E → va_E
  | .inl (k, n, .inl f) => .inl (G.2.2.1 k, n, .inl (fun j : Nat => jI (f j)))
  | .inl (k, n, .inr f) => .inl (G.2.2.1 k, n, .inr (.inr (.inr (.inr (fun j : Nat => (f j).map (pd_ad G))))))
  | .inr (c, fs) => .inr (c, fs.map (pd_up G))
abbrev pd_P : Type := Nat → pd_E
def pd_w (G : pd_G) (sz : Nat) (hp : pd_P) : va_W := (List.range sz).map (fun k => (G.2.2.2.1 + k, pd_e G (hp (k + 1))))
def pd_A (G : pd_G) : Nat → Prop := fun q => G.2.2.2.1 ≤ q
theorem pd_w_get {G : pd_G} {sz : Nat} {hp : pd_P} {k : Nat} (h : k < sz) : (pd_w G sz hp)[k]? = some (G.2.2.2.1 + k, pd_e G (hp (k + 1))) := by
  simp [pd_w, h]
theorem pd_w_of {G : pd_G} {sz : Nat} {hp : pd_P} {k : Nat} {q : Nat × va_E} (h : (pd_w G sz hp)[k]? = some q) : k < sz ∧ q = (G.2.2.2.1 + k, pd_e G (hp (k + 1))) := by
  by_cases hk : k < sz
  · rw [pd_w_get hk] at h
    exact ⟨hk, (Option.some.inj h).symm⟩
  · simp [pd_w, hk] at h
theorem pd_w_D (G : pd_G) (sz : Nat) (hp : pd_P) : va_D (pd_A G) (pd_w G sz hp) := by
  refine ⟨fun i j p q hi hj hpq => ?_, fun k q hk => ?_⟩
  · obtain ⟨-, rfl⟩ := pd_w_of hi
    obtain ⟨-, rfl⟩ := pd_w_of hj
    have : G.2.2.2.1 + i = G.2.2.2.1 + j := hpq
    omega
  · obtain ⟨-, rfl⟩ := pd_w_of hk
    exact Nat.le_add_right _ _
theorem pd_w_set {G : pd_G} {sz : Nat} {hp : pd_P} {k : Nat} {e : pd_E} (h : k < sz) : (pd_w G sz hp).set k (G.2.2.2.1 + k, pd_e G e) = pd_w G sz (va_up hp (k + 1) e) := by
  have hl : k < (pd_w G sz hp).length := by simp [pd_w, h]
  apply List.ext_getElem?
  intro j
  by_cases hj : j = k
  · subst hj
    rw [List.getElem?_set_self hl, pd_w_get h, va_up_self]
  · rw [List.getElem?_set_ne (Ne.symm hj)]
    by_cases hs : j < sz
    · rw [pd_w_get hs, pd_w_get hs, va_up_ne _ _ (by omega)]
    · simp [pd_w, hs]
theorem pd_w_push {G : pd_G} {sz : Nat} {hp : pd_P} {e : pd_E} : pd_w G sz hp ++ [(G.2.2.2.1 + sz, pd_e G e)] = pd_w G (sz + 1) (va_up hp (sz + 1) e) := by
  have hl : (pd_w G sz hp).length = sz := by simp [pd_w]
  apply List.ext_getElem?
  intro j
  by_cases hs : j < sz
  · rw [List.getElem?_append_left (by rw [hl]; exact hs), pd_w_get hs, pd_w_get (by omega), va_up_ne _ _ (by omega)]
  · rw [List.getElem?_append_right (by rw [hl]; omega), hl]
    by_cases hj : j = sz
    · subst hj
      rw [pd_w_get (by omega), va_up_self, Nat.sub_self]
      rfl
    · have h1 : 0 < j - sz := by omega
      rw [List.getElem?_eq_none (by simp; omega), List.getElem?_eq_none (by simp [pd_w]; omega)]
def pd_H (G : pd_G) (sz : Nat) (hp : pd_P) (H : Heap) : Prop := H.size = G.2.2.2.1 + sz ∧ va_P G.2.1 pd_cl (pd_w G sz hp) H ∧ ∀ k, k = 0 ∨ sz < k → hp k = ob 99 []
/-! methods -/
abbrev pd_M : Type := MethodName × ByteArray × Nat × Option FieldType
def pd_ws (M : pd_M) : List Cond := Cond.code M.1 M.2.1 M.2.2.1 M.2.2.2 :: pd_tbl
def pd_ok (M : pd_M) (n : Nat) : Prop := Cond.code M.1 M.2.1 M.2.2.1 M.2.2.2 ∈ pd_tbl ∧ Cond.initialized M.1.cls ∈ pd_tbl ∧ plainName M.1.cls = true ∧ M.1.cls ≠ "java/lang/invoke/MethodHandle" ∧ M.1.cls ≠ "java/lang/invoke/VarHandle" ∧ (parseMethodDescriptor M.1.desc).map (fun d => d.parameters.length) = some n ∧ M.2.2.1 ≤ 45
def pd_ty (G : pd_G) : List (ClassId × FieldType) := [(G.2.2.1 0, .int), (G.2.2.1 1, .byte), (G.2.2.1 2, .boolean), (G.2.2.1 3, .object "PantryDoors$Life"), (G.2.2.1 4, .object "PantryDoors$State"), (G.2.2.1 5, .object "PantryDoors$Good")]
def pd_nest : List (String × Nat × MethodName × String) := [("PantryDoors", 11, ⟨"PantryDoors$Text", "<init>", "()V"⟩, "PantryDoors"), ("PantryDoors$Life", 9, ⟨"PantryDoors$State", "<init>", "()V"⟩, "PantryDoors"), ("PantryDoors", 49, ⟨"PantryDoors$Plan", "<init>", "()V"⟩, "PantryDoors"), ("PantryDoors", 56, ⟨"PantryDoors$Good", "<init>", "()V"⟩, "PantryDoors"), ("PantryDoors", 59, ⟨"PantryDoors$Sugar", "<init>", "()V"⟩, "PantryDoors"), ("PantryDoors$Sugar", 1, ⟨"PantryDoors$Good", "<init>", "()V"⟩, "PantryDoors"), ("PantryDoors", 62, ⟨"PantryDoors$Ham", "<init>", "()V"⟩, "PantryDoors"), ("PantryDoors$Ham", 1, ⟨"PantryDoors$Good", "<init>", "()V"⟩, "PantryDoors"), ("PantryDoors", 65, ⟨"PantryDoors$Cone", "<init>", "()V"⟩, "PantryDoors"), ("PantryDoors$Cone", 1, ⟨"PantryDoors$Sugar", "<init>", "()V"⟩, "PantryDoors"), ("PantryDoors", 68, ⟨"PantryDoors$Jelly", "<init>", "()V"⟩, "PantryDoors"), ("PantryDoors$Jelly", 1, ⟨"PantryDoors$Ham", "<init>", "()V"⟩, "PantryDoors"), ("PantryDoors", 71, ⟨"PantryDoors$Candle", "<init>", "()V"⟩, "PantryDoors"), ("PantryDoors$Candle", 1, ⟨"PantryDoors$Good", "<init>", "()V"⟩, "PantryDoors"), ("PantryDoors", 78, ⟨"PantryDoors$House", "<init>", "()V"⟩, "PantryDoors"), ("PantryDoors$Text", 63, ⟨"PantryDoors", "within", "(III)Z"⟩, "PantryDoors"), ("PantryDoors$House", 43, ⟨"PantryDoors", "within", "(III)Z"⟩, "PantryDoors"), ("PantryDoors$House", 47, ⟨"PantryDoors", "leadsBy", "(III)I"⟩, "PantryDoors")]
