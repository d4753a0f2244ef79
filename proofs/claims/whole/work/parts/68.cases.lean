/-! the law's cases -/
theorem pt_ceqS {G : pd_G} {M : pd_M} {d mc ms : Nat} {X : Option (Nat × (Nat → Int))} {R : pd_R} {pc n t : Nat} {lv : List (Option pv)} {st : List pv} {sz ce sl : Nat} {hp : pd_P} {x y : Int} (h : pd_b2 M pc .eq n t) (hxy : x = y) (k : pd_T G M d mc ms X R t lv st sz ce sl hp) : pd_T G M d mc ms X R pc lv (vi y :: vi x :: st) sz ce sl hp := by
  subst hxy
  intro p e Rm s m args below meth c Q hx hq H locs ls hH hS hl
  obtain ⟨off, ⟨h1, rfl⟩, h2⟩ := h
  refine lv_icmp_eq hx.1 hx.2.1 h1 h2 (fun g => ?_) (fun g => ?_)
  · exact k p e Rm s m args below meth c Q hx hq H locs ls hH hS hl
  · exact absurd rfl g
def rW : pd_R := fun v _ _ => v = some (vi 1)
def LIv (hp : pd_P) : Prop := ∃ (to dr : Nat) (q : Nat → Int → Int) (v : Nat → Int), CW hp to dr q v ∧ MW hp q v ∧ IN q v
abbrev wT (G : pd_G) (L : Nat) (xs : Nat → Int) (pc : Nat) (i : Int) (st : List pv) (hp : pd_P) : Prop := pd_T G mW_law 10 199 8765 (some (L, xs)) rW pc [some (vr 0), some (vr 1), some (vr 178), some (vi i)] st 199 199 8765 hp
theorem lW_type (G : pd_G) {L : Nat} {xs : Nat → Int} (hL : L ≤ 2048) (hxs : ∀ j, jR (xs j)) {i : Nat} (hi : i + 4 ≤ L) {hp : pd_P} {to dr : Nat} {q : Nat → Int → Int} {v : Nat → Int} (hC : CW hp to dr q v) (hM : MW hp q v) (hI : IN q v) (fin : ∀ hp0 : pd_P, LIv hp0 → wT G L xs 875 i [] hp0) : wT G L xs 160 i [] hp := by
  refine pt_aload eW_law_160 rfl ?_
  refine pt_aload eW_law_161 rfl ?_
  refine pt_iload eW_law_162 rfl ?_
  refine pt_ic eW_law_163 ?_
  refine pt_iadd eW_law_164 ?_
  refine pt_sld rfl eW_law_165 (by omega) (by omega) (by omega) ?_
  refine pt_kv1 eW_law_166 (xD_type G 199 _ hC hI (hxs _)) hC.2.1.1 rfl (Nat.le_of_ble_eq_true rfl) (by decide) (Nat.le_refl _) (Nat.le_refl _) ?_
  rintro v2 sz2 hpx ⟨rfl, hz9, ⟨to1, dr1, hC1⟩, hf1⟩
  obtain rfl : sz2 = 199 := hz9
  have hM1 := hM.keep hf1 (by omega)
  refine pt_aload eW_law_169 rfl ?_
  refine pt_aload eW_law_170 rfl ?_
  refine pt_iload eW_law_171 rfl ?_
  refine pt_ic eW_law_172 ?_
  refine pt_iadd eW_law_173 ?_
  refine pt_sld rfl eW_law_174 (by omega) (by omega) (by omega) ?_
  refine pt_kv1 eW_law_175 (xR_type G 199 _ hM1 hI (hxs _)) hM1.1 rfl (Nat.le_of_ble_eq_true rfl) (by decide) (Nat.le_refl _) (Nat.le_refl _) ?_
  rintro v2 sz2 hpy ⟨rfl, hz9, hM2, hf2⟩
  obtain rfl : sz2 = 199 := hz9
  have hC2 := hC1.keep hf2 (by omega)
  refine pt_ceqS eW_law_178 rfl ?_
  exact fin _ ⟨to1, dr1, _, _, hC2, hM2, IN_type hI⟩
theorem lW_clear (G : pd_G) {L : Nat} {xs : Nat → Int} (hL : L ≤ 2048) (hxs : ∀ j, jR (xs j)) {i : Nat} (hi : i + 4 ≤ L) {hp : pd_P} {to dr : Nat} {q : Nat → Int → Int} {v : Nat → Int} (hC : CW hp to dr q v) (hM : MW hp q v) (hI : IN q v) (fin : ∀ hp0 : pd_P, LIv hp0 → wT G L xs 875 i [] hp0) : wT G L xs 183 i [] hp := by
  refine pt_aload eW_law_183 rfl ?_
  refine pt_kv0 eW_law_184 (xD_clear G 199 _ hC hI) hC.2.1.1 rfl (Nat.le_of_ble_eq_true rfl) (by decide) (Nat.le_refl _) (Nat.le_refl _) ?_
  rintro v2 sz2 hpx ⟨rfl, hz9, ⟨to1, dr1, hC1⟩, hf1⟩
  obtain rfl : sz2 = 199 := hz9
  have hM1 := hM.keep hf1 (by omega)
  refine pt_aload eW_law_187 rfl ?_
  refine pt_kv0 eW_law_188 (xR_clear G 199 _ hM1 hI) hM1.1 rfl (Nat.le_of_ble_eq_true rfl) (by decide) (Nat.le_refl _) (Nat.le_refl _) ?_
  rintro v2 sz2 hpy ⟨rfl, hz9, hM2, hf2⟩
  obtain rfl : sz2 = 199 := hz9
  have hC2 := hC1.keep hf2 (by omega)
  refine pt_ceqS eW_law_191 rfl ?_
  exact fin _ ⟨to1, dr1, _, _, hC2, hM2, IN_clear hI⟩
theorem lW_house (G : pd_G) {L : Nat} {xs : Nat → Int} (hL : L ≤ 2048) (hxs : ∀ j, jR (xs j)) {i : Nat} (hi : i + 4 ≤ L) {hp : pd_P} {to dr : Nat} {q : Nat → Int → Int} {v : Nat → Int} (hC : CW hp to dr q v) (hM : MW hp q v) (hI : IN q v) (fin : ∀ hp0 : pd_P, LIv hp0 → wT G L xs 875 i [] hp0) : wT G L xs 196 i [] hp := by
  have iv1 := hI.2.2.2.2.2.2.2.2.2.2.2
  refine pt_aload eW_law_196 rfl ?_
  refine pt_kv0 eW_law_197 (xD_house G 199 _ hC iv1) hC.2.1.1 rfl (Nat.le_of_ble_eq_true rfl) (by decide) (Nat.le_refl _) (Nat.le_refl _) ?_
  rintro v2 sz2 hpx ⟨rfl, hz9, ⟨to1, dr1, hC1⟩, hf1⟩
  obtain rfl : sz2 = 199 := hz9
  have hM1 := hM.keep hf1 (by omega)
  refine pt_aload eW_law_200 rfl ?_
  refine pt_kv0 eW_law_201 (xR_house G 199 _ hM1 (hC.2.2.1.ok iv1)) hM1.1 rfl (Nat.le_of_ble_eq_true rfl) (by decide) (Nat.le_refl _) (Nat.le_refl _) ?_
  rintro v2 sz2 hpy ⟨rfl, hz9, ⟨q1, v1, hM2, hL1, hV1⟩, hf2⟩
  obtain rfl : sz2 = 199 := hz9
  have hC2 := hC1.keep hf2 (by omega)
  refine pt_ceqS eW_law_204 rfl ?_
  have hH := hC2.2.2.2.1
  obtain ⟨fi, us, we, wo, st, hHo, -⟩ := hH
  have hto := hC2.1
  refine pt_ext hHo.2.2.2.2.2.1 (g := q1 8) (fun i i0 i1 => ((hL1.2.2.2 i i0 (by omega)).1).symm) ?_
  refine pt_gen ?_
  intro hp3 ev3
  have hms : hp3 (to1 + 6) = ia 80 ((fHouse q v).1 9) := pg_n ev3 (by omega) hHo.2.2.2.2.2.2.1
  refine pt_ext hms (g := q1 9) (fun i i0 i1 => ((hL1.2.2.2 i i0 (by omega)).2).symm) ?_
  refine pt_gen ?_
  intro hp4 ev4
  have hf4 : fr hpy hp4 to1 (to1 + 8) := (fr.rf.up ev3 (by omega) (by omega)).up ev4 (by omega) (by omega)
  have hI2 := IN_house hI
  exact fin _ ⟨to1, dr1, q1, v1, CW_lv hC2 hL1 hV1 hI2.1.2 ev3 ev4, hM2.keep hf4 (by omega), IN_lv hI2 hL1 hV1⟩
theorem lW_good (G : pd_G) {L : Nat} {xs : Nat → Int} (hL : L ≤ 2048) (hxs : ∀ j, jR (xs j)) {i : Nat} (hi : i + 4 ≤ L) {hp : pd_P} {to dr : Nat} {q : Nat → Int → Int} {v : Nat → Int} (hC : CW hp to dr q v) (hM : MW hp q v) (hI : IN q v) (fin : ∀ hp0 : pd_P, LIv hp0 → wT G L xs 875 i [] hp0) : wT G L xs 209 i [] hp := by
  refine pt_aload eW_law_209 rfl ?_
  refine pt_aload eW_law_210 rfl ?_
  refine pt_iload eW_law_211 rfl ?_
  refine pt_ic eW_law_212 ?_
  refine pt_iadd eW_law_213 ?_
  refine pt_sld rfl eW_law_214 (by omega) (by omega) (by omega) ?_
  refine pt_aload eW_law_215 rfl ?_
  refine pt_iload eW_law_216 rfl ?_
  refine pt_ic eW_law_217 ?_
  refine pt_iadd eW_law_218 ?_
  refine pt_sld rfl eW_law_219 (by omega) (by omega) (by omega) ?_
  refine pt_kv2 eW_law_220 (xD_good G 199 _ hC hI (hxs _) (hxs _)) hC.2.1.1 rfl (Nat.le_of_ble_eq_true rfl) (by decide) (Nat.le_refl _) (Nat.le_refl _) ?_
  rintro v2 sz2 hpx ⟨rfl, hz9, ⟨to1, dr1, hC1⟩, hf1⟩
  obtain rfl : sz2 = 199 := hz9
  have hM1 := hM.keep hf1 (by omega)
  refine pt_aload eW_law_223 rfl ?_
  refine pt_aload eW_law_224 rfl ?_
  refine pt_iload eW_law_225 rfl ?_
  refine pt_ic eW_law_226 ?_
  refine pt_iadd eW_law_227 ?_
  refine pt_sld rfl eW_law_228 (by omega) (by omega) (by omega) ?_
  refine pt_aload eW_law_229 rfl ?_
  refine pt_iload eW_law_230 rfl ?_
  refine pt_ic eW_law_231 ?_
  refine pt_iadd eW_law_232 ?_
  refine pt_sld rfl eW_law_233 (by omega) (by omega) (by omega) ?_
  refine pt_kv2 eW_law_234 (xR_good G 199 _ hM1 hI (hxs _) (hxs _)) hM1.1 rfl (Nat.le_of_ble_eq_true rfl) (by decide) (Nat.le_refl _) (Nat.le_refl _) ?_
  rintro v2 sz2 hpy ⟨rfl, hz9, hM2, hf2⟩
  obtain rfl : sz2 = 199 := hz9
  have hC2 := hC1.keep hf2 (by omega)
  refine pt_ceqS eW_law_237 rfl ?_
  exact fin _ ⟨to1, dr1, _, _, hC2, hM2, hI⟩
theorem lW_day (G : pd_G) {L : Nat} {xs : Nat → Int} (hL : L ≤ 2048) (hxs : ∀ j, jR (xs j)) {i : Nat} (hi : i + 4 ≤ L) {hp : pd_P} {to dr : Nat} {q : Nat → Int → Int} {v : Nat → Int} (hC : CW hp to dr q v) (hM : MW hp q v) (hI : IN q v) (fin : ∀ hp0 : pd_P, LIv hp0 → wT G L xs 875 i [] hp0) : wT G L xs 242 i [] hp := by
  refine pt_aload eW_law_242 rfl ?_
  refine pt_aload eW_law_243 rfl ?_
  refine pt_iload eW_law_244 rfl ?_
  refine pt_ic eW_law_245 ?_
  refine pt_iadd eW_law_246 ?_
  refine pt_sld rfl eW_law_247 (by omega) (by omega) (by omega) ?_
  refine pt_aload eW_law_248 rfl ?_
  refine pt_iload eW_law_249 rfl ?_
  refine pt_ic eW_law_250 ?_
  refine pt_iadd eW_law_251 ?_
  refine pt_sld rfl eW_law_252 (by omega) (by omega) (by omega) ?_
  refine pt_aload eW_law_253 rfl ?_
  refine pt_iload eW_law_254 rfl ?_
  refine pt_ic eW_law_255 ?_
  refine pt_iadd eW_law_256 ?_
  refine pt_sld rfl eW_law_257 (by omega) (by omega) (by omega) ?_
  refine pt_kv3 eW_law_258 (xD_day G 199 _ hC hI (hxs _) (hxs _) (hxs _)) hC.2.1.1 rfl (Nat.le_of_ble_eq_true rfl) (by decide) (Nat.le_refl _) (Nat.le_refl _) ?_
  rintro v2 sz2 hpx ⟨rfl, hz9, ⟨to1, dr1, hC1⟩, hf1⟩
  obtain rfl : sz2 = 199 := hz9
  have hM1 := hM.keep hf1 (by omega)
  refine pt_aload eW_law_261 rfl ?_
  refine pt_aload eW_law_262 rfl ?_
  refine pt_iload eW_law_263 rfl ?_
  refine pt_ic eW_law_264 ?_
  refine pt_iadd eW_law_265 ?_
  refine pt_sld rfl eW_law_266 (by omega) (by omega) (by omega) ?_
  refine pt_aload eW_law_267 rfl ?_
  refine pt_iload eW_law_268 rfl ?_
  refine pt_ic eW_law_269 ?_
  refine pt_iadd eW_law_270 ?_
  refine pt_sld rfl eW_law_271 (by omega) (by omega) (by omega) ?_
  refine pt_aload eW_law_272 rfl ?_
  refine pt_iload eW_law_273 rfl ?_
  refine pt_ic eW_law_274 ?_
  refine pt_iadd eW_law_275 ?_
  refine pt_sld rfl eW_law_276 (by omega) (by omega) (by omega) ?_
  refine pt_kv3 eW_law_277 (xR_day G 199 _ hM1 hI (hxs _) (hxs _) (hxs _)) hM1.1 rfl (Nat.le_of_ble_eq_true rfl) (by decide) (Nat.le_refl _) (Nat.le_refl _) ?_
  rintro v2 sz2 hpy ⟨rfl, hz9, hM2, hf2⟩
  obtain rfl : sz2 = 199 := hz9
  have hC2 := hC1.keep hf2 (by omega)
  refine pt_ceqS eW_law_280 rfl ?_
  exact fin _ ⟨to1, dr1, _, _, hC2, hM2, hI⟩
theorem lW_goes (G : pd_G) {L : Nat} {xs : Nat → Int} (hL : L ≤ 2048) (hxs : ∀ j, jR (xs j)) {i : Nat} (hi : i + 4 ≤ L) {hp : pd_P} {to dr : Nat} {q : Nat → Int → Int} {v : Nat → Int} (hC : CW hp to dr q v) (hM : MW hp q v) (hI : IN q v) (fin : ∀ hp0 : pd_P, LIv hp0 → wT G L xs 875 i [] hp0) : wT G L xs 285 i [] hp := by
  refine pt_aload eW_law_285 rfl ?_
  refine pt_kv0 eW_law_286 (xD_goes G 199 _ hC hI) hC.2.1.1 rfl (Nat.le_of_ble_eq_true rfl) (by decide) (Nat.le_refl _) (Nat.le_refl _) ?_
  rintro v2 sz2 hpx ⟨rfl, hz9, ⟨to1, dr1, hC1⟩, hf1⟩
  obtain rfl : sz2 = 199 := hz9
  have hM1 := hM.keep hf1 (by omega)
  refine pt_aload eW_law_289 rfl ?_
  refine pt_kv0 eW_law_290 (xR_goes G 199 _ hM1 hI) hM1.1 rfl (Nat.le_of_ble_eq_true rfl) (by decide) (Nat.le_refl _) (Nat.le_refl _) ?_
  rintro v2 sz2 hpy ⟨rfl, hz9, hM2, hf2⟩
  obtain rfl : sz2 = 199 := hz9
  have hC2 := hC1.keep hf2 (by omega)
  refine pt_ceqS eW_law_293 rfl ?_
  exact fin _ ⟨to1, dr1, _, _, hC2, hM2, IN_goes hI⟩
theorem lW_takes (G : pd_G) {L : Nat} {xs : Nat → Int} (hL : L ≤ 2048) (hxs : ∀ j, jR (xs j)) {i : Nat} (hi : i + 4 ≤ L) {hp : pd_P} {to dr : Nat} {q : Nat → Int → Int} {v : Nat → Int} (hC : CW hp to dr q v) (hM : MW hp q v) (hI : IN q v) (fin : ∀ hp0 : pd_P, LIv hp0 → wT G L xs 875 i [] hp0) : wT G L xs 298 i [] hp := by
  refine pt_aload eW_law_298 rfl ?_
  refine pt_aload eW_law_299 rfl ?_
  refine pt_iload eW_law_300 rfl ?_
  refine pt_ic eW_law_301 ?_
  refine pt_iadd eW_law_302 ?_
  refine pt_sld rfl eW_law_303 (by omega) (by omega) (by omega) ?_
  refine pt_aload eW_law_304 rfl ?_
  refine pt_iload eW_law_305 rfl ?_
  refine pt_ic eW_law_306 ?_
  refine pt_iadd eW_law_307 ?_
  refine pt_sld rfl eW_law_308 (by omega) (by omega) (by omega) ?_
  refine pt_kv2 eW_law_309 (xD_takes G 199 _ hC hI (hxs _) (hxs _)) hC.2.1.1 rfl (Nat.le_of_ble_eq_true rfl) (by decide) (Nat.le_refl _) (Nat.le_refl _) ?_
  rintro v2 sz2 hpx ⟨rfl, hz9, ⟨to1, dr1, hC1⟩, hf1⟩
  obtain rfl : sz2 = 199 := hz9
  have hM1 := hM.keep hf1 (by omega)
  refine pt_aload eW_law_312 rfl ?_
  refine pt_aload eW_law_313 rfl ?_
  refine pt_iload eW_law_314 rfl ?_
  refine pt_ic eW_law_315 ?_
  refine pt_iadd eW_law_316 ?_
  refine pt_sld rfl eW_law_317 (by omega) (by omega) (by omega) ?_
  refine pt_aload eW_law_318 rfl ?_
  refine pt_iload eW_law_319 rfl ?_
  refine pt_ic eW_law_320 ?_
  refine pt_iadd eW_law_321 ?_
  refine pt_sld rfl eW_law_322 (by omega) (by omega) (by omega) ?_
  refine pt_kv2 eW_law_323 (xR_takes G 199 _ hM1 hI (hxs _) (hxs _)) hM1.1 rfl (Nat.le_of_ble_eq_true rfl) (by decide) (Nat.le_refl _) (Nat.le_refl _) ?_
  rintro v2 sz2 hpy ⟨rfl, hz9, hM2, hf2⟩
  obtain rfl : sz2 = 199 := hz9
  have hC2 := hC1.keep hf2 (by omega)
  refine pt_ceqS eW_law_326 rfl ?_
  exact fin _ ⟨to1, dr1, _, _, hC2, hM2, IN_takes hI⟩
theorem lW_buys (G : pd_G) {L : Nat} {xs : Nat → Int} (hL : L ≤ 2048) (hxs : ∀ j, jR (xs j)) {i : Nat} (hi : i + 4 ≤ L) {hp : pd_P} {to dr : Nat} {q : Nat → Int → Int} {v : Nat → Int} (hC : CW hp to dr q v) (hM : MW hp q v) (hI : IN q v) (fin : ∀ hp0 : pd_P, LIv hp0 → wT G L xs 875 i [] hp0) : wT G L xs 331 i [] hp := by
  refine pt_aload eW_law_331 rfl ?_
  refine pt_aload eW_law_332 rfl ?_
  refine pt_iload eW_law_333 rfl ?_
  refine pt_ic eW_law_334 ?_
  refine pt_iadd eW_law_335 ?_
  refine pt_sld rfl eW_law_336 (by omega) (by omega) (by omega) ?_
  refine pt_aload eW_law_337 rfl ?_
  refine pt_iload eW_law_338 rfl ?_
  refine pt_ic eW_law_339 ?_
  refine pt_iadd eW_law_340 ?_
  refine pt_sld rfl eW_law_341 (by omega) (by omega) (by omega) ?_
  refine pt_kv2 eW_law_342 (xD_buys G 199 _ hC hI (hxs _) (hxs _)) hC.2.1.1 rfl (Nat.le_of_ble_eq_true rfl) (by decide) (Nat.le_refl _) (Nat.le_refl _) ?_
  rintro v2 sz2 hpx ⟨rfl, hz9, ⟨to1, dr1, hC1⟩, hf1⟩
  obtain rfl : sz2 = 199 := hz9
  have hM1 := hM.keep hf1 (by omega)
  refine pt_aload eW_law_345 rfl ?_
  refine pt_aload eW_law_346 rfl ?_
  refine pt_iload eW_law_347 rfl ?_
  refine pt_ic eW_law_348 ?_
  refine pt_iadd eW_law_349 ?_
  refine pt_sld rfl eW_law_350 (by omega) (by omega) (by omega) ?_
  refine pt_aload eW_law_351 rfl ?_
  refine pt_iload eW_law_352 rfl ?_
  refine pt_ic eW_law_353 ?_
  refine pt_iadd eW_law_354 ?_
  refine pt_sld rfl eW_law_355 (by omega) (by omega) (by omega) ?_
  refine pt_kv2 eW_law_356 (xR_buys G 199 _ hM1 hI (hxs _) (hxs _)) hM1.1 rfl (Nat.le_of_ble_eq_true rfl) (by decide) (Nat.le_refl _) (Nat.le_refl _) ?_
  rintro v2 sz2 hpy ⟨rfl, hz9, hM2, hf2⟩
  obtain rfl : sz2 = 199 := hz9
  have hC2 := hC1.keep hf2 (by omega)
  refine pt_ceqS eW_law_359 rfl ?_
  exact fin _ ⟨to1, dr1, _, _, hC2, hM2, IN_buys hI⟩
theorem lW_holds (G : pd_G) {L : Nat} {xs : Nat → Int} (hL : L ≤ 2048) (hxs : ∀ j, jR (xs j)) {i : Nat} (hi : i + 4 ≤ L) {hp : pd_P} {to dr : Nat} {q : Nat → Int → Int} {v : Nat → Int} (hC : CW hp to dr q v) (hM : MW hp q v) (hI : IN q v) (fin : ∀ hp0 : pd_P, LIv hp0 → wT G L xs 875 i [] hp0) : wT G L xs 364 i [] hp := by
  refine pt_aload eW_law_364 rfl ?_
  refine pt_aload eW_law_365 rfl ?_
  refine pt_iload eW_law_366 rfl ?_
  refine pt_ic eW_law_367 ?_
  refine pt_iadd eW_law_368 ?_
  refine pt_sld rfl eW_law_369 (by omega) (by omega) (by omega) ?_
  refine pt_kv1 eW_law_370 (xD_holds G 199 _ hC hI (hxs _)) hC.2.1.1 rfl (Nat.le_of_ble_eq_true rfl) (by decide) (Nat.le_refl _) (Nat.le_refl _) ?_
  rintro v2 sz2 hpx ⟨rfl, hz9, ⟨to1, dr1, hC1⟩, hf1⟩
  obtain rfl : sz2 = 199 := hz9
  have hM1 := hM.keep hf1 (by omega)
  refine pt_aload eW_law_373 rfl ?_
  refine pt_aload eW_law_374 rfl ?_
  refine pt_iload eW_law_375 rfl ?_
  refine pt_ic eW_law_376 ?_
  refine pt_iadd eW_law_377 ?_
  refine pt_sld rfl eW_law_378 (by omega) (by omega) (by omega) ?_
  refine pt_kv1 eW_law_379 (xR_holds G 199 _ hM1 hI (hxs _)) hM1.1 rfl (Nat.le_of_ble_eq_true rfl) (by decide) (Nat.le_refl _) (Nat.le_refl _) ?_
  rintro v2 sz2 hpy ⟨rfl, hz9, hM2, hf2⟩
  obtain rfl : sz2 = 199 := hz9
  have hC2 := hC1.keep hf2 (by omega)
  refine pt_ceqS eW_law_382 rfl ?_
  exact fin _ ⟨to1, dr1, _, _, hC2, hM2, IN_holds hI⟩
theorem lW_undo (G : pd_G) {L : Nat} {xs : Nat → Int} (hL : L ≤ 2048) (hxs : ∀ j, jR (xs j)) {i : Nat} (hi : i + 4 ≤ L) {hp : pd_P} {to dr : Nat} {q : Nat → Int → Int} {v : Nat → Int} (hC : CW hp to dr q v) (hM : MW hp q v) (hI : IN q v) (fin : ∀ hp0 : pd_P, LIv hp0 → wT G L xs 875 i [] hp0) : wT G L xs 387 i [] hp := by
  refine pt_aload eW_law_387 rfl ?_
  refine pt_kv0 eW_law_388 (xD_undo G 199 _ hC hI) hC.2.1.1 rfl (Nat.le_of_ble_eq_true rfl) (by decide) (Nat.le_refl _) (Nat.le_refl _) ?_
  rintro v2 sz2 hpx ⟨rfl, hz9, ⟨to1, dr1, hC1⟩, hf1⟩
  obtain rfl : sz2 = 199 := hz9
  have hM1 := hM.keep hf1 (by omega)
  refine pt_aload eW_law_391 rfl ?_
  refine pt_kv0 eW_law_392 (xR_undo G 199 _ hM1 hI) hM1.1 rfl (Nat.le_of_ble_eq_true rfl) (by decide) (Nat.le_refl _) (Nat.le_refl _) ?_
  rintro v2 sz2 hpy ⟨rfl, hz9, hM2, hf2⟩
  obtain rfl : sz2 = 199 := hz9
  have hC2 := hC1.keep hf2 (by omega)
  refine pt_ceqS eW_law_395 rfl ?_
  exact fin _ ⟨to1, dr1, _, _, hC2, hM2, IN_undo hI⟩
theorem lW_now (G : pd_G) {L : Nat} {xs : Nat → Int} (hL : L ≤ 2048) (hxs : ∀ j, jR (xs j)) {i : Nat} (hi : i + 4 ≤ L) {hp : pd_P} {to dr : Nat} {q : Nat → Int → Int} {v : Nat → Int} (hC : CW hp to dr q v) (hM : MW hp q v) (hI : IN q v) (fin : ∀ hp0 : pd_P, LIv hp0 → wT G L xs 875 i [] hp0) : wT G L xs 400 i [] hp := by
  refine pt_aload eW_law_400 rfl ?_
  refine pt_aload eW_law_401 rfl ?_
  refine pt_iload eW_law_402 rfl ?_
  refine pt_ic eW_law_403 ?_
  refine pt_iadd eW_law_404 ?_
  refine pt_sld rfl eW_law_405 (by omega) (by omega) (by omega) ?_
  refine pt_kv1 eW_law_406 (xD_now G 199 _ hC hI (hxs _)) hC.2.1.1 rfl (Nat.le_of_ble_eq_true rfl) (by decide) (Nat.le_refl _) (Nat.le_refl _) ?_
  rintro v2 sz2 hpx ⟨rfl, hz9, ⟨to1, dr1, hC1⟩, hf1⟩
  obtain rfl : sz2 = 199 := hz9
  have hM1 := hM.keep hf1 (by omega)
  refine pt_aload eW_law_409 rfl ?_
  refine pt_aload eW_law_410 rfl ?_
  refine pt_iload eW_law_411 rfl ?_
  refine pt_ic eW_law_412 ?_
  refine pt_iadd eW_law_413 ?_
  refine pt_sld rfl eW_law_414 (by omega) (by omega) (by omega) ?_
  refine pt_kv1 eW_law_415 (xR_now G 199 _ hM1 hI (hxs _)) hM1.1 rfl (Nat.le_of_ble_eq_true rfl) (by decide) (Nat.le_refl _) (Nat.le_refl _) ?_
  rintro v2 sz2 hpy ⟨rfl, hz9, ⟨f1, hM2⟩, hf2⟩
  obtain rfl : sz2 = 199 := hz9
  have hC2 := hC1.keep hf2 (by omega)
  refine pt_ceqS eW_law_418 rfl ?_
  exact fin _ ⟨to1, dr1, _, _, CW_g hC2 (fun j h22 _ _ => va_up_ne _ _ h22), hM2, IN_g hI (fun j h22 _ _ => va_up_ne _ _ h22)⟩
theorem lW_gives (G : pd_G) {L : Nat} {xs : Nat → Int} (hL : L ≤ 2048) (hxs : ∀ j, jR (xs j)) {i : Nat} (hi : i + 4 ≤ L) {hp : pd_P} {to dr : Nat} {q : Nat → Int → Int} {v : Nat → Int} (hC : CW hp to dr q v) (hM : MW hp q v) (hI : IN q v) (fin : ∀ hp0 : pd_P, LIv hp0 → wT G L xs 875 i [] hp0) : wT G L xs 423 i [] hp := by
  refine pt_aload eW_law_423 rfl ?_
  refine pt_aload eW_law_424 rfl ?_
  refine pt_iload eW_law_425 rfl ?_
  refine pt_ic eW_law_426 ?_
  refine pt_iadd eW_law_427 ?_
  refine pt_sld rfl eW_law_428 (by omega) (by omega) (by omega) ?_
  refine pt_aload eW_law_429 rfl ?_
  refine pt_iload eW_law_430 rfl ?_
  refine pt_ic eW_law_431 ?_
  refine pt_iadd eW_law_432 ?_
  refine pt_sld rfl eW_law_433 (by omega) (by omega) (by omega) ?_
  refine pt_kv2 eW_law_434 (xD_gives G 199 _ hC hI (hxs _) (hxs _)) hC.2.1.1 rfl (Nat.le_of_ble_eq_true rfl) (by decide) (Nat.le_refl _) (Nat.le_refl _) ?_
  rintro v2 sz2 hpx ⟨rfl, hz9, ⟨to1, dr1, hC1⟩, hf1⟩
  obtain rfl : sz2 = 199 := hz9
  have hM1 := hM.keep hf1 (by omega)
  refine pt_aload eW_law_437 rfl ?_
  refine pt_aload eW_law_438 rfl ?_
  refine pt_iload eW_law_439 rfl ?_
  refine pt_ic eW_law_440 ?_
  refine pt_iadd eW_law_441 ?_
  refine pt_sld rfl eW_law_442 (by omega) (by omega) (by omega) ?_
  refine pt_aload eW_law_443 rfl ?_
  refine pt_iload eW_law_444 rfl ?_
  refine pt_ic eW_law_445 ?_
  refine pt_iadd eW_law_446 ?_
  refine pt_sld rfl eW_law_447 (by omega) (by omega) (by omega) ?_
  refine pt_kv2 eW_law_448 (xR_gives G 199 _ hM1 hI (hxs _) (hxs _)) hM1.1 rfl (Nat.le_of_ble_eq_true rfl) (by decide) (Nat.le_refl _) (Nat.le_refl _) ?_
  rintro v2 sz2 hpy ⟨rfl, hz9, hM2, hf2⟩
  obtain rfl : sz2 = 199 := hz9
  have hC2 := hC1.keep hf2 (by omega)
  refine pt_ceqS eW_law_451 rfl ?_
  exact fin _ ⟨to1, dr1, _, _, hC2, hM2, hI⟩
theorem lW_hungry (G : pd_G) {L : Nat} {xs : Nat → Int} (hL : L ≤ 2048) (hxs : ∀ j, jR (xs j)) {i : Nat} (hi : i + 4 ≤ L) {hp : pd_P} {to dr : Nat} {q : Nat → Int → Int} {v : Nat → Int} (hC : CW hp to dr q v) (hM : MW hp q v) (hI : IN q v) (fin : ∀ hp0 : pd_P, LIv hp0 → wT G L xs 875 i [] hp0) : wT G L xs 456 i [] hp := by
  refine pt_aload eW_law_456 rfl ?_
  refine pt_aload eW_law_457 rfl ?_
  refine pt_iload eW_law_458 rfl ?_
  refine pt_ic eW_law_459 ?_
  refine pt_iadd eW_law_460 ?_
  refine pt_sld rfl eW_law_461 (by omega) (by omega) (by omega) ?_
  refine pt_aload eW_law_462 rfl ?_
  refine pt_iload eW_law_463 rfl ?_
  refine pt_ic eW_law_464 ?_
  refine pt_iadd eW_law_465 ?_
  refine pt_sld rfl eW_law_466 (by omega) (by omega) (by omega) ?_
  refine pt_kv2 eW_law_467 (xD_hungry G 199 _ hC hI (hxs _) (hxs _)) hC.2.1.1 rfl (Nat.le_of_ble_eq_true rfl) (by decide) (Nat.le_refl _) (Nat.le_refl _) ?_
  rintro v2 sz2 hpx ⟨rfl, hz9, ⟨to1, dr1, hC1⟩, hf1⟩
  obtain rfl : sz2 = 199 := hz9
  have hM1 := hM.keep hf1 (by omega)
  refine pt_aload eW_law_470 rfl ?_
  refine pt_aload eW_law_471 rfl ?_
  refine pt_iload eW_law_472 rfl ?_
  refine pt_ic eW_law_473 ?_
  refine pt_iadd eW_law_474 ?_
  refine pt_sld rfl eW_law_475 (by omega) (by omega) (by omega) ?_
  refine pt_aload eW_law_476 rfl ?_
  refine pt_iload eW_law_477 rfl ?_
  refine pt_ic eW_law_478 ?_
  refine pt_iadd eW_law_479 ?_
  refine pt_sld rfl eW_law_480 (by omega) (by omega) (by omega) ?_
  refine pt_kv2 eW_law_481 (xR_hungry G 199 _ hM1 hI (hxs _) (hxs _)) hM1.1 rfl (Nat.le_of_ble_eq_true rfl) (by decide) (Nat.le_refl _) (Nat.le_refl _) ?_
  rintro v2 sz2 hpy ⟨rfl, hz9, ⟨f1, hM2⟩, hf2⟩
  obtain rfl : sz2 = 199 := hz9
  have hC2 := hC1.keep hf2 (by omega)
  refine pt_ceqS eW_law_484 rfl ?_
  exact fin _ ⟨to1, dr1, _, _, CW_g hC2 (fun j h22 _ _ => va_up_ne _ _ h22), hM2, IN_g hI (fun j h22 _ _ => va_up_ne _ _ h22)⟩
theorem lW_fed (G : pd_G) {L : Nat} {xs : Nat → Int} (hL : L ≤ 2048) (hxs : ∀ j, jR (xs j)) {i : Nat} (hi : i + 4 ≤ L) {hp : pd_P} {to dr : Nat} {q : Nat → Int → Int} {v : Nat → Int} (hC : CW hp to dr q v) (hM : MW hp q v) (hI : IN q v) (fin : ∀ hp0 : pd_P, LIv hp0 → wT G L xs 875 i [] hp0) : wT G L xs 489 i [] hp := by
  refine pt_aload eW_law_489 rfl ?_
  refine pt_aload eW_law_490 rfl ?_
  refine pt_iload eW_law_491 rfl ?_
  refine pt_ic eW_law_492 ?_
  refine pt_iadd eW_law_493 ?_
  refine pt_sld rfl eW_law_494 (by omega) (by omega) (by omega) ?_
  refine pt_aload eW_law_495 rfl ?_
  refine pt_iload eW_law_496 rfl ?_
  refine pt_ic eW_law_497 ?_
  refine pt_iadd eW_law_498 ?_
  refine pt_sld rfl eW_law_499 (by omega) (by omega) (by omega) ?_
  refine pt_kv2 eW_law_500 (xD_fed G 199 _ hC hI (hxs _) (hxs _)) hC.2.1.1 rfl (Nat.le_of_ble_eq_true rfl) (by decide) (Nat.le_refl _) (Nat.le_refl _) ?_
  rintro v2 sz2 hpx ⟨rfl, hz9, ⟨to1, dr1, hC1⟩, hf1⟩
  obtain rfl : sz2 = 199 := hz9
  have hM1 := hM.keep hf1 (by omega)
  refine pt_aload eW_law_503 rfl ?_
  refine pt_aload eW_law_504 rfl ?_
  refine pt_iload eW_law_505 rfl ?_
  refine pt_ic eW_law_506 ?_
  refine pt_iadd eW_law_507 ?_
  refine pt_sld rfl eW_law_508 (by omega) (by omega) (by omega) ?_
  refine pt_aload eW_law_509 rfl ?_
  refine pt_iload eW_law_510 rfl ?_
  refine pt_ic eW_law_511 ?_
  refine pt_iadd eW_law_512 ?_
  refine pt_sld rfl eW_law_513 (by omega) (by omega) (by omega) ?_
  refine pt_kv2 eW_law_514 (xR_fed G 199 _ hM1 hI (hxs _) (hxs _)) hM1.1 rfl (Nat.le_of_ble_eq_true rfl) (by decide) (Nat.le_refl _) (Nat.le_refl _) ?_
  rintro v2 sz2 hpy ⟨rfl, hz9, ⟨q1, hj1, hM2⟩, hf2⟩
  obtain rfl : sz2 = 199 := hz9
  have hC2 := hC1.keep hf2 (by omega)
  refine pt_ceqS eW_law_517 rfl ?_
  exact fin _ ⟨to1, dr1, _, _, CW_g hC2 hj1, hM2, IN_g hI hj1⟩
theorem lW_carry (G : pd_G) {L : Nat} {xs : Nat → Int} (hL : L ≤ 2048) (hxs : ∀ j, jR (xs j)) {i : Nat} (hi : i + 4 ≤ L) {hp : pd_P} {to dr : Nat} {q : Nat → Int → Int} {v : Nat → Int} (hC : CW hp to dr q v) (hM : MW hp q v) (hI : IN q v) (fin : ∀ hp0 : pd_P, LIv hp0 → wT G L xs 875 i [] hp0) : wT G L xs 522 i [] hp := by
  refine pt_aload eW_law_522 rfl ?_
  refine pt_aload eW_law_523 rfl ?_
  refine pt_iload eW_law_524 rfl ?_
  refine pt_ic eW_law_525 ?_
  refine pt_iadd eW_law_526 ?_
  refine pt_sld rfl eW_law_527 (by omega) (by omega) (by omega) ?_
  refine pt_aload eW_law_528 rfl ?_
  refine pt_iload eW_law_529 rfl ?_
  refine pt_ic eW_law_530 ?_
  refine pt_iadd eW_law_531 ?_
  refine pt_sld rfl eW_law_532 (by omega) (by omega) (by omega) ?_
  refine pt_kv2 eW_law_533 (xD_carry G 199 _ hC hI (hxs _) (hxs _)) hC.2.1.1 rfl (Nat.le_of_ble_eq_true rfl) (by decide) (Nat.le_refl _) (Nat.le_refl _) ?_
  rintro v2 sz2 hpx ⟨rfl, hz9, ⟨to1, dr1, hC1⟩, hf1⟩
  obtain rfl : sz2 = 199 := hz9
  have hM1 := hM.keep hf1 (by omega)
  refine pt_aload eW_law_536 rfl ?_
  refine pt_aload eW_law_537 rfl ?_
  refine pt_iload eW_law_538 rfl ?_
  refine pt_ic eW_law_539 ?_
  refine pt_iadd eW_law_540 ?_
  refine pt_sld rfl eW_law_541 (by omega) (by omega) (by omega) ?_
  refine pt_aload eW_law_542 rfl ?_
  refine pt_iload eW_law_543 rfl ?_
  refine pt_ic eW_law_544 ?_
  refine pt_iadd eW_law_545 ?_
  refine pt_sld rfl eW_law_546 (by omega) (by omega) (by omega) ?_
  refine pt_kv2 eW_law_547 (xR_carry G 199 _ hM1 hI (hxs _) (hxs _)) hM1.1 rfl (Nat.le_of_ble_eq_true rfl) (by decide) (Nat.le_refl _) (Nat.le_refl _) ?_
  rintro v2 sz2 hpy ⟨rfl, hz9, ⟨q1, hj1, hM2⟩, hf2⟩
  obtain rfl : sz2 = 199 := hz9
  have hC2 := hC1.keep hf2 (by omega)
  refine pt_ceqS eW_law_550 rfl ?_
  exact fin _ ⟨to1, dr1, _, _, CW_g hC2 hj1, hM2, IN_g hI hj1⟩
theorem lW_odds (G : pd_G) {L : Nat} {xs : Nat → Int} (hL : L ≤ 2048) (hxs : ∀ j, jR (xs j)) {i : Nat} (hi : i + 4 ≤ L) {hp : pd_P} {to dr : Nat} {q : Nat → Int → Int} {v : Nat → Int} (hC : CW hp to dr q v) (hM : MW hp q v) (hI : IN q v) (fin : ∀ hp0 : pd_P, LIv hp0 → wT G L xs 875 i [] hp0) : wT G L xs 555 i [] hp := by
  refine pt_aload eW_law_555 rfl ?_
  refine pt_aload eW_law_556 rfl ?_
  refine pt_iload eW_law_557 rfl ?_
  refine pt_ic eW_law_558 ?_
  refine pt_iadd eW_law_559 ?_
  refine pt_sld rfl eW_law_560 (by omega) (by omega) (by omega) ?_
  refine pt_aload eW_law_561 rfl ?_
  refine pt_iload eW_law_562 rfl ?_
  refine pt_ic eW_law_563 ?_
  refine pt_iadd eW_law_564 ?_
  refine pt_sld rfl eW_law_565 (by omega) (by omega) (by omega) ?_
  refine pt_aload eW_law_566 rfl ?_
  refine pt_iload eW_law_567 rfl ?_
  refine pt_ic eW_law_568 ?_
  refine pt_iadd eW_law_569 ?_
  refine pt_sld rfl eW_law_570 (by omega) (by omega) (by omega) ?_
  refine pt_kv3 eW_law_571 (xD_odds G 199 _ hC hI (hxs _) (hxs _) (hxs _)) hC.2.1.1 rfl (Nat.le_of_ble_eq_true rfl) (by decide) (Nat.le_refl _) (Nat.le_refl _) ?_
  rintro v2 sz2 hpx ⟨rfl, hz9, ⟨to1, dr1, hC1⟩, hf1⟩
  obtain rfl : sz2 = 199 := hz9
  have hM1 := hM.keep hf1 (by omega)
  refine pt_aload eW_law_574 rfl ?_
  refine pt_aload eW_law_575 rfl ?_
  refine pt_iload eW_law_576 rfl ?_
  refine pt_ic eW_law_577 ?_
  refine pt_iadd eW_law_578 ?_
  refine pt_sld rfl eW_law_579 (by omega) (by omega) (by omega) ?_
  refine pt_aload eW_law_580 rfl ?_
  refine pt_iload eW_law_581 rfl ?_
  refine pt_ic eW_law_582 ?_
  refine pt_iadd eW_law_583 ?_
  refine pt_sld rfl eW_law_584 (by omega) (by omega) (by omega) ?_
  refine pt_aload eW_law_585 rfl ?_
  refine pt_iload eW_law_586 rfl ?_
  refine pt_ic eW_law_587 ?_
  refine pt_iadd eW_law_588 ?_
  refine pt_sld rfl eW_law_589 (by omega) (by omega) (by omega) ?_
  refine pt_kv3 eW_law_590 (xR_odds G 199 _ hM1 hI (hxs _) (hxs _) (hxs _)) hM1.1 rfl (Nat.le_of_ble_eq_true rfl) (by decide) (Nat.le_refl _) (Nat.le_refl _) ?_
  rintro v2 sz2 hpy ⟨rfl, hz9, hM2, hf2⟩
  obtain rfl : sz2 = 199 := hz9
  have hC2 := hC1.keep hf2 (by omega)
  refine pt_ceqS eW_law_593 rfl ?_
  exact fin _ ⟨to1, dr1, _, _, hC2, hM2, hI⟩
theorem lW_store (G : pd_G) {L : Nat} {xs : Nat → Int} (hL : L ≤ 2048) (hxs : ∀ j, jR (xs j)) {i : Nat} (hi : i + 4 ≤ L) {hp : pd_P} {to dr : Nat} {q : Nat → Int → Int} {v : Nat → Int} (hC : CW hp to dr q v) (hM : MW hp q v) (hI : IN q v) (fin : ∀ hp0 : pd_P, LIv hp0 → wT G L xs 875 i [] hp0) : wT G L xs 598 i [] hp := by
  refine pt_aload eW_law_598 rfl ?_
  refine pt_aload eW_law_599 rfl ?_
  refine pt_iload eW_law_600 rfl ?_
  refine pt_ic eW_law_601 ?_
  refine pt_iadd eW_law_602 ?_
  refine pt_sld rfl eW_law_603 (by omega) (by omega) (by omega) ?_
  refine pt_aload eW_law_604 rfl ?_
  refine pt_iload eW_law_605 rfl ?_
  refine pt_ic eW_law_606 ?_
  refine pt_iadd eW_law_607 ?_
  refine pt_sld rfl eW_law_608 (by omega) (by omega) (by omega) ?_
  refine pt_kv2 eW_law_609 (xD_store G 199 _ hC hI (hxs _) (hxs _)) hC.2.1.1 rfl (Nat.le_of_ble_eq_true rfl) (by decide) (Nat.le_refl _) (Nat.le_refl _) ?_
  rintro v2 sz2 hpx ⟨rfl, hz9, ⟨to1, dr1, hC1⟩, hf1⟩
  obtain rfl : sz2 = 199 := hz9
  have hM1 := hM.keep hf1 (by omega)
  refine pt_aload eW_law_612 rfl ?_
  refine pt_aload eW_law_613 rfl ?_
  refine pt_iload eW_law_614 rfl ?_
  refine pt_ic eW_law_615 ?_
  refine pt_iadd eW_law_616 ?_
  refine pt_sld rfl eW_law_617 (by omega) (by omega) (by omega) ?_
  refine pt_aload eW_law_618 rfl ?_
  refine pt_iload eW_law_619 rfl ?_
  refine pt_ic eW_law_620 ?_
  refine pt_iadd eW_law_621 ?_
  refine pt_sld rfl eW_law_622 (by omega) (by omega) (by omega) ?_
  refine pt_kv2 eW_law_623 (xR_store G 199 _ hM1 hI (hxs _) (hxs _)) hM1.1 rfl (Nat.le_of_ble_eq_true rfl) (by decide) (Nat.le_refl _) (Nat.le_refl _) ?_
  rintro v2 sz2 hpy ⟨rfl, hz9, ⟨f1, hM2⟩, hf2⟩
  obtain rfl : sz2 = 199 := hz9
  have hC2 := hC1.keep hf2 (by omega)
  refine pt_ceqS eW_law_626 rfl ?_
  exact fin _ ⟨to1, dr1, _, _, CW_g hC2 (fun j h22 _ _ => va_up_ne _ _ h22), hM2, IN_g hI (fun j h22 _ _ => va_up_ne _ _ h22)⟩
theorem lW_saw (G : pd_G) {L : Nat} {xs : Nat → Int} (hL : L ≤ 2048) (hxs : ∀ j, jR (xs j)) {i : Nat} (hi : i + 4 ≤ L) {hp : pd_P} {to dr : Nat} {q : Nat → Int → Int} {v : Nat → Int} (hC : CW hp to dr q v) (hM : MW hp q v) (hI : IN q v) (fin : ∀ hp0 : pd_P, LIv hp0 → wT G L xs 875 i [] hp0) : wT G L xs 631 i [] hp := by
  refine pt_aload eW_law_631 rfl ?_
  refine pt_aload eW_law_632 rfl ?_
  refine pt_iload eW_law_633 rfl ?_
  refine pt_ic eW_law_634 ?_
  refine pt_iadd eW_law_635 ?_
  refine pt_sld rfl eW_law_636 (by omega) (by omega) (by omega) ?_
  refine pt_aload eW_law_637 rfl ?_
  refine pt_iload eW_law_638 rfl ?_
  refine pt_ic eW_law_639 ?_
  refine pt_iadd eW_law_640 ?_
  refine pt_sld rfl eW_law_641 (by omega) (by omega) (by omega) ?_
  refine pt_kv2 eW_law_642 (xD_saw G 199 _ hC hI (hxs _) (hxs _)) hC.2.1.1 rfl (Nat.le_of_ble_eq_true rfl) (by decide) (Nat.le_refl _) (Nat.le_refl _) ?_
  rintro v2 sz2 hpx ⟨rfl, hz9, ⟨to1, dr1, hC1⟩, hf1⟩
  obtain rfl : sz2 = 199 := hz9
  have hM1 := hM.keep hf1 (by omega)
  refine pt_aload eW_law_645 rfl ?_
  refine pt_aload eW_law_646 rfl ?_
  refine pt_iload eW_law_647 rfl ?_
  refine pt_ic eW_law_648 ?_
  refine pt_iadd eW_law_649 ?_
  refine pt_sld rfl eW_law_650 (by omega) (by omega) (by omega) ?_
  refine pt_aload eW_law_651 rfl ?_
  refine pt_iload eW_law_652 rfl ?_
  refine pt_ic eW_law_653 ?_
  refine pt_iadd eW_law_654 ?_
  refine pt_sld rfl eW_law_655 (by omega) (by omega) (by omega) ?_
  refine pt_kv2 eW_law_656 (xR_saw G 199 _ hM1 hI (hxs _) (hxs _)) hM1.1 rfl (Nat.le_of_ble_eq_true rfl) (by decide) (Nat.le_refl _) (Nat.le_refl _) ?_
  rintro v2 sz2 hpy ⟨rfl, hz9, hM2, hf2⟩
  obtain rfl : sz2 = 199 := hz9
  have hC2 := hC1.keep hf2 (by omega)
  refine pt_ceqS eW_law_659 rfl ?_
  exact fin _ ⟨to1, dr1, _, _, hC2, hM2, IN_saw hI⟩
theorem lW_days (G : pd_G) {L : Nat} {xs : Nat → Int} (hL : L ≤ 2048) (hxs : ∀ j, jR (xs j)) {i : Nat} (hi : i + 4 ≤ L) {hp : pd_P} {to dr : Nat} {q : Nat → Int → Int} {v : Nat → Int} (hC : CW hp to dr q v) (hM : MW hp q v) (hI : IN q v) (fin : ∀ hp0 : pd_P, LIv hp0 → wT G L xs 875 i [] hp0) : wT G L xs 664 i [] hp := by
  refine pt_aload eW_law_664 rfl ?_
  refine pt_kv0 eW_law_665 (xD_days G 199 _ hC hI) hC.2.1.1 rfl (Nat.le_of_ble_eq_true rfl) (by decide) (Nat.le_refl _) (Nat.le_refl _) ?_
  rintro v2 sz2 hpx ⟨rfl, hz9, ⟨to1, dr1, hC1⟩, hf1⟩
  obtain rfl : sz2 = 199 := hz9
  have hM1 := hM.keep hf1 (by omega)
  refine pt_aload eW_law_668 rfl ?_
  refine pt_kv0 eW_law_669 (xR_days G 199 _ hM1 hI) hM1.1 rfl (Nat.le_of_ble_eq_true rfl) (by decide) (Nat.le_refl _) (Nat.le_refl _) ?_
  rintro v2 sz2 hpy ⟨rfl, hz9, ⟨q1, hj1, hM2⟩, hf2⟩
  obtain rfl : sz2 = 199 := hz9
  have hC2 := hC1.keep hf2 (by omega)
  refine pt_ceqS eW_law_672 rfl ?_
  exact fin _ ⟨to1, dr1, _, _, CW_g hC2 hj1, hM2, IN_g hI hj1⟩
theorem lW_look (G : pd_G) {L : Nat} {xs : Nat → Int} (hL : L ≤ 2048) (hxs : ∀ j, jR (xs j)) {i : Nat} (hi : i + 4 ≤ L) {hp : pd_P} {to dr : Nat} {q : Nat → Int → Int} {v : Nat → Int} (hC : CW hp to dr q v) (hM : MW hp q v) (hI : IN q v) (fin : ∀ hp0 : pd_P, LIv hp0 → wT G L xs 875 i [] hp0) : wT G L xs 677 i [] hp := by
  refine pt_aload eW_law_677 rfl ?_
  refine pt_kv0 eW_law_678 (xD_look G 199 _ hC hI) hC.2.1.1 rfl (Nat.le_of_ble_eq_true rfl) (by decide) (Nat.le_refl _) (Nat.le_refl _) ?_
  rintro v2 sz2 hpx ⟨rfl, hz9, ⟨to1, dr1, hC1⟩, hf1⟩
  obtain rfl : sz2 = 199 := hz9
  have hM1 := hM.keep hf1 (by omega)
  refine pt_aload eW_law_681 rfl ?_
  refine pt_kv0 eW_law_682 (xR_look G 199 _ hM1 hI) hM1.1 rfl (Nat.le_of_ble_eq_true rfl) (by decide) (Nat.le_refl _) (Nat.le_refl _) ?_
  rintro v2 sz2 hpy ⟨rfl, hz9, ⟨q1, hj1, hM2⟩, hf2⟩
  obtain rfl : sz2 = 199 := hz9
  have hC2 := hC1.keep hf2 (by omega)
  refine pt_ceqS eW_law_685 rfl ?_
  exact fin _ ⟨to1, dr1, _, _, CW_g hC2 hj1, hM2, IN_g hI hj1⟩
theorem lW_gave (G : pd_G) {L : Nat} {xs : Nat → Int} (hL : L ≤ 2048) (hxs : ∀ j, jR (xs j)) {i : Nat} (hi : i + 4 ≤ L) {hp : pd_P} {to dr : Nat} {q : Nat → Int → Int} {v : Nat → Int} (hC : CW hp to dr q v) (hM : MW hp q v) (hI : IN q v) (fin : ∀ hp0 : pd_P, LIv hp0 → wT G L xs 875 i [] hp0) : wT G L xs 690 i [] hp := by
  refine pt_aload eW_law_690 rfl ?_
  refine pt_aload eW_law_691 rfl ?_
  refine pt_iload eW_law_692 rfl ?_
  refine pt_ic eW_law_693 ?_
  refine pt_iadd eW_law_694 ?_
  refine pt_sld rfl eW_law_695 (by omega) (by omega) (by omega) ?_
  refine pt_aload eW_law_696 rfl ?_
  refine pt_iload eW_law_697 rfl ?_
  refine pt_ic eW_law_698 ?_
  refine pt_iadd eW_law_699 ?_
  refine pt_sld rfl eW_law_700 (by omega) (by omega) (by omega) ?_
  refine pt_kv2 eW_law_701 (xD_gave G 199 _ hC hI (hxs _) (hxs _)) hC.2.1.1 rfl (Nat.le_of_ble_eq_true rfl) (by decide) (Nat.le_refl _) (Nat.le_refl _) ?_
  rintro v2 sz2 hpx ⟨rfl, hz9, ⟨to1, dr1, hC1⟩, hf1⟩
  obtain rfl : sz2 = 199 := hz9
  have hM1 := hM.keep hf1 (by omega)
  refine pt_aload eW_law_704 rfl ?_
  refine pt_aload eW_law_705 rfl ?_
  refine pt_iload eW_law_706 rfl ?_
  refine pt_ic eW_law_707 ?_
  refine pt_iadd eW_law_708 ?_
  refine pt_sld rfl eW_law_709 (by omega) (by omega) (by omega) ?_
  refine pt_aload eW_law_710 rfl ?_
  refine pt_iload eW_law_711 rfl ?_
  refine pt_ic eW_law_712 ?_
  refine pt_iadd eW_law_713 ?_
  refine pt_sld rfl eW_law_714 (by omega) (by omega) (by omega) ?_
  refine pt_kv2 eW_law_715 (xR_gave G 199 _ hM1 hI (hxs _) (hxs _)) hM1.1 rfl (Nat.le_of_ble_eq_true rfl) (by decide) (Nat.le_refl _) (Nat.le_refl _) ?_
  rintro v2 sz2 hpy ⟨rfl, hz9, hM2, hf2⟩
  obtain rfl : sz2 = 199 := hz9
  have hC2 := hC1.keep hf2 (by omega)
  refine pt_ceqS eW_law_718 rfl ?_
  exact fin _ ⟨to1, dr1, _, _, hC2, hM2, IN_gave hI⟩
theorem lW_laws (G : pd_G) {L : Nat} {xs : Nat → Int} (hL : L ≤ 2048) (hxs : ∀ j, jR (xs j)) {i : Nat} (hi : i + 4 ≤ L) {hp : pd_P} {to dr : Nat} {q : Nat → Int → Int} {v : Nat → Int} (hC : CW hp to dr q v) (hM : MW hp q v) (hI : IN q v) (fin : ∀ hp0 : pd_P, LIv hp0 → wT G L xs 875 i [] hp0) : wT G L xs 723 i [] hp := by
  refine pt_aload eW_law_723 rfl ?_
  refine pt_aload eW_law_724 rfl ?_
  refine pt_iload eW_law_725 rfl ?_
  refine pt_ic eW_law_726 ?_
  refine pt_iadd eW_law_727 ?_
  refine pt_sld rfl eW_law_728 (by omega) (by omega) (by omega) ?_
  refine pt_kv1 eW_law_729 (xD_laws G 199 _ hC hI (hxs _)) hC.2.1.1 rfl (Nat.le_of_ble_eq_true rfl) (by decide) (Nat.le_refl _) (Nat.le_refl _) ?_
  rintro v2 sz2 hpx ⟨rfl, hz9, ⟨to1, dr1, hC1⟩, hf1⟩
  obtain rfl : sz2 = 199 := hz9
  have hM1 := hM.keep hf1 (by omega)
  refine pt_aload eW_law_732 rfl ?_
  refine pt_aload eW_law_733 rfl ?_
  refine pt_iload eW_law_734 rfl ?_
  refine pt_ic eW_law_735 ?_
  refine pt_iadd eW_law_736 ?_
  refine pt_sld rfl eW_law_737 (by omega) (by omega) (by omega) ?_
  refine pt_kv1 eW_law_738 (xR_laws G 199 _ hM1 hI (hxs _)) hM1.1 rfl (Nat.le_of_ble_eq_true rfl) (by decide) (Nat.le_refl _) (Nat.le_refl _) ?_
  rintro v2 sz2 hpy ⟨rfl, hz9, hM2, hf2⟩
  obtain rfl : sz2 = 199 := hz9
  have hC2 := hC1.keep hf2 (by omega)
  refine pt_ceqS eW_law_741 rfl ?_
  exact fin _ ⟨to1, dr1, _, _, hC2, hM2, hI⟩
theorem lW_forget (G : pd_G) {L : Nat} {xs : Nat → Int} (hL : L ≤ 2048) (hxs : ∀ j, jR (xs j)) {i : Nat} (hi : i + 4 ≤ L) {hp : pd_P} {to dr : Nat} {q : Nat → Int → Int} {v : Nat → Int} (hC : CW hp to dr q v) (hM : MW hp q v) (hI : IN q v) (fin : ∀ hp0 : pd_P, LIv hp0 → wT G L xs 875 i [] hp0) : wT G L xs 746 i [] hp := by
  refine pt_aload eW_law_746 rfl ?_
  refine pt_kv0 eW_law_747 (xD_forget G 199 _ hC hI) hC.2.1.1 rfl (Nat.le_of_ble_eq_true rfl) (by decide) (Nat.le_refl _) (Nat.le_refl _) ?_
  rintro v2 sz2 hpx ⟨rfl, hz9, ⟨to1, dr1, hC1⟩, hf1⟩
  obtain rfl : sz2 = 199 := hz9
  have hM1 := hM.keep hf1 (by omega)
  refine pt_aload eW_law_750 rfl ?_
  refine pt_kv0 eW_law_751 (xR_forget G 199 _ hM1 hI) hM1.1 rfl (Nat.le_of_ble_eq_true rfl) (by decide) (Nat.le_refl _) (Nat.le_refl _) ?_
  rintro v2 sz2 hpy ⟨rfl, hz9, hM2, hf2⟩
  obtain rfl : sz2 = 199 := hz9
  have hC2 := hC1.keep hf2 (by omega)
  refine pt_ceqS eW_law_754 rfl ?_
  exact fin _ ⟨to1, dr1, _, _, hC2, hM2, IN_forget hI⟩
theorem lW_mark (G : pd_G) {L : Nat} {xs : Nat → Int} (hL : L ≤ 2048) (hxs : ∀ j, jR (xs j)) {i : Nat} (hi : i + 4 ≤ L) {hp : pd_P} {to dr : Nat} {q : Nat → Int → Int} {v : Nat → Int} (hC : CW hp to dr q v) (hM : MW hp q v) (hI : IN q v) (fin : ∀ hp0 : pd_P, LIv hp0 → wT G L xs 875 i [] hp0) : wT G L xs 759 i [] hp := by
  refine pt_aload eW_law_759 rfl ?_
  refine pt_aload eW_law_760 rfl ?_
  refine pt_iload eW_law_761 rfl ?_
  refine pt_ic eW_law_762 ?_
  refine pt_iadd eW_law_763 ?_
  refine pt_sld rfl eW_law_764 (by omega) (by omega) (by omega) ?_
  refine pt_aload eW_law_765 rfl ?_
  refine pt_iload eW_law_766 rfl ?_
  refine pt_ic eW_law_767 ?_
  refine pt_iadd eW_law_768 ?_
  refine pt_sld rfl eW_law_769 (by omega) (by omega) (by omega) ?_
  refine pt_kv2 eW_law_770 (xD_mark G 199 _ hC hI (hxs _) (hxs _)) hC.2.1.1 rfl (Nat.le_of_ble_eq_true rfl) (by decide) (Nat.le_refl _) (Nat.le_refl _) ?_
  rintro v2 sz2 hpx ⟨rfl, hz9, ⟨to1, dr1, hC1⟩, hf1⟩
  obtain rfl : sz2 = 199 := hz9
  have hM1 := hM.keep hf1 (by omega)
  refine pt_aload eW_law_773 rfl ?_
  refine pt_aload eW_law_774 rfl ?_
  refine pt_iload eW_law_775 rfl ?_
  refine pt_ic eW_law_776 ?_
  refine pt_iadd eW_law_777 ?_
  refine pt_sld rfl eW_law_778 (by omega) (by omega) (by omega) ?_
  refine pt_aload eW_law_779 rfl ?_
  refine pt_iload eW_law_780 rfl ?_
  refine pt_ic eW_law_781 ?_
  refine pt_iadd eW_law_782 ?_
  refine pt_sld rfl eW_law_783 (by omega) (by omega) (by omega) ?_
  refine pt_kv2 eW_law_784 (xR_mark G 199 _ hM1 hI (hxs _) (hxs _)) hM1.1 rfl (Nat.le_of_ble_eq_true rfl) (by decide) (Nat.le_refl _) (Nat.le_refl _) ?_
  rintro v2 sz2 hpy ⟨rfl, hz9, hM2, hf2⟩
  obtain rfl : sz2 = 199 := hz9
  have hC2 := hC1.keep hf2 (by omega)
  refine pt_ceqS eW_law_787 rfl ?_
  exact fin _ ⟨to1, dr1, _, _, hC2, hM2, IN_mark hI⟩
theorem lW_keep (G : pd_G) {L : Nat} {xs : Nat → Int} (hL : L ≤ 2048) (hxs : ∀ j, jR (xs j)) {i : Nat} (hi : i + 4 ≤ L) {hp : pd_P} {to dr : Nat} {q : Nat → Int → Int} {v : Nat → Int} (hC : CW hp to dr q v) (hM : MW hp q v) (hI : IN q v) (fin : ∀ hp0 : pd_P, LIv hp0 → wT G L xs 875 i [] hp0) : wT G L xs 792 i [] hp := by
  refine pt_aload eW_law_792 rfl ?_
  refine pt_aload eW_law_793 rfl ?_
  refine pt_iload eW_law_794 rfl ?_
  refine pt_ic eW_law_795 ?_
  refine pt_iadd eW_law_796 ?_
  refine pt_sld rfl eW_law_797 (by omega) (by omega) (by omega) ?_
  refine pt_kv1 eW_law_798 (xD_keep G 199 _ hC hI (hxs _)) hC.2.1.1 rfl (Nat.le_of_ble_eq_true rfl) (by decide) (Nat.le_refl _) (Nat.le_refl _) ?_
  rintro v2 sz2 hpx ⟨rfl, hz9, ⟨to1, dr1, hC1⟩, hf1⟩
  obtain rfl : sz2 = 199 := hz9
  have hM1 := hM.keep hf1 (by omega)
  refine pt_aload eW_law_801 rfl ?_
  refine pt_aload eW_law_802 rfl ?_
  refine pt_iload eW_law_803 rfl ?_
  refine pt_ic eW_law_804 ?_
  refine pt_iadd eW_law_805 ?_
  refine pt_sld rfl eW_law_806 (by omega) (by omega) (by omega) ?_
  refine pt_kv1 eW_law_807 (xR_keep G 199 _ hM1 hI (hxs _)) hM1.1 rfl (Nat.le_of_ble_eq_true rfl) (by decide) (Nat.le_refl _) (Nat.le_refl _) ?_
  rintro v2 sz2 hpy ⟨rfl, hz9, hM2, hf2⟩
  obtain rfl : sz2 = 199 := hz9
  have hC2 := hC1.keep hf2 (by omega)
  refine pt_ceqS eW_law_810 rfl ?_
  exact fin _ ⟨to1, dr1, _, _, hC2, hM2, IN_keep hI⟩
theorem lW_back (G : pd_G) {L : Nat} {xs : Nat → Int} (hL : L ≤ 2048) (hxs : ∀ j, jR (xs j)) {i : Nat} (hi : i + 4 ≤ L) {hp : pd_P} {to dr : Nat} {q : Nat → Int → Int} {v : Nat → Int} (hC : CW hp to dr q v) (hM : MW hp q v) (hI : IN q v) (fin : ∀ hp0 : pd_P, LIv hp0 → wT G L xs 875 i [] hp0) : wT G L xs 815 i [] hp := by
  refine pt_aload eW_law_815 rfl ?_
  refine pt_aload eW_law_816 rfl ?_
  refine pt_iload eW_law_817 rfl ?_
  refine pt_ic eW_law_818 ?_
  refine pt_iadd eW_law_819 ?_
  refine pt_sld rfl eW_law_820 (by omega) (by omega) (by omega) ?_
  refine pt_kv1 eW_law_821 (xD_back G 199 _ hC hI (hxs _)) hC.2.1.1 rfl (Nat.le_of_ble_eq_true rfl) (by decide) (Nat.le_refl _) (Nat.le_refl _) ?_
  rintro v2 sz2 hpx ⟨rfl, hz9, ⟨to1, dr1, hC1⟩, hf1⟩
  obtain rfl : sz2 = 199 := hz9
  have hM1 := hM.keep hf1 (by omega)
  refine pt_aload eW_law_824 rfl ?_
  refine pt_aload eW_law_825 rfl ?_
  refine pt_iload eW_law_826 rfl ?_
  refine pt_ic eW_law_827 ?_
  refine pt_iadd eW_law_828 ?_
  refine pt_sld rfl eW_law_829 (by omega) (by omega) (by omega) ?_
  refine pt_kv1 eW_law_830 (xR_back G 199 _ hM1 hI (hxs _)) hM1.1 rfl (Nat.le_of_ble_eq_true rfl) (by decide) (Nat.le_refl _) (Nat.le_refl _) ?_
  rintro v2 sz2 hpy ⟨rfl, hz9, hM2, hf2⟩
  obtain rfl : sz2 = 199 := hz9
  have hC2 := hC1.keep hf2 (by omega)
  refine pt_ceqS eW_law_833 rfl ?_
  exact fin _ ⟨to1, dr1, _, _, hC2, hM2, IN_back hI⟩
theorem lW_count (G : pd_G) {L : Nat} {xs : Nat → Int} (hL : L ≤ 2048) (hxs : ∀ j, jR (xs j)) {i : Nat} (hi : i + 4 ≤ L) {hp : pd_P} {to dr : Nat} {q : Nat → Int → Int} {v : Nat → Int} (hC : CW hp to dr q v) (hM : MW hp q v) (hI : IN q v) (fin : ∀ hp0 : pd_P, LIv hp0 → wT G L xs 875 i [] hp0) : wT G L xs 838 i [] hp := by
  refine pt_aload eW_law_838 rfl ?_
  refine pt_aload eW_law_839 rfl ?_
  refine pt_iload eW_law_840 rfl ?_
  refine pt_ic eW_law_841 ?_
  refine pt_iadd eW_law_842 ?_
  refine pt_sld rfl eW_law_843 (by omega) (by omega) (by omega) ?_
  refine pt_kv1 eW_law_844 (xD_count G 199 _ hC hI (hxs _)) hC.2.1.1 rfl (Nat.le_of_ble_eq_true rfl) (by decide) (Nat.le_refl _) (Nat.le_refl _) ?_
  rintro v2 sz2 hpx ⟨rfl, hz9, ⟨to1, dr1, hC1⟩, hf1⟩
  obtain rfl : sz2 = 199 := hz9
  have hM1 := hM.keep hf1 (by omega)
  refine pt_aload eW_law_847 rfl ?_
  refine pt_aload eW_law_848 rfl ?_
  refine pt_iload eW_law_849 rfl ?_
  refine pt_ic eW_law_850 ?_
  refine pt_iadd eW_law_851 ?_
  refine pt_sld rfl eW_law_852 (by omega) (by omega) (by omega) ?_
  refine pt_kv1 eW_law_853 (xR_count G 199 _ hM1 hI (hxs _)) hM1.1 rfl (Nat.le_of_ble_eq_true rfl) (by decide) (Nat.le_refl _) (Nat.le_refl _) ?_
  rintro v2 sz2 hpy ⟨rfl, hz9, hM2, hf2⟩
  obtain rfl : sz2 = 199 := hz9
  have hC2 := hC1.keep hf2 (by omega)
  refine pt_ceqS eW_law_856 rfl ?_
  exact fin _ ⟨to1, dr1, _, _, hC2, hM2, hI⟩
theorem lW_trace (G : pd_G) {L : Nat} {xs : Nat → Int} (hL : L ≤ 2048) (hxs : ∀ j, jR (xs j)) {i : Nat} (hi : i + 4 ≤ L) {hp : pd_P} {to dr : Nat} {q : Nat → Int → Int} {v : Nat → Int} (hC : CW hp to dr q v) (hM : MW hp q v) (hI : IN q v) (fin : ∀ hp0 : pd_P, LIv hp0 → wT G L xs 875 i [] hp0) : wT G L xs 861 i [] hp := by
  refine pt_aload eW_law_861 rfl ?_
  refine pt_kv0 eW_law_862 (xD_trace G 199 _ hC) hC.2.1.1 rfl (Nat.le_of_ble_eq_true rfl) (by decide) (Nat.le_refl _) (Nat.le_refl _) ?_
  rintro v2 sz2 hpx ⟨rfl, hz9, hx9⟩
  obtain rfl : sz2 = 199 := hz9
  obtain rfl : hp = hpx := hx9.symm
  refine pt_aload eW_law_865 rfl ?_
  refine pt_kv0 eW_law_866 (xR_trace G 199 _ hM) hM.1 rfl (Nat.le_of_ble_eq_true rfl) (by decide) (Nat.le_refl _) (Nat.le_refl _) ?_
  rintro v2 sz2 hpx ⟨rfl, hz9, hx9⟩
  obtain rfl : sz2 = 199 := hz9
  obtain rfl : hp = hpx := hx9.symm
  refine pt_lcmp eW_law_869 rfl ?_
  refine pt_zeq eW_law_870 ⟨by decide, by decide⟩ (fun _ => ?_) (fun c => absurd rfl c)
  exact fin _ ⟨to, dr, q, v, hC, hM, hI⟩
theorem lW_loop (G : pd_G) {L : Nat} {xs : Nat → Int} (hL : L ≤ 2048) (hxs : ∀ j, jR (xs j)) : ∀ (f i : Nat) (hp : pd_P), i ≤ L → L < i + 4 * f → LIv hp → wT G L xs 18 i [] hp := by
  intro f
  induction f with
  | zero =>
    intro i hp hiL hif h
    exfalso
    omega
  | succ f ih =>
    intro i hp hiL hif h
    refine pt_iload eW_law_18 rfl ?_
    refine pt_aload eW_law_19 rfl ?_
    refine pt_slen rfl eW_law_20 ?_
    refine pt_ic eW_law_21 ?_
    refine pt_isub eW_law_22 ?_
    refine pt_cgt eW_law_23 ⟨by omega, by omega⟩ ⟨by omega, by omega⟩ (fun c23 => ?_) (fun c23 => ?_)
    · refine pt_ic eW_law_881 ?_
      exact pt_iret (eW_law_882 (Or.inr rfl)) (Nat.le_refl _) (Nat.le_refl _) rfl
    · have hfin : ∀ hp0 : pd_P, LIv hp0 → wT G L xs 875 i [] hp0 := by
        intro hp0 h0
        refine pt_inc3 eW_law_875 rfl ?_
        refine pt_goto eW_law_878 ?_
        exact ih (i + 4) hp0 (by omega) (by omega) h0
      obtain ⟨to, dr, q, v, hC, hM, hI⟩ := h
      refine pt_aload eW_law_26 rfl ?_
      refine pt_iload eW_law_27 rfl ?_
      refine pt_sld rfl eW_law_28 (by omega) (by omega) (by omega) ?_
      refine pt_ic eW_law_29 ?_
      refine pt_iand 5 eW_law_31 (by decide) (by decide) ?_
      generalize hsv : xs ((i : Int)).toNat % 2 ^ 5 = s
      have hs : 0 ≤ s ∧ s ≤ 31 := by omega
      rcases (show s = 0 ∨ s = 1 ∨ s = 2 ∨ s = 3 ∨ s = 4 ∨ s = 5 ∨ s = 6 ∨ s = 7 ∨ s = 8 ∨ s = 9 ∨ s = 10 ∨ s = 11 ∨ s = 12 ∨ s = 13 ∨ s = 14 ∨ s = 15 ∨ s = 16 ∨ s = 17 ∨ s = 18 ∨ s = 19 ∨ s = 20 ∨ s = 21 ∨ s = 22 ∨ s = 23 ∨ s = 24 ∨ s = 25 ∨ s = 26 ∨ s = 27 ∨ 27 < s by omega) with rfl | rfl | rfl | rfl | rfl | rfl | rfl | rfl | rfl | rfl | rfl | rfl | rfl | rfl | rfl | rfl | rfl | rfl | rfl | rfl | rfl | rfl | rfl | rfl | rfl | rfl | rfl | rfl | hsw
      · refine pt_tin (t := 160) (off := 128) eW_law_32 ⟨by decide, by decide⟩ (by decide) (by decide) rfl (by decide) ?_
        exact lW_type G hL hxs (by omega) hC hM hI hfin
      · refine pt_tin (t := 183) (off := 151) eW_law_32 ⟨by decide, by decide⟩ (by decide) (by decide) rfl (by decide) ?_
        exact lW_clear G hL hxs (by omega) hC hM hI hfin
      · refine pt_tin (t := 196) (off := 164) eW_law_32 ⟨by decide, by decide⟩ (by decide) (by decide) rfl (by decide) ?_
        exact lW_house G hL hxs (by omega) hC hM hI hfin
      · refine pt_tin (t := 209) (off := 177) eW_law_32 ⟨by decide, by decide⟩ (by decide) (by decide) rfl (by decide) ?_
        exact lW_good G hL hxs (by omega) hC hM hI hfin
      · refine pt_tin (t := 242) (off := 210) eW_law_32 ⟨by decide, by decide⟩ (by decide) (by decide) rfl (by decide) ?_
        exact lW_day G hL hxs (by omega) hC hM hI hfin
      · refine pt_tin (t := 285) (off := 253) eW_law_32 ⟨by decide, by decide⟩ (by decide) (by decide) rfl (by decide) ?_
        exact lW_goes G hL hxs (by omega) hC hM hI hfin
      · refine pt_tin (t := 298) (off := 266) eW_law_32 ⟨by decide, by decide⟩ (by decide) (by decide) rfl (by decide) ?_
        exact lW_takes G hL hxs (by omega) hC hM hI hfin
      · refine pt_tin (t := 331) (off := 299) eW_law_32 ⟨by decide, by decide⟩ (by decide) (by decide) rfl (by decide) ?_
        exact lW_buys G hL hxs (by omega) hC hM hI hfin
      · refine pt_tin (t := 364) (off := 332) eW_law_32 ⟨by decide, by decide⟩ (by decide) (by decide) rfl (by decide) ?_
        exact lW_holds G hL hxs (by omega) hC hM hI hfin
      · refine pt_tin (t := 387) (off := 355) eW_law_32 ⟨by decide, by decide⟩ (by decide) (by decide) rfl (by decide) ?_
        exact lW_undo G hL hxs (by omega) hC hM hI hfin
      · refine pt_tin (t := 400) (off := 368) eW_law_32 ⟨by decide, by decide⟩ (by decide) (by decide) rfl (by decide) ?_
        exact lW_now G hL hxs (by omega) hC hM hI hfin
      · refine pt_tin (t := 423) (off := 391) eW_law_32 ⟨by decide, by decide⟩ (by decide) (by decide) rfl (by decide) ?_
        exact lW_gives G hL hxs (by omega) hC hM hI hfin
      · refine pt_tin (t := 456) (off := 424) eW_law_32 ⟨by decide, by decide⟩ (by decide) (by decide) rfl (by decide) ?_
        exact lW_hungry G hL hxs (by omega) hC hM hI hfin
      · refine pt_tin (t := 489) (off := 457) eW_law_32 ⟨by decide, by decide⟩ (by decide) (by decide) rfl (by decide) ?_
        exact lW_fed G hL hxs (by omega) hC hM hI hfin
      · refine pt_tin (t := 522) (off := 490) eW_law_32 ⟨by decide, by decide⟩ (by decide) (by decide) rfl (by decide) ?_
        exact lW_carry G hL hxs (by omega) hC hM hI hfin
      · refine pt_tin (t := 555) (off := 523) eW_law_32 ⟨by decide, by decide⟩ (by decide) (by decide) rfl (by decide) ?_
        exact lW_odds G hL hxs (by omega) hC hM hI hfin
      · refine pt_tin (t := 598) (off := 566) eW_law_32 ⟨by decide, by decide⟩ (by decide) (by decide) rfl (by decide) ?_
        exact lW_store G hL hxs (by omega) hC hM hI hfin
      · refine pt_tin (t := 631) (off := 599) eW_law_32 ⟨by decide, by decide⟩ (by decide) (by decide) rfl (by decide) ?_
        exact lW_saw G hL hxs (by omega) hC hM hI hfin
      · refine pt_tin (t := 664) (off := 632) eW_law_32 ⟨by decide, by decide⟩ (by decide) (by decide) rfl (by decide) ?_
        exact lW_days G hL hxs (by omega) hC hM hI hfin
      · refine pt_tin (t := 677) (off := 645) eW_law_32 ⟨by decide, by decide⟩ (by decide) (by decide) rfl (by decide) ?_
        exact lW_look G hL hxs (by omega) hC hM hI hfin
      · refine pt_tin (t := 690) (off := 658) eW_law_32 ⟨by decide, by decide⟩ (by decide) (by decide) rfl (by decide) ?_
        exact lW_gave G hL hxs (by omega) hC hM hI hfin
      · refine pt_tin (t := 723) (off := 691) eW_law_32 ⟨by decide, by decide⟩ (by decide) (by decide) rfl (by decide) ?_
        exact lW_laws G hL hxs (by omega) hC hM hI hfin
      · refine pt_tin (t := 746) (off := 714) eW_law_32 ⟨by decide, by decide⟩ (by decide) (by decide) rfl (by decide) ?_
        exact lW_forget G hL hxs (by omega) hC hM hI hfin
      · refine pt_tin (t := 759) (off := 727) eW_law_32 ⟨by decide, by decide⟩ (by decide) (by decide) rfl (by decide) ?_
        exact lW_mark G hL hxs (by omega) hC hM hI hfin
      · refine pt_tin (t := 792) (off := 760) eW_law_32 ⟨by decide, by decide⟩ (by decide) (by decide) rfl (by decide) ?_
        exact lW_keep G hL hxs (by omega) hC hM hI hfin
      · refine pt_tin (t := 815) (off := 783) eW_law_32 ⟨by decide, by decide⟩ (by decide) (by decide) rfl (by decide) ?_
        exact lW_back G hL hxs (by omega) hC hM hI hfin
      · refine pt_tin (t := 838) (off := 806) eW_law_32 ⟨by decide, by decide⟩ (by decide) (by decide) rfl (by decide) ?_
        exact lW_count G hL hxs (by omega) hC hM hI hfin
      · refine pt_tin (t := 861) (off := 829) eW_law_32 ⟨by decide, by decide⟩ (by decide) (by decide) rfl (by decide) ?_
        exact lW_trace G hL hxs (by omega) hC hM hI hfin
      · refine pt_tout (t := 875) eW_law_32 ⟨by omega, by omega⟩ (Or.inr hsw) (by decide) ?_
        exact hfin hp ⟨to, dr, q, v, hC, hM, hI⟩
