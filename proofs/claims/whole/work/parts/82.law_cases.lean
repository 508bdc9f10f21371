set_option maxHeartbeats 4000000 in
set_option maxRecDepth 100000 in
theorem lc_shop {p : Program} {l : Launch} {e : Env} {s : State} {m : MethodId} {below : List Frame} {meth : Method} {c : Code} {b L : Nat} {xs : Nat → Int32} {D : va_G} {κ : Kp} {ad ad2 : Nat → Nat} (C : Mc p s m #[Value.ref b] meth c code 4 ret wsL_law RL D κ (fun q : Nat => s.heap.size ≤ q)) (hX : va_X b L xs s s.heap) (hbl : b < s.heap.size) (Q : State → Prop) (x3 : Int32) (h0 : vp_in x3 L) (h1 : vp_in (x3 + 1) L) (h2 : vp_in (x3 + 2) L) (h3 : vp_in (x3 + 3) L) (h4 : vp_in (x3 + 4) L) (h5 : vp_in (x3 + 5) L) (hk : ∀ (σ μ : Sg) (H : Heap) (locs : List Loc) (ls : Array Slot), W2 D (fun q : Nat => s.heap.size ≤ q) s.heap H locs (wsX κ ad) (wsM κ ad2) σ μ → Inv σ μ → lv_has ls 4 [(0, .ref b), (1, .ref (ad 0)), (2, .ref (ad2 0)), (3, .int x3)] → W p l e room_1 s m #[Value.ref b] below meth c H locs 40 738 Q (F0 m 1197 ls [])) (σ μ : Sg) (H : Heap) (locs : List Loc) (ls : Array Slot) (h : W2 D (fun q : Nat => s.heap.size ≤ q) s.heap H locs (wsX κ ad) (wsM κ ad2) σ μ) (hI : Inv σ μ) (hl : lv_has ls 4 [(0, .ref b), (1, .ref (ad 0)), (2, .ref (ad2 0)), (3, .int x3)]) : W p l e room_1 s m #[Value.ref b] below meth c H locs 40 738 Q (F0 m 180 ls []) := by
  obtain ⟨hx, hb, hml, hr, hlk, hown, hts, hK, hA, hZ⟩ := id C
  have hbA : ¬ (fun q : Nat => s.heap.size ≤ q) b := Nat.not_le.mpr hbl
  obtain ⟨r, τ, ν, e1, e2, hI2⟩ := E_shop hI (xs (x3 + 1).toNatClampNeg) (xs (x3 + 2).toNatClampNeg) (xs (x3 + 3).toNatClampNeg) (xs (x3 + 4).toNatClampNeg)
  refine lv_aload_n hx hb dL_law_180 rfl (lv_at hl 1 rfl) ?_
  refine lv_aload_n hx hb dL_law_181 rfl (lv_at hl 0 rfl) ?_
  refine lv_iload_n hx hb dL_law_182 rfl (lv_at hl 3 rfl) ?_
  refine lv_iconst (v := 1) hx hb dL_law_183 (by decide) ?_
  refine lv_iadd hx hb dL_law_184 ?_
  refine va_sld hx hb hX hbl hbA h.2.2.2.2.2 h1 dL_law_185 ?_
  refine lv_aload_n hx hb dL_law_186 rfl (lv_at hl 0 rfl) ?_
  refine lv_iload_n hx hb dL_law_187 rfl (lv_at hl 3 rfl) ?_
  refine lv_iconst (v := 2) hx hb dL_law_188 (by decide) ?_
  refine lv_iadd hx hb dL_law_189 ?_
  refine va_sld hx hb hX hbl hbA h.2.2.2.2.2 h2 dL_law_190 ?_
  refine lv_aload_n hx hb dL_law_191 rfl (lv_at hl 0 rfl) ?_
  refine lv_iload_n hx hb dL_law_192 rfl (lv_at hl 3 rfl) ?_
  refine lv_iconst (v := 3) hx hb dL_law_193 (by decide) ?_
  refine lv_iadd hx hb dL_law_194 ?_
  refine va_sld hx hb hX hbl hbA h.2.2.2.2.2 h3 dL_law_195 ?_
  refine lv_aload_n hx hb dL_law_196 rfl (lv_at hl 0 rfl) ?_
  refine lv_iload_n hx hb dL_law_197 rfl (lv_at hl 3 rfl) ?_
  refine lv_iconst (v := 4) hx hb dL_law_198 (by decide) ?_
  refine lv_iadd hx hb dL_law_199 ?_
  refine va_sld hx hb hX hbl hbA h.2.2.2.2.2 h4 dL_law_200 ?_
  refine y_vi (As := [.int (xs (x3 + 1).toNatClampNeg), .int (xs (x3 + 2).toNatClampNeg), .int (xs (x3 + 3).toNatClampNeg), .int (xs (x3 + 4).toNatClampNeg)]) (rest := []) C h (gX_BM κ ad σ) rfl (kX6_shop l D κ ad (xs (x3 + 1).toNatClampNeg) (xs (x3 + 2).toNatClampNeg) (xs (x3 + 3).toNatClampNeg) (xs (x3 + 4).toNatClampNeg) σ (r := r) (τ := τ) e1) (fun hts => cwV 4 hts gL_law_X6_shop rfl rfl rfl (by decide +kernel) ⟨Nat.le_of_ble_eq_true rfl, Nat.le_of_ble_eq_true rfl⟩) rfl hl.1 (Nat.le_of_ble_eq_true rfl) rfl dL_law_201 ⟨Nat.le_of_ble_eq_true rfl, Nat.le_of_ble_eq_true rfl⟩ (fun H locs h => ?_)
  refine lv_aload_n hx hb dL_law_204 rfl (lv_at hl 2 rfl) ?_
  refine lv_aload_n hx hb dL_law_205 rfl (lv_at hl 0 rfl) ?_
  refine lv_iload_n hx hb dL_law_206 rfl (lv_at hl 3 rfl) ?_
  refine lv_iconst (v := 1) hx hb dL_law_207 (by decide) ?_
  refine lv_iadd hx hb dL_law_208 ?_
  refine va_sld hx hb hX hbl hbA h.2.2.2.2.2 h1 dL_law_209 ?_
  refine lv_aload_n hx hb dL_law_210 rfl (lv_at hl 0 rfl) ?_
  refine lv_iload_n hx hb dL_law_211 rfl (lv_at hl 3 rfl) ?_
  refine lv_iconst (v := 2) hx hb dL_law_212 (by decide) ?_
  refine lv_iadd hx hb dL_law_213 ?_
  refine va_sld hx hb hX hbl hbA h.2.2.2.2.2 h2 dL_law_214 ?_
  refine lv_aload_n hx hb dL_law_215 rfl (lv_at hl 0 rfl) ?_
  refine lv_iload_n hx hb dL_law_216 rfl (lv_at hl 3 rfl) ?_
  refine lv_iconst (v := 3) hx hb dL_law_217 (by decide) ?_
  refine lv_iadd hx hb dL_law_218 ?_
  refine va_sld hx hb hX hbl hbA h.2.2.2.2.2 h3 dL_law_219 ?_
  refine lv_aload_n hx hb dL_law_220 rfl (lv_at hl 0 rfl) ?_
  refine lv_iload_n hx hb dL_law_221 rfl (lv_at hl 3 rfl) ?_
  refine lv_iconst (v := 4) hx hb dL_law_222 (by decide) ?_
  refine lv_iadd hx hb dL_law_223 ?_
  refine va_sld hx hb hX hbl hbA h.2.2.2.2.2 h4 dL_law_224 ?_
  refine y_vi (As := [.int (xs (x3 + 1).toNatClampNeg), .int (xs (x3 + 2).toNatClampNeg), .int (xs (x3 + 3).toNatClampNeg), .int (xs (x3 + 4).toNatClampNeg)]) (rest := [.int r]) C h.swap (gM_Mo κ ad2 μ) rfl (kX7_shop l D κ ad2 (xs (x3 + 1).toNatClampNeg) (xs (x3 + 2).toNatClampNeg) (xs (x3 + 3).toNatClampNeg) (xs (x3 + 4).toNatClampNeg) μ (r := r) (τ := ν) e2) (fun hts => cwV 4 hts gL_law_X7_shop rfl rfl rfl (by decide +kernel) ⟨Nat.le_of_ble_eq_true rfl, Nat.le_of_ble_eq_true rfl⟩) rfl hl.1 (Nat.le_of_ble_eq_true rfl) rfl dL_law_225 ⟨Nat.le_of_ble_eq_true rfl, Nat.le_of_ble_eq_true rfl⟩ (fun H locs h => ?_)
  have h := h.swap
  refine lv_icmp_eq (tgt := 1197) hx hb dL_law_228 (by decide) (fun c9 => ?_) (fun c9 => absurd rfl c9)
  exact hk τ ν _ _ _ h hI2 hl
set_option maxHeartbeats 4000000 in
set_option maxRecDepth 100000 in
theorem lc_wanted {p : Program} {l : Launch} {e : Env} {s : State} {m : MethodId} {below : List Frame} {meth : Method} {c : Code} {b L : Nat} {xs : Nat → Int32} {D : va_G} {κ : Kp} {ad ad2 : Nat → Nat} (C : Mc p s m #[Value.ref b] meth c code 4 ret wsL_law RL D κ (fun q : Nat => s.heap.size ≤ q)) (hX : va_X b L xs s s.heap) (hbl : b < s.heap.size) (Q : State → Prop) (x3 : Int32) (h0 : vp_in x3 L) (h1 : vp_in (x3 + 1) L) (h2 : vp_in (x3 + 2) L) (h3 : vp_in (x3 + 3) L) (h4 : vp_in (x3 + 4) L) (h5 : vp_in (x3 + 5) L) (hk : ∀ (σ μ : Sg) (H : Heap) (locs : List Loc) (ls : Array Slot), W2 D (fun q : Nat => s.heap.size ≤ q) s.heap H locs (wsX κ ad) (wsM κ ad2) σ μ → Inv σ μ → lv_has ls 4 [(0, .ref b), (1, .ref (ad 0)), (2, .ref (ad2 0)), (3, .int x3)] → W p l e room_1 s m #[Value.ref b] below meth c H locs 40 738 Q (F0 m 1197 ls [])) (σ μ : Sg) (H : Heap) (locs : List Loc) (ls : Array Slot) (h : W2 D (fun q : Nat => s.heap.size ≤ q) s.heap H locs (wsX κ ad) (wsM κ ad2) σ μ) (hI : Inv σ μ) (hl : lv_has ls 4 [(0, .ref b), (1, .ref (ad 0)), (2, .ref (ad2 0)), (3, .int x3)]) : W p l e room_1 s m #[Value.ref b] below meth c H locs 40 738 Q (F0 m 233 ls []) := by
  obtain ⟨hx, hb, hml, hr, hlk, hown, hts, hK, hA, hZ⟩ := id C
  have hbA : ¬ (fun q : Nat => s.heap.size ≤ q) b := Nat.not_le.mpr hbl
  obtain ⟨r, e1, e2⟩ := E_wanted hI (xs (x3 + 1).toNatClampNeg)
  refine lv_aload_n hx hb dL_law_233 rfl (lv_at hl 1 rfl) ?_
  refine lv_aload_n hx hb dL_law_234 rfl (lv_at hl 0 rfl) ?_
  refine lv_iload_n hx hb dL_law_235 rfl (lv_at hl 3 rfl) ?_
  refine lv_iconst (v := 1) hx hb dL_law_236 (by decide) ?_
  refine lv_iadd hx hb dL_law_237 ?_
  refine va_sld hx hb hX hbl hbA h.2.2.2.2.2 h1 dL_law_238 ?_
  refine y_vi (As := [.int (xs (x3 + 1).toNatClampNeg)]) (rest := []) C h (gX_BM κ ad σ) rfl (kX6_wanted l D κ ad (xs (x3 + 1).toNatClampNeg) σ (r := r) e1) (fun hts => cwV 1 hts gL_law_X6_wanted rfl rfl rfl (by decide +kernel) ⟨Nat.le_of_ble_eq_true rfl, Nat.le_of_ble_eq_true rfl⟩) rfl hl.1 (Nat.le_of_ble_eq_true rfl) rfl dL_law_239 ⟨Nat.le_of_ble_eq_true rfl, Nat.le_of_ble_eq_true rfl⟩ (fun H locs h => ?_)
  refine lv_aload_n hx hb dL_law_242 rfl (lv_at hl 2 rfl) ?_
  refine lv_aload_n hx hb dL_law_243 rfl (lv_at hl 0 rfl) ?_
  refine lv_iload_n hx hb dL_law_244 rfl (lv_at hl 3 rfl) ?_
  refine lv_iconst (v := 1) hx hb dL_law_245 (by decide) ?_
  refine lv_iadd hx hb dL_law_246 ?_
  refine va_sld hx hb hX hbl hbA h.2.2.2.2.2 h1 dL_law_247 ?_
  refine y_vi (As := [.int (xs (x3 + 1).toNatClampNeg)]) (rest := [.int r]) C h.swap (gM_Mo κ ad2 μ) rfl (kX7_wanted l D κ ad2 (xs (x3 + 1).toNatClampNeg) μ (r := r) e2) (fun hts => cwV 1 hts gL_law_X7_wanted rfl rfl rfl (by decide +kernel) ⟨Nat.le_of_ble_eq_true rfl, Nat.le_of_ble_eq_true rfl⟩) rfl hl.1 (Nat.le_of_ble_eq_true rfl) rfl dL_law_248 ⟨Nat.le_of_ble_eq_true rfl, Nat.le_of_ble_eq_true rfl⟩ (fun H locs h => ?_)
  have h := h.swap
  refine lv_icmp_eq (tgt := 1197) hx hb dL_law_251 (by decide) (fun c9 => ?_) (fun c9 => absurd rfl c9)
  exact hk σ μ _ _ _ h hI hl
set_option maxHeartbeats 4000000 in
set_option maxRecDepth 100000 in
theorem lc_seen {p : Program} {l : Launch} {e : Env} {s : State} {m : MethodId} {below : List Frame} {meth : Method} {c : Code} {b L : Nat} {xs : Nat → Int32} {D : va_G} {κ : Kp} {ad ad2 : Nat → Nat} (C : Mc p s m #[Value.ref b] meth c code 4 ret wsL_law RL D κ (fun q : Nat => s.heap.size ≤ q)) (hX : va_X b L xs s s.heap) (hbl : b < s.heap.size) (Q : State → Prop) (x3 : Int32) (h0 : vp_in x3 L) (h1 : vp_in (x3 + 1) L) (h2 : vp_in (x3 + 2) L) (h3 : vp_in (x3 + 3) L) (h4 : vp_in (x3 + 4) L) (h5 : vp_in (x3 + 5) L) (hk : ∀ (σ μ : Sg) (H : Heap) (locs : List Loc) (ls : Array Slot), W2 D (fun q : Nat => s.heap.size ≤ q) s.heap H locs (wsX κ ad) (wsM κ ad2) σ μ → Inv σ μ → lv_has ls 4 [(0, .ref b), (1, .ref (ad 0)), (2, .ref (ad2 0)), (3, .int x3)] → W p l e room_1 s m #[Value.ref b] below meth c H locs 40 738 Q (F0 m 1197 ls [])) (σ μ : Sg) (H : Heap) (locs : List Loc) (ls : Array Slot) (h : W2 D (fun q : Nat => s.heap.size ≤ q) s.heap H locs (wsX κ ad) (wsM κ ad2) σ μ) (hI : Inv σ μ) (hl : lv_has ls 4 [(0, .ref b), (1, .ref (ad 0)), (2, .ref (ad2 0)), (3, .int x3)]) : W p l e room_1 s m #[Value.ref b] below meth c H locs 40 738 Q (F0 m 256 ls []) := by
  obtain ⟨hx, hb, hml, hr, hlk, hown, hts, hK, hA, hZ⟩ := id C
  have hbA : ¬ (fun q : Nat => s.heap.size ≤ q) b := Nat.not_le.mpr hbl
  obtain ⟨r, e1, e2⟩ := E_seen hI (xs (x3 + 1).toNatClampNeg)
  refine lv_aload_n hx hb dL_law_256 rfl (lv_at hl 1 rfl) ?_
  refine lv_aload_n hx hb dL_law_257 rfl (lv_at hl 0 rfl) ?_
  refine lv_iload_n hx hb dL_law_258 rfl (lv_at hl 3 rfl) ?_
  refine lv_iconst (v := 1) hx hb dL_law_259 (by decide) ?_
  refine lv_iadd hx hb dL_law_260 ?_
  refine va_sld hx hb hX hbl hbA h.2.2.2.2.2 h1 dL_law_261 ?_
  refine y_vi (As := [.int (xs (x3 + 1).toNatClampNeg)]) (rest := []) C h (gX_BM κ ad σ) rfl (kX6_seen l D κ ad (xs (x3 + 1).toNatClampNeg) σ (r := r) e1) (fun hts => cwV 1 hts gL_law_X6_seen rfl rfl rfl (by decide +kernel) ⟨Nat.le_of_ble_eq_true rfl, Nat.le_of_ble_eq_true rfl⟩) rfl hl.1 (Nat.le_of_ble_eq_true rfl) rfl dL_law_262 ⟨Nat.le_of_ble_eq_true rfl, Nat.le_of_ble_eq_true rfl⟩ (fun H locs h => ?_)
  refine lv_aload_n hx hb dL_law_265 rfl (lv_at hl 2 rfl) ?_
  refine lv_aload_n hx hb dL_law_266 rfl (lv_at hl 0 rfl) ?_
  refine lv_iload_n hx hb dL_law_267 rfl (lv_at hl 3 rfl) ?_
  refine lv_iconst (v := 1) hx hb dL_law_268 (by decide) ?_
  refine lv_iadd hx hb dL_law_269 ?_
  refine va_sld hx hb hX hbl hbA h.2.2.2.2.2 h1 dL_law_270 ?_
  refine y_vi (As := [.int (xs (x3 + 1).toNatClampNeg)]) (rest := [.int r]) C h.swap (gM_Mo κ ad2 μ) rfl (kX7_seen l D κ ad2 (xs (x3 + 1).toNatClampNeg) μ (r := r) e2) (fun hts => cwV 1 hts gL_law_X7_seen rfl rfl rfl (by decide +kernel) ⟨Nat.le_of_ble_eq_true rfl, Nat.le_of_ble_eq_true rfl⟩) rfl hl.1 (Nat.le_of_ble_eq_true rfl) rfl dL_law_271 ⟨Nat.le_of_ble_eq_true rfl, Nat.le_of_ble_eq_true rfl⟩ (fun H locs h => ?_)
  have h := h.swap
  refine lv_icmp_eq (tgt := 1197) hx hb dL_law_274 (by decide) (fun c9 => ?_) (fun c9 => absurd rfl c9)
  exact hk σ μ _ _ _ h hI hl
set_option maxHeartbeats 4000000 in
set_option maxRecDepth 100000 in
theorem lc_ofTube {p : Program} {l : Launch} {e : Env} {s : State} {m : MethodId} {below : List Frame} {meth : Method} {c : Code} {b L : Nat} {xs : Nat → Int32} {D : va_G} {κ : Kp} {ad ad2 : Nat → Nat} (C : Mc p s m #[Value.ref b] meth c code 4 ret wsL_law RL D κ (fun q : Nat => s.heap.size ≤ q)) (hX : va_X b L xs s s.heap) (hbl : b < s.heap.size) (Q : State → Prop) (x3 : Int32) (h0 : vp_in x3 L) (h1 : vp_in (x3 + 1) L) (h2 : vp_in (x3 + 2) L) (h3 : vp_in (x3 + 3) L) (h4 : vp_in (x3 + 4) L) (h5 : vp_in (x3 + 5) L) (hk : ∀ (σ μ : Sg) (H : Heap) (locs : List Loc) (ls : Array Slot), W2 D (fun q : Nat => s.heap.size ≤ q) s.heap H locs (wsX κ ad) (wsM κ ad2) σ μ → Inv σ μ → lv_has ls 4 [(0, .ref b), (1, .ref (ad 0)), (2, .ref (ad2 0)), (3, .int x3)] → W p l e room_1 s m #[Value.ref b] below meth c H locs 40 738 Q (F0 m 1197 ls [])) (σ μ : Sg) (H : Heap) (locs : List Loc) (ls : Array Slot) (h : W2 D (fun q : Nat => s.heap.size ≤ q) s.heap H locs (wsX κ ad) (wsM κ ad2) σ μ) (hI : Inv σ μ) (hl : lv_has ls 4 [(0, .ref b), (1, .ref (ad 0)), (2, .ref (ad2 0)), (3, .int x3)]) : W p l e room_1 s m #[Value.ref b] below meth c H locs 40 738 Q (F0 m 279 ls []) := by
  obtain ⟨hx, hb, hml, hr, hlk, hown, hts, hK, hA, hZ⟩ := id C
  have hbA : ¬ (fun q : Nat => s.heap.size ≤ q) b := Nat.not_le.mpr hbl
  obtain ⟨r, e1, e2⟩ := E_ofTube hI (xs (x3 + 1).toNatClampNeg) (xs (x3 + 2).toNatClampNeg)
  refine lv_aload_n hx hb dL_law_279 rfl (lv_at hl 1 rfl) ?_
  refine lv_aload_n hx hb dL_law_280 rfl (lv_at hl 0 rfl) ?_
  refine lv_iload_n hx hb dL_law_281 rfl (lv_at hl 3 rfl) ?_
  refine lv_iconst (v := 1) hx hb dL_law_282 (by decide) ?_
  refine lv_iadd hx hb dL_law_283 ?_
  refine va_sld hx hb hX hbl hbA h.2.2.2.2.2 h1 dL_law_284 ?_
  refine lv_aload_n hx hb dL_law_285 rfl (lv_at hl 0 rfl) ?_
  refine lv_iload_n hx hb dL_law_286 rfl (lv_at hl 3 rfl) ?_
  refine lv_iconst (v := 2) hx hb dL_law_287 (by decide) ?_
  refine lv_iadd hx hb dL_law_288 ?_
  refine va_sld hx hb hX hbl hbA h.2.2.2.2.2 h2 dL_law_289 ?_
  refine y_vi (As := [.int (xs (x3 + 1).toNatClampNeg), .int (xs (x3 + 2).toNatClampNeg)]) (rest := []) C h (gX_BM κ ad σ) rfl (kX6_ofTube l D κ ad (xs (x3 + 1).toNatClampNeg) (xs (x3 + 2).toNatClampNeg) σ (r := r) e1) (fun hts => cwV 2 hts gL_law_X6_ofTube rfl rfl rfl (by decide +kernel) ⟨Nat.le_of_ble_eq_true rfl, Nat.le_of_ble_eq_true rfl⟩) rfl hl.1 (Nat.le_of_ble_eq_true rfl) rfl dL_law_290 ⟨Nat.le_of_ble_eq_true rfl, Nat.le_of_ble_eq_true rfl⟩ (fun H locs h => ?_)
  refine lv_aload_n hx hb dL_law_293 rfl (lv_at hl 2 rfl) ?_
  refine lv_aload_n hx hb dL_law_294 rfl (lv_at hl 0 rfl) ?_
  refine lv_iload_n hx hb dL_law_295 rfl (lv_at hl 3 rfl) ?_
  refine lv_iconst (v := 1) hx hb dL_law_296 (by decide) ?_
  refine lv_iadd hx hb dL_law_297 ?_
  refine va_sld hx hb hX hbl hbA h.2.2.2.2.2 h1 dL_law_298 ?_
  refine lv_aload_n hx hb dL_law_299 rfl (lv_at hl 0 rfl) ?_
  refine lv_iload_n hx hb dL_law_300 rfl (lv_at hl 3 rfl) ?_
  refine lv_iconst (v := 2) hx hb dL_law_301 (by decide) ?_
  refine lv_iadd hx hb dL_law_302 ?_
  refine va_sld hx hb hX hbl hbA h.2.2.2.2.2 h2 dL_law_303 ?_
  refine y_vi (As := [.int (xs (x3 + 1).toNatClampNeg), .int (xs (x3 + 2).toNatClampNeg)]) (rest := [.int r]) C h.swap (gM_Mo κ ad2 μ) rfl (kX7_ofTube l D κ ad2 (xs (x3 + 1).toNatClampNeg) (xs (x3 + 2).toNatClampNeg) μ (r := r) e2) (fun hts => cwV 2 hts gL_law_X7_ofTube rfl rfl rfl (by decide +kernel) ⟨Nat.le_of_ble_eq_true rfl, Nat.le_of_ble_eq_true rfl⟩) rfl hl.1 (Nat.le_of_ble_eq_true rfl) rfl dL_law_304 ⟨Nat.le_of_ble_eq_true rfl, Nat.le_of_ble_eq_true rfl⟩ (fun H locs h => ?_)
  have h := h.swap
  refine lv_icmp_eq (tgt := 1197) hx hb dL_law_307 (by decide) (fun c9 => ?_) (fun c9 => absurd rfl c9)
  exact hk σ μ _ _ _ h hI hl
set_option maxHeartbeats 4000000 in
set_option maxRecDepth 100000 in
theorem lc_remember {p : Program} {l : Launch} {e : Env} {s : State} {m : MethodId} {below : List Frame} {meth : Method} {c : Code} {b L : Nat} {xs : Nat → Int32} {D : va_G} {κ : Kp} {ad ad2 : Nat → Nat} (C : Mc p s m #[Value.ref b] meth c code 4 ret wsL_law RL D κ (fun q : Nat => s.heap.size ≤ q)) (hX : va_X b L xs s s.heap) (hbl : b < s.heap.size) (Q : State → Prop) (x3 : Int32) (h0 : vp_in x3 L) (h1 : vp_in (x3 + 1) L) (h2 : vp_in (x3 + 2) L) (h3 : vp_in (x3 + 3) L) (h4 : vp_in (x3 + 4) L) (h5 : vp_in (x3 + 5) L) (hk : ∀ (σ μ : Sg) (H : Heap) (locs : List Loc) (ls : Array Slot), W2 D (fun q : Nat => s.heap.size ≤ q) s.heap H locs (wsX κ ad) (wsM κ ad2) σ μ → Inv σ μ → lv_has ls 4 [(0, .ref b), (1, .ref (ad 0)), (2, .ref (ad2 0)), (3, .int x3)] → W p l e room_1 s m #[Value.ref b] below meth c H locs 40 738 Q (F0 m 1197 ls [])) (σ μ : Sg) (H : Heap) (locs : List Loc) (ls : Array Slot) (h : W2 D (fun q : Nat => s.heap.size ≤ q) s.heap H locs (wsX κ ad) (wsM κ ad2) σ μ) (hI : Inv σ μ) (hl : lv_has ls 4 [(0, .ref b), (1, .ref (ad 0)), (2, .ref (ad2 0)), (3, .int x3)]) : W p l e room_1 s m #[Value.ref b] below meth c H locs 40 738 Q (F0 m 312 ls []) := by
  obtain ⟨hx, hb, hml, hr, hlk, hown, hts, hK, hA, hZ⟩ := id C
  have hbA : ¬ (fun q : Nat => s.heap.size ≤ q) b := Nat.not_le.mpr hbl
  obtain ⟨r, τ, ν, e1, e2, hI2⟩ := E_remember hI (xs (x3 + 1).toNatClampNeg) (xs (x3 + 2).toNatClampNeg)
  refine lv_aload_n hx hb dL_law_312 rfl (lv_at hl 1 rfl) ?_
  refine lv_aload_n hx hb dL_law_313 rfl (lv_at hl 0 rfl) ?_
  refine lv_iload_n hx hb dL_law_314 rfl (lv_at hl 3 rfl) ?_
  refine lv_iconst (v := 1) hx hb dL_law_315 (by decide) ?_
  refine lv_iadd hx hb dL_law_316 ?_
  refine va_sld hx hb hX hbl hbA h.2.2.2.2.2 h1 dL_law_317 ?_
  refine lv_aload_n hx hb dL_law_318 rfl (lv_at hl 0 rfl) ?_
  refine lv_iload_n hx hb dL_law_319 rfl (lv_at hl 3 rfl) ?_
  refine lv_iconst (v := 2) hx hb dL_law_320 (by decide) ?_
  refine lv_iadd hx hb dL_law_321 ?_
  refine va_sld hx hb hX hbl hbA h.2.2.2.2.2 h2 dL_law_322 ?_
  refine y_vi (As := [.int (xs (x3 + 1).toNatClampNeg), .int (xs (x3 + 2).toNatClampNeg)]) (rest := []) C h (gX_BM κ ad σ) rfl (kX6_remember l D κ ad (xs (x3 + 1).toNatClampNeg) (xs (x3 + 2).toNatClampNeg) σ (r := r) (τ := τ) e1) (fun hts => cwV 2 hts gL_law_X6_remember rfl rfl rfl (by decide +kernel) ⟨Nat.le_of_ble_eq_true rfl, Nat.le_of_ble_eq_true rfl⟩) rfl hl.1 (Nat.le_of_ble_eq_true rfl) rfl dL_law_323 ⟨Nat.le_of_ble_eq_true rfl, Nat.le_of_ble_eq_true rfl⟩ (fun H locs h => ?_)
  refine lv_aload_n hx hb dL_law_326 rfl (lv_at hl 2 rfl) ?_
  refine lv_aload_n hx hb dL_law_327 rfl (lv_at hl 0 rfl) ?_
  refine lv_iload_n hx hb dL_law_328 rfl (lv_at hl 3 rfl) ?_
  refine lv_iconst (v := 1) hx hb dL_law_329 (by decide) ?_
  refine lv_iadd hx hb dL_law_330 ?_
  refine va_sld hx hb hX hbl hbA h.2.2.2.2.2 h1 dL_law_331 ?_
  refine lv_aload_n hx hb dL_law_332 rfl (lv_at hl 0 rfl) ?_
  refine lv_iload_n hx hb dL_law_333 rfl (lv_at hl 3 rfl) ?_
  refine lv_iconst (v := 2) hx hb dL_law_334 (by decide) ?_
  refine lv_iadd hx hb dL_law_335 ?_
  refine va_sld hx hb hX hbl hbA h.2.2.2.2.2 h2 dL_law_336 ?_
  refine y_vi (As := [.int (xs (x3 + 1).toNatClampNeg), .int (xs (x3 + 2).toNatClampNeg)]) (rest := [.int r]) C h.swap (gM_Mo κ ad2 μ) rfl (kX7_remember l D κ ad2 (xs (x3 + 1).toNatClampNeg) (xs (x3 + 2).toNatClampNeg) μ (r := r) (τ := ν) e2) (fun hts => cwV 2 hts gL_law_X7_remember rfl rfl rfl (by decide +kernel) ⟨Nat.le_of_ble_eq_true rfl, Nat.le_of_ble_eq_true rfl⟩) rfl hl.1 (Nat.le_of_ble_eq_true rfl) rfl dL_law_337 ⟨Nat.le_of_ble_eq_true rfl, Nat.le_of_ble_eq_true rfl⟩ (fun H locs h => ?_)
  have h := h.swap
  refine lv_icmp_eq (tgt := 1197) hx hb dL_law_340 (by decide) (fun c9 => ?_) (fun c9 => absurd rfl c9)
  exact hk τ ν _ _ _ h hI2 hl
set_option maxHeartbeats 4000000 in
set_option maxRecDepth 100000 in
theorem lc_near {p : Program} {l : Launch} {e : Env} {s : State} {m : MethodId} {below : List Frame} {meth : Method} {c : Code} {b L : Nat} {xs : Nat → Int32} {D : va_G} {κ : Kp} {ad ad2 : Nat → Nat} (C : Mc p s m #[Value.ref b] meth c code 4 ret wsL_law RL D κ (fun q : Nat => s.heap.size ≤ q)) (hX : va_X b L xs s s.heap) (hbl : b < s.heap.size) (Q : State → Prop) (x3 : Int32) (h0 : vp_in x3 L) (h1 : vp_in (x3 + 1) L) (h2 : vp_in (x3 + 2) L) (h3 : vp_in (x3 + 3) L) (h4 : vp_in (x3 + 4) L) (h5 : vp_in (x3 + 5) L) (hk : ∀ (σ μ : Sg) (H : Heap) (locs : List Loc) (ls : Array Slot), W2 D (fun q : Nat => s.heap.size ≤ q) s.heap H locs (wsX κ ad) (wsM κ ad2) σ μ → Inv σ μ → lv_has ls 4 [(0, .ref b), (1, .ref (ad 0)), (2, .ref (ad2 0)), (3, .int x3)] → W p l e room_1 s m #[Value.ref b] below meth c H locs 40 738 Q (F0 m 1197 ls [])) (σ μ : Sg) (H : Heap) (locs : List Loc) (ls : Array Slot) (h : W2 D (fun q : Nat => s.heap.size ≤ q) s.heap H locs (wsX κ ad) (wsM κ ad2) σ μ) (hI : Inv σ μ) (hl : lv_has ls 4 [(0, .ref b), (1, .ref (ad 0)), (2, .ref (ad2 0)), (3, .int x3)]) : W p l e room_1 s m #[Value.ref b] below meth c H locs 40 738 Q (F0 m 345 ls []) := by
  obtain ⟨hx, hb, hml, hr, hlk, hown, hts, hK, hA, hZ⟩ := id C
  have hbA : ¬ (fun q : Nat => s.heap.size ≤ q) b := Nat.not_le.mpr hbl
  obtain ⟨r, τ, ν, e1, e2, hI2⟩ := E_near hI (xs (x3 + 1).toNatClampNeg)
  refine lv_aload_n hx hb dL_law_345 rfl (lv_at hl 1 rfl) ?_
  refine lv_aload_n hx hb dL_law_346 rfl (lv_at hl 0 rfl) ?_
  refine lv_iload_n hx hb dL_law_347 rfl (lv_at hl 3 rfl) ?_
  refine lv_iconst (v := 1) hx hb dL_law_348 (by decide) ?_
  refine lv_iadd hx hb dL_law_349 ?_
  refine va_sld hx hb hX hbl hbA h.2.2.2.2.2 h1 dL_law_350 ?_
  refine y_vi (As := [.int (xs (x3 + 1).toNatClampNeg)]) (rest := []) C h (gX_BM κ ad σ) rfl (kX6_near l D κ ad (xs (x3 + 1).toNatClampNeg) σ (r := r) (τ := τ) e1) (fun hts => cwV 1 hts gL_law_X6_near rfl rfl rfl (by decide +kernel) ⟨Nat.le_of_ble_eq_true rfl, Nat.le_of_ble_eq_true rfl⟩) rfl hl.1 (Nat.le_of_ble_eq_true rfl) rfl dL_law_351 ⟨Nat.le_of_ble_eq_true rfl, Nat.le_of_ble_eq_true rfl⟩ (fun H locs h => ?_)
  refine lv_aload_n hx hb dL_law_354 rfl (lv_at hl 2 rfl) ?_
  refine lv_aload_n hx hb dL_law_355 rfl (lv_at hl 0 rfl) ?_
  refine lv_iload_n hx hb dL_law_356 rfl (lv_at hl 3 rfl) ?_
  refine lv_iconst (v := 1) hx hb dL_law_357 (by decide) ?_
  refine lv_iadd hx hb dL_law_358 ?_
  refine va_sld hx hb hX hbl hbA h.2.2.2.2.2 h1 dL_law_359 ?_
  refine y_vi (As := [.int (xs (x3 + 1).toNatClampNeg)]) (rest := [.int r]) C h.swap (gM_Mo κ ad2 μ) rfl (kX7_near l D κ ad2 (xs (x3 + 1).toNatClampNeg) μ (r := r) (τ := ν) e2) (fun hts => cwV 1 hts gL_law_X7_near rfl rfl rfl (by decide +kernel) ⟨Nat.le_of_ble_eq_true rfl, Nat.le_of_ble_eq_true rfl⟩) rfl hl.1 (Nat.le_of_ble_eq_true rfl) rfl dL_law_360 ⟨Nat.le_of_ble_eq_true rfl, Nat.le_of_ble_eq_true rfl⟩ (fun H locs h => ?_)
  have h := h.swap
  refine lv_icmp_eq (tgt := 1197) hx hb dL_law_363 (by decide) (fun c9 => ?_) (fun c9 => absurd rfl c9)
  exact hk τ ν _ _ _ h hI2 hl
set_option maxHeartbeats 4000000 in
set_option maxRecDepth 100000 in
theorem lc_stock {p : Program} {l : Launch} {e : Env} {s : State} {m : MethodId} {below : List Frame} {meth : Method} {c : Code} {b L : Nat} {xs : Nat → Int32} {D : va_G} {κ : Kp} {ad ad2 : Nat → Nat} (C : Mc p s m #[Value.ref b] meth c code 4 ret wsL_law RL D κ (fun q : Nat => s.heap.size ≤ q)) (hX : va_X b L xs s s.heap) (hbl : b < s.heap.size) (Q : State → Prop) (x3 : Int32) (h0 : vp_in x3 L) (h1 : vp_in (x3 + 1) L) (h2 : vp_in (x3 + 2) L) (h3 : vp_in (x3 + 3) L) (h4 : vp_in (x3 + 4) L) (h5 : vp_in (x3 + 5) L) (hk : ∀ (σ μ : Sg) (H : Heap) (locs : List Loc) (ls : Array Slot), W2 D (fun q : Nat => s.heap.size ≤ q) s.heap H locs (wsX κ ad) (wsM κ ad2) σ μ → Inv σ μ → lv_has ls 4 [(0, .ref b), (1, .ref (ad 0)), (2, .ref (ad2 0)), (3, .int x3)] → W p l e room_1 s m #[Value.ref b] below meth c H locs 40 738 Q (F0 m 1197 ls [])) (σ μ : Sg) (H : Heap) (locs : List Loc) (ls : Array Slot) (h : W2 D (fun q : Nat => s.heap.size ≤ q) s.heap H locs (wsX κ ad) (wsM κ ad2) σ μ) (hI : Inv σ μ) (hl : lv_has ls 4 [(0, .ref b), (1, .ref (ad 0)), (2, .ref (ad2 0)), (3, .int x3)]) : W p l e room_1 s m #[Value.ref b] below meth c H locs 40 738 Q (F0 m 368 ls []) := by
  obtain ⟨hx, hb, hml, hr, hlk, hown, hts, hK, hA, hZ⟩ := id C
  have hbA : ¬ (fun q : Nat => s.heap.size ≤ q) b := Nat.not_le.mpr hbl
  obtain ⟨r, τ, ν, e1, e2, hI2⟩ := E_stock hI (xs (x3 + 1).toNatClampNeg) (xs (x3 + 2).toNatClampNeg)
  refine lv_aload_n hx hb dL_law_368 rfl (lv_at hl 1 rfl) ?_
  refine lv_aload_n hx hb dL_law_369 rfl (lv_at hl 0 rfl) ?_
  refine lv_iload_n hx hb dL_law_370 rfl (lv_at hl 3 rfl) ?_
  refine lv_iconst (v := 1) hx hb dL_law_371 (by decide) ?_
  refine lv_iadd hx hb dL_law_372 ?_
  refine va_sld hx hb hX hbl hbA h.2.2.2.2.2 h1 dL_law_373 ?_
  refine lv_aload_n hx hb dL_law_374 rfl (lv_at hl 0 rfl) ?_
  refine lv_iload_n hx hb dL_law_375 rfl (lv_at hl 3 rfl) ?_
  refine lv_iconst (v := 2) hx hb dL_law_376 (by decide) ?_
  refine lv_iadd hx hb dL_law_377 ?_
  refine va_sld hx hb hX hbl hbA h.2.2.2.2.2 h2 dL_law_378 ?_
  refine y_vi (As := [.int (xs (x3 + 1).toNatClampNeg), .int (xs (x3 + 2).toNatClampNeg)]) (rest := []) C h (gX_BM κ ad σ) rfl (kX6_stock l D κ ad (xs (x3 + 1).toNatClampNeg) (xs (x3 + 2).toNatClampNeg) σ (r := r) (τ := τ) e1) (fun hts => cwV 2 hts gL_law_X6_stock rfl rfl rfl (by decide +kernel) ⟨Nat.le_of_ble_eq_true rfl, Nat.le_of_ble_eq_true rfl⟩) rfl hl.1 (Nat.le_of_ble_eq_true rfl) rfl dL_law_379 ⟨Nat.le_of_ble_eq_true rfl, Nat.le_of_ble_eq_true rfl⟩ (fun H locs h => ?_)
  refine lv_aload_n hx hb dL_law_382 rfl (lv_at hl 2 rfl) ?_
  refine lv_aload_n hx hb dL_law_383 rfl (lv_at hl 0 rfl) ?_
  refine lv_iload_n hx hb dL_law_384 rfl (lv_at hl 3 rfl) ?_
  refine lv_iconst (v := 1) hx hb dL_law_385 (by decide) ?_
  refine lv_iadd hx hb dL_law_386 ?_
  refine va_sld hx hb hX hbl hbA h.2.2.2.2.2 h1 dL_law_387 ?_
  refine lv_aload_n hx hb dL_law_388 rfl (lv_at hl 0 rfl) ?_
  refine lv_iload_n hx hb dL_law_389 rfl (lv_at hl 3 rfl) ?_
  refine lv_iconst (v := 2) hx hb dL_law_390 (by decide) ?_
  refine lv_iadd hx hb dL_law_391 ?_
  refine va_sld hx hb hX hbl hbA h.2.2.2.2.2 h2 dL_law_392 ?_
  refine y_vi (As := [.int (xs (x3 + 1).toNatClampNeg), .int (xs (x3 + 2).toNatClampNeg)]) (rest := [.int r]) C h.swap (gM_Mo κ ad2 μ) rfl (kX7_stock l D κ ad2 (xs (x3 + 1).toNatClampNeg) (xs (x3 + 2).toNatClampNeg) μ (r := r) (τ := ν) e2) (fun hts => cwV 2 hts gL_law_X7_stock rfl rfl rfl (by decide +kernel) ⟨Nat.le_of_ble_eq_true rfl, Nat.le_of_ble_eq_true rfl⟩) rfl hl.1 (Nat.le_of_ble_eq_true rfl) rfl dL_law_393 ⟨Nat.le_of_ble_eq_true rfl, Nat.le_of_ble_eq_true rfl⟩ (fun H locs h => ?_)
  have h := h.swap
  refine lv_icmp_eq (tgt := 1197) hx hb dL_law_396 (by decide) (fun c9 => ?_) (fun c9 => absurd rfl c9)
  exact hk τ ν _ _ _ h hI2 hl
set_option maxHeartbeats 4000000 in
set_option maxRecDepth 100000 in
theorem lc_far {p : Program} {l : Launch} {e : Env} {s : State} {m : MethodId} {below : List Frame} {meth : Method} {c : Code} {b L : Nat} {xs : Nat → Int32} {D : va_G} {κ : Kp} {ad ad2 : Nat → Nat} (C : Mc p s m #[Value.ref b] meth c code 4 ret wsL_law RL D κ (fun q : Nat => s.heap.size ≤ q)) (hX : va_X b L xs s s.heap) (hbl : b < s.heap.size) (Q : State → Prop) (x3 : Int32) (h0 : vp_in x3 L) (h1 : vp_in (x3 + 1) L) (h2 : vp_in (x3 + 2) L) (h3 : vp_in (x3 + 3) L) (h4 : vp_in (x3 + 4) L) (h5 : vp_in (x3 + 5) L) (hk : ∀ (σ μ : Sg) (H : Heap) (locs : List Loc) (ls : Array Slot), W2 D (fun q : Nat => s.heap.size ≤ q) s.heap H locs (wsX κ ad) (wsM κ ad2) σ μ → Inv σ μ → lv_has ls 4 [(0, .ref b), (1, .ref (ad 0)), (2, .ref (ad2 0)), (3, .int x3)] → W p l e room_1 s m #[Value.ref b] below meth c H locs 40 738 Q (F0 m 1197 ls [])) (σ μ : Sg) (H : Heap) (locs : List Loc) (ls : Array Slot) (h : W2 D (fun q : Nat => s.heap.size ≤ q) s.heap H locs (wsX κ ad) (wsM κ ad2) σ μ) (hI : Inv σ μ) (hl : lv_has ls 4 [(0, .ref b), (1, .ref (ad 0)), (2, .ref (ad2 0)), (3, .int x3)]) : W p l e room_1 s m #[Value.ref b] below meth c H locs 40 738 Q (F0 m 401 ls []) := by
  obtain ⟨hx, hb, hml, hr, hlk, hown, hts, hK, hA, hZ⟩ := id C
  have hbA : ¬ (fun q : Nat => s.heap.size ≤ q) b := Nat.not_le.mpr hbl
  obtain ⟨r, e1, e2⟩ := E_far hI (xs (x3 + 1).toNatClampNeg)
  refine lv_aload_n hx hb dL_law_401 rfl (lv_at hl 1 rfl) ?_
  refine lv_aload_n hx hb dL_law_402 rfl (lv_at hl 0 rfl) ?_
  refine lv_iload_n hx hb dL_law_403 rfl (lv_at hl 3 rfl) ?_
  refine lv_iconst (v := 1) hx hb dL_law_404 (by decide) ?_
  refine lv_iadd hx hb dL_law_405 ?_
  refine va_sld hx hb hX hbl hbA h.2.2.2.2.2 h1 dL_law_406 ?_
  refine y_vi (As := [.int (xs (x3 + 1).toNatClampNeg)]) (rest := []) C h (gX_BM κ ad σ) rfl (kX6_far l D κ ad (xs (x3 + 1).toNatClampNeg) σ (r := r) e1) (fun hts => cwV 1 hts gL_law_X6_far rfl rfl rfl (by decide +kernel) ⟨Nat.le_of_ble_eq_true rfl, Nat.le_of_ble_eq_true rfl⟩) rfl hl.1 (Nat.le_of_ble_eq_true rfl) rfl dL_law_407 ⟨Nat.le_of_ble_eq_true rfl, Nat.le_of_ble_eq_true rfl⟩ (fun H locs h => ?_)
  refine lv_aload_n hx hb dL_law_410 rfl (lv_at hl 2 rfl) ?_
  refine lv_aload_n hx hb dL_law_411 rfl (lv_at hl 0 rfl) ?_
  refine lv_iload_n hx hb dL_law_412 rfl (lv_at hl 3 rfl) ?_
  refine lv_iconst (v := 1) hx hb dL_law_413 (by decide) ?_
  refine lv_iadd hx hb dL_law_414 ?_
  refine va_sld hx hb hX hbl hbA h.2.2.2.2.2 h1 dL_law_415 ?_
  refine y_vi (As := [.int (xs (x3 + 1).toNatClampNeg)]) (rest := [.int r]) C h.swap (gM_Mo κ ad2 μ) rfl (kX7_far l D κ ad2 (xs (x3 + 1).toNatClampNeg) μ (r := r) e2) (fun hts => cwV 1 hts gL_law_X7_far rfl rfl rfl (by decide +kernel) ⟨Nat.le_of_ble_eq_true rfl, Nat.le_of_ble_eq_true rfl⟩) rfl hl.1 (Nat.le_of_ble_eq_true rfl) rfl dL_law_416 ⟨Nat.le_of_ble_eq_true rfl, Nat.le_of_ble_eq_true rfl⟩ (fun H locs h => ?_)
  have h := h.swap
  refine lv_icmp_eq (tgt := 1197) hx hb dL_law_419 (by decide) (fun c9 => ?_) (fun c9 => absurd rfl c9)
  exact hk σ μ _ _ _ h hI hl
set_option maxHeartbeats 4000000 in
set_option maxRecDepth 100000 in
theorem lc_search {p : Program} {l : Launch} {e : Env} {s : State} {m : MethodId} {below : List Frame} {meth : Method} {c : Code} {b L : Nat} {xs : Nat → Int32} {D : va_G} {κ : Kp} {ad ad2 : Nat → Nat} (C : Mc p s m #[Value.ref b] meth c code 4 ret wsL_law RL D κ (fun q : Nat => s.heap.size ≤ q)) (hX : va_X b L xs s s.heap) (hbl : b < s.heap.size) (Q : State → Prop) (x3 : Int32) (h0 : vp_in x3 L) (h1 : vp_in (x3 + 1) L) (h2 : vp_in (x3 + 2) L) (h3 : vp_in (x3 + 3) L) (h4 : vp_in (x3 + 4) L) (h5 : vp_in (x3 + 5) L) (hk : ∀ (σ μ : Sg) (H : Heap) (locs : List Loc) (ls : Array Slot), W2 D (fun q : Nat => s.heap.size ≤ q) s.heap H locs (wsX κ ad) (wsM κ ad2) σ μ → Inv σ μ → lv_has ls 4 [(0, .ref b), (1, .ref (ad 0)), (2, .ref (ad2 0)), (3, .int x3)] → W p l e room_1 s m #[Value.ref b] below meth c H locs 40 738 Q (F0 m 1197 ls [])) (σ μ : Sg) (H : Heap) (locs : List Loc) (ls : Array Slot) (h : W2 D (fun q : Nat => s.heap.size ≤ q) s.heap H locs (wsX κ ad) (wsM κ ad2) σ μ) (hI : Inv σ μ) (hl : lv_has ls 4 [(0, .ref b), (1, .ref (ad 0)), (2, .ref (ad2 0)), (3, .int x3)]) : W p l e room_1 s m #[Value.ref b] below meth c H locs 40 738 Q (F0 m 424 ls []) := by
  obtain ⟨hx, hb, hml, hr, hlk, hown, hts, hK, hA, hZ⟩ := id C
  have hbA : ¬ (fun q : Nat => s.heap.size ≤ q) b := Nat.not_le.mpr hbl
  obtain ⟨r, τ, ν, e1, e2, hI2⟩ := E_search hI (xs (x3 + 1).toNatClampNeg) (xs (x3 + 2).toNatClampNeg) (xs (x3 + 3).toNatClampNeg) (xs (x3 + 4).toNatClampNeg) (xs (x3 + 5).toNatClampNeg)
  refine lv_aload_n hx hb dL_law_424 rfl (lv_at hl 1 rfl) ?_
  refine lv_aload_n hx hb dL_law_425 rfl (lv_at hl 0 rfl) ?_
  refine lv_iload_n hx hb dL_law_426 rfl (lv_at hl 3 rfl) ?_
  refine lv_iconst (v := 1) hx hb dL_law_427 (by decide) ?_
  refine lv_iadd hx hb dL_law_428 ?_
  refine va_sld hx hb hX hbl hbA h.2.2.2.2.2 h1 dL_law_429 ?_
  refine lv_aload_n hx hb dL_law_430 rfl (lv_at hl 0 rfl) ?_
  refine lv_iload_n hx hb dL_law_431 rfl (lv_at hl 3 rfl) ?_
  refine lv_iconst (v := 2) hx hb dL_law_432 (by decide) ?_
  refine lv_iadd hx hb dL_law_433 ?_
  refine va_sld hx hb hX hbl hbA h.2.2.2.2.2 h2 dL_law_434 ?_
  refine lv_aload_n hx hb dL_law_435 rfl (lv_at hl 0 rfl) ?_
  refine lv_iload_n hx hb dL_law_436 rfl (lv_at hl 3 rfl) ?_
  refine lv_iconst (v := 3) hx hb dL_law_437 (by decide) ?_
  refine lv_iadd hx hb dL_law_438 ?_
  refine va_sld hx hb hX hbl hbA h.2.2.2.2.2 h3 dL_law_439 ?_
  refine lv_aload_n hx hb dL_law_440 rfl (lv_at hl 0 rfl) ?_
  refine lv_iload_n hx hb dL_law_441 rfl (lv_at hl 3 rfl) ?_
  refine lv_iconst (v := 4) hx hb dL_law_442 (by decide) ?_
  refine lv_iadd hx hb dL_law_443 ?_
  refine va_sld hx hb hX hbl hbA h.2.2.2.2.2 h4 dL_law_444 ?_
  refine lv_aload_n hx hb dL_law_445 rfl (lv_at hl 0 rfl) ?_
  refine lv_iload_n hx hb dL_law_446 rfl (lv_at hl 3 rfl) ?_
  refine lv_iconst (v := 5) hx hb dL_law_447 (by decide) ?_
  refine lv_iadd hx hb dL_law_448 ?_
  refine va_sld hx hb hX hbl hbA h.2.2.2.2.2 h5 dL_law_449 ?_
  refine y_vi (As := [.int (xs (x3 + 1).toNatClampNeg), .int (xs (x3 + 2).toNatClampNeg), .int (xs (x3 + 3).toNatClampNeg), .int (xs (x3 + 4).toNatClampNeg), .int (xs (x3 + 5).toNatClampNeg)]) (rest := []) C h (gX_BM κ ad σ) rfl (kX6_search l D κ ad (xs (x3 + 1).toNatClampNeg) (xs (x3 + 2).toNatClampNeg) (xs (x3 + 3).toNatClampNeg) (xs (x3 + 4).toNatClampNeg) (xs (x3 + 5).toNatClampNeg) σ (r := r) (τ := τ) e1) (fun hts => cwV 5 hts gL_law_X6_search rfl rfl rfl (by decide +kernel) ⟨Nat.le_of_ble_eq_true rfl, Nat.le_of_ble_eq_true rfl⟩) rfl hl.1 (Nat.le_of_ble_eq_true rfl) rfl dL_law_450 ⟨Nat.le_of_ble_eq_true rfl, Nat.le_of_ble_eq_true rfl⟩ (fun H locs h => ?_)
  refine lv_aload_n hx hb dL_law_453 rfl (lv_at hl 2 rfl) ?_
  refine lv_aload_n hx hb dL_law_454 rfl (lv_at hl 0 rfl) ?_
  refine lv_iload_n hx hb dL_law_455 rfl (lv_at hl 3 rfl) ?_
  refine lv_iconst (v := 1) hx hb dL_law_456 (by decide) ?_
  refine lv_iadd hx hb dL_law_457 ?_
  refine va_sld hx hb hX hbl hbA h.2.2.2.2.2 h1 dL_law_458 ?_
  refine lv_aload_n hx hb dL_law_459 rfl (lv_at hl 0 rfl) ?_
  refine lv_iload_n hx hb dL_law_460 rfl (lv_at hl 3 rfl) ?_
  refine lv_iconst (v := 2) hx hb dL_law_461 (by decide) ?_
  refine lv_iadd hx hb dL_law_462 ?_
  refine va_sld hx hb hX hbl hbA h.2.2.2.2.2 h2 dL_law_463 ?_
  refine lv_aload_n hx hb dL_law_464 rfl (lv_at hl 0 rfl) ?_
  refine lv_iload_n hx hb dL_law_465 rfl (lv_at hl 3 rfl) ?_
  refine lv_iconst (v := 3) hx hb dL_law_466 (by decide) ?_
  refine lv_iadd hx hb dL_law_467 ?_
  refine va_sld hx hb hX hbl hbA h.2.2.2.2.2 h3 dL_law_468 ?_
  refine lv_aload_n hx hb dL_law_469 rfl (lv_at hl 0 rfl) ?_
  refine lv_iload_n hx hb dL_law_470 rfl (lv_at hl 3 rfl) ?_
  refine lv_iconst (v := 4) hx hb dL_law_471 (by decide) ?_
  refine lv_iadd hx hb dL_law_472 ?_
  refine va_sld hx hb hX hbl hbA h.2.2.2.2.2 h4 dL_law_473 ?_
  refine lv_aload_n hx hb dL_law_474 rfl (lv_at hl 0 rfl) ?_
  refine lv_iload_n hx hb dL_law_475 rfl (lv_at hl 3 rfl) ?_
  refine lv_iconst (v := 5) hx hb dL_law_476 (by decide) ?_
  refine lv_iadd hx hb dL_law_477 ?_
  refine va_sld hx hb hX hbl hbA h.2.2.2.2.2 h5 dL_law_478 ?_
  refine y_vi (As := [.int (xs (x3 + 1).toNatClampNeg), .int (xs (x3 + 2).toNatClampNeg), .int (xs (x3 + 3).toNatClampNeg), .int (xs (x3 + 4).toNatClampNeg), .int (xs (x3 + 5).toNatClampNeg)]) (rest := [.int r]) C h.swap (gM_Mo κ ad2 μ) rfl (kX7_search l D κ ad2 (xs (x3 + 1).toNatClampNeg) (xs (x3 + 2).toNatClampNeg) (xs (x3 + 3).toNatClampNeg) (xs (x3 + 4).toNatClampNeg) (xs (x3 + 5).toNatClampNeg) μ (r := r) (τ := ν) e2) (fun hts => cwV 5 hts gL_law_X7_search rfl rfl rfl (by decide +kernel) ⟨Nat.le_of_ble_eq_true rfl, Nat.le_of_ble_eq_true rfl⟩) rfl hl.1 (Nat.le_of_ble_eq_true rfl) rfl dL_law_479 ⟨Nat.le_of_ble_eq_true rfl, Nat.le_of_ble_eq_true rfl⟩ (fun H locs h => ?_)
  have h := h.swap
  refine lv_icmp_eq (tgt := 1197) hx hb dL_law_482 (by decide) (fun c9 => ?_) (fun c9 => absurd rfl c9)
  exact hk τ ν _ _ _ h hI2 hl
set_option maxHeartbeats 4000000 in
set_option maxRecDepth 100000 in
theorem lc_sieve {p : Program} {l : Launch} {e : Env} {s : State} {m : MethodId} {below : List Frame} {meth : Method} {c : Code} {b L : Nat} {xs : Nat → Int32} {D : va_G} {κ : Kp} {ad ad2 : Nat → Nat} (C : Mc p s m #[Value.ref b] meth c code 4 ret wsL_law RL D κ (fun q : Nat => s.heap.size ≤ q)) (hX : va_X b L xs s s.heap) (hbl : b < s.heap.size) (Q : State → Prop) (x3 : Int32) (h0 : vp_in x3 L) (h1 : vp_in (x3 + 1) L) (h2 : vp_in (x3 + 2) L) (h3 : vp_in (x3 + 3) L) (h4 : vp_in (x3 + 4) L) (h5 : vp_in (x3 + 5) L) (hk : ∀ (σ μ : Sg) (H : Heap) (locs : List Loc) (ls : Array Slot), W2 D (fun q : Nat => s.heap.size ≤ q) s.heap H locs (wsX κ ad) (wsM κ ad2) σ μ → Inv σ μ → lv_has ls 4 [(0, .ref b), (1, .ref (ad 0)), (2, .ref (ad2 0)), (3, .int x3)] → W p l e room_1 s m #[Value.ref b] below meth c H locs 40 738 Q (F0 m 1197 ls [])) (σ μ : Sg) (H : Heap) (locs : List Loc) (ls : Array Slot) (h : W2 D (fun q : Nat => s.heap.size ≤ q) s.heap H locs (wsX κ ad) (wsM κ ad2) σ μ) (hI : Inv σ μ) (hl : lv_has ls 4 [(0, .ref b), (1, .ref (ad 0)), (2, .ref (ad2 0)), (3, .int x3)]) : W p l e room_1 s m #[Value.ref b] below meth c H locs 40 738 Q (F0 m 487 ls []) := by
  obtain ⟨hx, hb, hml, hr, hlk, hown, hts, hK, hA, hZ⟩ := id C
  have hbA : ¬ (fun q : Nat => s.heap.size ≤ q) b := Nat.not_le.mpr hbl
  obtain ⟨r, τ, ν, e1, e2, hI2⟩ := E_sieve hI (xs (x3 + 1).toNatClampNeg) (xs (x3 + 2).toNatClampNeg) (xs (x3 + 3).toNatClampNeg) (xs (x3 + 4).toNatClampNeg) (xs (x3 + 5).toNatClampNeg)
  refine lv_aload_n hx hb dL_law_487 rfl (lv_at hl 1 rfl) ?_
  refine lv_aload_n hx hb dL_law_488 rfl (lv_at hl 0 rfl) ?_
  refine lv_iload_n hx hb dL_law_489 rfl (lv_at hl 3 rfl) ?_
  refine lv_iconst (v := 1) hx hb dL_law_490 (by decide) ?_
  refine lv_iadd hx hb dL_law_491 ?_
  refine va_sld hx hb hX hbl hbA h.2.2.2.2.2 h1 dL_law_492 ?_
  refine lv_aload_n hx hb dL_law_493 rfl (lv_at hl 0 rfl) ?_
  refine lv_iload_n hx hb dL_law_494 rfl (lv_at hl 3 rfl) ?_
  refine lv_iconst (v := 2) hx hb dL_law_495 (by decide) ?_
  refine lv_iadd hx hb dL_law_496 ?_
  refine va_sld hx hb hX hbl hbA h.2.2.2.2.2 h2 dL_law_497 ?_
  refine lv_aload_n hx hb dL_law_498 rfl (lv_at hl 0 rfl) ?_
  refine lv_iload_n hx hb dL_law_499 rfl (lv_at hl 3 rfl) ?_
  refine lv_iconst (v := 3) hx hb dL_law_500 (by decide) ?_
  refine lv_iadd hx hb dL_law_501 ?_
  refine va_sld hx hb hX hbl hbA h.2.2.2.2.2 h3 dL_law_502 ?_
  refine lv_aload_n hx hb dL_law_503 rfl (lv_at hl 0 rfl) ?_
  refine lv_iload_n hx hb dL_law_504 rfl (lv_at hl 3 rfl) ?_
  refine lv_iconst (v := 4) hx hb dL_law_505 (by decide) ?_
  refine lv_iadd hx hb dL_law_506 ?_
  refine va_sld hx hb hX hbl hbA h.2.2.2.2.2 h4 dL_law_507 ?_
  refine lv_aload_n hx hb dL_law_508 rfl (lv_at hl 0 rfl) ?_
  refine lv_iload_n hx hb dL_law_509 rfl (lv_at hl 3 rfl) ?_
  refine lv_iconst (v := 5) hx hb dL_law_510 (by decide) ?_
  refine lv_iadd hx hb dL_law_511 ?_
  refine va_sld hx hb hX hbl hbA h.2.2.2.2.2 h5 dL_law_512 ?_
  refine y_vi (As := [.int (xs (x3 + 1).toNatClampNeg), .int (xs (x3 + 2).toNatClampNeg), .int (xs (x3 + 3).toNatClampNeg), .int (xs (x3 + 4).toNatClampNeg), .int (xs (x3 + 5).toNatClampNeg)]) (rest := []) C h (gX_BM κ ad σ) rfl (kX6_sieve l D κ ad (xs (x3 + 1).toNatClampNeg) (xs (x3 + 2).toNatClampNeg) (xs (x3 + 3).toNatClampNeg) (xs (x3 + 4).toNatClampNeg) (xs (x3 + 5).toNatClampNeg) σ (r := r) (τ := τ) e1) (fun hts => cwV 5 hts gL_law_X6_sieve rfl rfl rfl (by decide +kernel) ⟨Nat.le_of_ble_eq_true rfl, Nat.le_of_ble_eq_true rfl⟩) rfl hl.1 (Nat.le_of_ble_eq_true rfl) rfl dL_law_513 ⟨Nat.le_of_ble_eq_true rfl, Nat.le_of_ble_eq_true rfl⟩ (fun H locs h => ?_)
  refine lv_aload_n hx hb dL_law_516 rfl (lv_at hl 2 rfl) ?_
  refine lv_aload_n hx hb dL_law_517 rfl (lv_at hl 0 rfl) ?_
  refine lv_iload_n hx hb dL_law_518 rfl (lv_at hl 3 rfl) ?_
  refine lv_iconst (v := 1) hx hb dL_law_519 (by decide) ?_
  refine lv_iadd hx hb dL_law_520 ?_
  refine va_sld hx hb hX hbl hbA h.2.2.2.2.2 h1 dL_law_521 ?_
  refine lv_aload_n hx hb dL_law_522 rfl (lv_at hl 0 rfl) ?_
  refine lv_iload_n hx hb dL_law_523 rfl (lv_at hl 3 rfl) ?_
  refine lv_iconst (v := 2) hx hb dL_law_524 (by decide) ?_
  refine lv_iadd hx hb dL_law_525 ?_
  refine va_sld hx hb hX hbl hbA h.2.2.2.2.2 h2 dL_law_526 ?_
  refine lv_aload_n hx hb dL_law_527 rfl (lv_at hl 0 rfl) ?_
  refine lv_iload_n hx hb dL_law_528 rfl (lv_at hl 3 rfl) ?_
  refine lv_iconst (v := 3) hx hb dL_law_529 (by decide) ?_
  refine lv_iadd hx hb dL_law_530 ?_
  refine va_sld hx hb hX hbl hbA h.2.2.2.2.2 h3 dL_law_531 ?_
  refine lv_aload_n hx hb dL_law_532 rfl (lv_at hl 0 rfl) ?_
  refine lv_iload_n hx hb dL_law_533 rfl (lv_at hl 3 rfl) ?_
  refine lv_iconst (v := 4) hx hb dL_law_534 (by decide) ?_
  refine lv_iadd hx hb dL_law_535 ?_
  refine va_sld hx hb hX hbl hbA h.2.2.2.2.2 h4 dL_law_536 ?_
  refine lv_aload_n hx hb dL_law_537 rfl (lv_at hl 0 rfl) ?_
  refine lv_iload_n hx hb dL_law_538 rfl (lv_at hl 3 rfl) ?_
  refine lv_iconst (v := 5) hx hb dL_law_539 (by decide) ?_
  refine lv_iadd hx hb dL_law_540 ?_
  refine va_sld hx hb hX hbl hbA h.2.2.2.2.2 h5 dL_law_541 ?_
  refine y_vi (As := [.int (xs (x3 + 1).toNatClampNeg), .int (xs (x3 + 2).toNatClampNeg), .int (xs (x3 + 3).toNatClampNeg), .int (xs (x3 + 4).toNatClampNeg), .int (xs (x3 + 5).toNatClampNeg)]) (rest := [.int r]) C h.swap (gM_Mo κ ad2 μ) rfl (kX7_sieve l D κ ad2 (xs (x3 + 1).toNatClampNeg) (xs (x3 + 2).toNatClampNeg) (xs (x3 + 3).toNatClampNeg) (xs (x3 + 4).toNatClampNeg) (xs (x3 + 5).toNatClampNeg) μ (r := r) (τ := ν) e2) (fun hts => cwV 5 hts gL_law_X7_sieve rfl rfl rfl (by decide +kernel) ⟨Nat.le_of_ble_eq_true rfl, Nat.le_of_ble_eq_true rfl⟩) rfl hl.1 (Nat.le_of_ble_eq_true rfl) rfl dL_law_542 ⟨Nat.le_of_ble_eq_true rfl, Nat.le_of_ble_eq_true rfl⟩ (fun H locs h => ?_)
  have h := h.swap
  refine lv_icmp_eq (tgt := 1197) hx hb dL_law_545 (by decide) (fun c9 => ?_) (fun c9 => absurd rfl c9)
  exact hk τ ν _ _ _ h hI2 hl
set_option maxHeartbeats 4000000 in
set_option maxRecDepth 100000 in
theorem lc_quick {p : Program} {l : Launch} {e : Env} {s : State} {m : MethodId} {below : List Frame} {meth : Method} {c : Code} {b L : Nat} {xs : Nat → Int32} {D : va_G} {κ : Kp} {ad ad2 : Nat → Nat} (C : Mc p s m #[Value.ref b] meth c code 4 ret wsL_law RL D κ (fun q : Nat => s.heap.size ≤ q)) (hX : va_X b L xs s s.heap) (hbl : b < s.heap.size) (Q : State → Prop) (x3 : Int32) (h0 : vp_in x3 L) (h1 : vp_in (x3 + 1) L) (h2 : vp_in (x3 + 2) L) (h3 : vp_in (x3 + 3) L) (h4 : vp_in (x3 + 4) L) (h5 : vp_in (x3 + 5) L) (hk : ∀ (σ μ : Sg) (H : Heap) (locs : List Loc) (ls : Array Slot), W2 D (fun q : Nat => s.heap.size ≤ q) s.heap H locs (wsX κ ad) (wsM κ ad2) σ μ → Inv σ μ → lv_has ls 4 [(0, .ref b), (1, .ref (ad 0)), (2, .ref (ad2 0)), (3, .int x3)] → W p l e room_1 s m #[Value.ref b] below meth c H locs 40 738 Q (F0 m 1197 ls [])) (σ μ : Sg) (H : Heap) (locs : List Loc) (ls : Array Slot) (h : W2 D (fun q : Nat => s.heap.size ≤ q) s.heap H locs (wsX κ ad) (wsM κ ad2) σ μ) (hI : Inv σ μ) (hl : lv_has ls 4 [(0, .ref b), (1, .ref (ad 0)), (2, .ref (ad2 0)), (3, .int x3)]) : W p l e room_1 s m #[Value.ref b] below meth c H locs 40 738 Q (F0 m 550 ls []) := by
  obtain ⟨hx, hb, hml, hr, hlk, hown, hts, hK, hA, hZ⟩ := id C
  have hbA : ¬ (fun q : Nat => s.heap.size ≤ q) b := Nat.not_le.mpr hbl
  obtain ⟨r, ν, e1, e2, hI2⟩ := E_quick hI (xs (x3 + 1).toNatClampNeg)
  refine lv_aload_n hx hb dL_law_550 rfl (lv_at hl 1 rfl) ?_
  refine lv_aload_n hx hb dL_law_551 rfl (lv_at hl 0 rfl) ?_
  refine lv_iload_n hx hb dL_law_552 rfl (lv_at hl 3 rfl) ?_
  refine lv_iconst (v := 1) hx hb dL_law_553 (by decide) ?_
  refine lv_iadd hx hb dL_law_554 ?_
  refine va_sld hx hb hX hbl hbA h.2.2.2.2.2 h1 dL_law_555 ?_
  refine y_vi (As := [.int (xs (x3 + 1).toNatClampNeg)]) (rest := []) C h (gX_BM κ ad σ) rfl (kX6_quick l D κ ad (xs (x3 + 1).toNatClampNeg) σ (r := r) e1) (fun hts => cwV 1 hts gL_law_X6_quick rfl rfl rfl (by decide +kernel) ⟨Nat.le_of_ble_eq_true rfl, Nat.le_of_ble_eq_true rfl⟩) rfl hl.1 (Nat.le_of_ble_eq_true rfl) rfl dL_law_556 ⟨Nat.le_of_ble_eq_true rfl, Nat.le_of_ble_eq_true rfl⟩ (fun H locs h => ?_)
  refine lv_aload_n hx hb dL_law_559 rfl (lv_at hl 2 rfl) ?_
  refine lv_aload_n hx hb dL_law_560 rfl (lv_at hl 0 rfl) ?_
  refine lv_iload_n hx hb dL_law_561 rfl (lv_at hl 3 rfl) ?_
  refine lv_iconst (v := 1) hx hb dL_law_562 (by decide) ?_
  refine lv_iadd hx hb dL_law_563 ?_
  refine va_sld hx hb hX hbl hbA h.2.2.2.2.2 h1 dL_law_564 ?_
  refine y_vi (As := [.int (xs (x3 + 1).toNatClampNeg)]) (rest := [.int r]) C h.swap (gM_Mo κ ad2 μ) rfl (kX7_quick l D κ ad2 (xs (x3 + 1).toNatClampNeg) μ (r := r) (τ := ν) e2) (fun hts => cwV 1 hts gL_law_X7_quick rfl rfl rfl (by decide +kernel) ⟨Nat.le_of_ble_eq_true rfl, Nat.le_of_ble_eq_true rfl⟩) rfl hl.1 (Nat.le_of_ble_eq_true rfl) rfl dL_law_565 ⟨Nat.le_of_ble_eq_true rfl, Nat.le_of_ble_eq_true rfl⟩ (fun H locs h => ?_)
  have h := h.swap
  refine lv_icmp_eq (tgt := 1197) hx hb dL_law_568 (by decide) (fun c9 => ?_) (fun c9 => absurd rfl c9)
  exact hk σ ν _ _ _ h hI2 hl
set_option maxHeartbeats 4000000 in
set_option maxRecDepth 100000 in
theorem lc_signs {p : Program} {l : Launch} {e : Env} {s : State} {m : MethodId} {below : List Frame} {meth : Method} {c : Code} {b L : Nat} {xs : Nat → Int32} {D : va_G} {κ : Kp} {ad ad2 : Nat → Nat} (C : Mc p s m #[Value.ref b] meth c code 4 ret wsL_law RL D κ (fun q : Nat => s.heap.size ≤ q)) (hX : va_X b L xs s s.heap) (hbl : b < s.heap.size) (Q : State → Prop) (x3 : Int32) (h0 : vp_in x3 L) (h1 : vp_in (x3 + 1) L) (h2 : vp_in (x3 + 2) L) (h3 : vp_in (x3 + 3) L) (h4 : vp_in (x3 + 4) L) (h5 : vp_in (x3 + 5) L) (hk : ∀ (σ μ : Sg) (H : Heap) (locs : List Loc) (ls : Array Slot), W2 D (fun q : Nat => s.heap.size ≤ q) s.heap H locs (wsX κ ad) (wsM κ ad2) σ μ → Inv σ μ → lv_has ls 4 [(0, .ref b), (1, .ref (ad 0)), (2, .ref (ad2 0)), (3, .int x3)] → W p l e room_1 s m #[Value.ref b] below meth c H locs 40 738 Q (F0 m 1197 ls [])) (σ μ : Sg) (H : Heap) (locs : List Loc) (ls : Array Slot) (h : W2 D (fun q : Nat => s.heap.size ≤ q) s.heap H locs (wsX κ ad) (wsM κ ad2) σ μ) (hI : Inv σ μ) (hl : lv_has ls 4 [(0, .ref b), (1, .ref (ad 0)), (2, .ref (ad2 0)), (3, .int x3)]) : W p l e room_1 s m #[Value.ref b] below meth c H locs 40 738 Q (F0 m 573 ls []) := by
  obtain ⟨hx, hb, hml, hr, hlk, hown, hts, hK, hA, hZ⟩ := id C
  have hbA : ¬ (fun q : Nat => s.heap.size ≤ q) b := Nat.not_le.mpr hbl
  obtain ⟨r, ν, e1, e2, hI2⟩ := E_signs hI (xs (x3 + 1).toNatClampNeg)
  refine lv_aload_n hx hb dL_law_573 rfl (lv_at hl 1 rfl) ?_
  refine lv_aload_n hx hb dL_law_574 rfl (lv_at hl 0 rfl) ?_
  refine lv_iload_n hx hb dL_law_575 rfl (lv_at hl 3 rfl) ?_
  refine lv_iconst (v := 1) hx hb dL_law_576 (by decide) ?_
  refine lv_iadd hx hb dL_law_577 ?_
  refine va_sld hx hb hX hbl hbA h.2.2.2.2.2 h1 dL_law_578 ?_
  refine y_vi (As := [.int (xs (x3 + 1).toNatClampNeg)]) (rest := []) C h (gX_BM κ ad σ) rfl (kX6_signs l D κ ad (xs (x3 + 1).toNatClampNeg) σ (r := r) e1) (fun hts => cwV 1 hts gL_law_X6_signs rfl rfl rfl (by decide +kernel) ⟨Nat.le_of_ble_eq_true rfl, Nat.le_of_ble_eq_true rfl⟩) rfl hl.1 (Nat.le_of_ble_eq_true rfl) rfl dL_law_579 ⟨Nat.le_of_ble_eq_true rfl, Nat.le_of_ble_eq_true rfl⟩ (fun H locs h => ?_)
  refine lv_aload_n hx hb dL_law_582 rfl (lv_at hl 2 rfl) ?_
  refine lv_aload_n hx hb dL_law_583 rfl (lv_at hl 0 rfl) ?_
  refine lv_iload_n hx hb dL_law_584 rfl (lv_at hl 3 rfl) ?_
  refine lv_iconst (v := 1) hx hb dL_law_585 (by decide) ?_
  refine lv_iadd hx hb dL_law_586 ?_
  refine va_sld hx hb hX hbl hbA h.2.2.2.2.2 h1 dL_law_587 ?_
  refine y_vi (As := [.int (xs (x3 + 1).toNatClampNeg)]) (rest := [.int r]) C h.swap (gM_Mo κ ad2 μ) rfl (kX7_signs l D κ ad2 (xs (x3 + 1).toNatClampNeg) μ (r := r) (τ := ν) e2) (fun hts => cwV 1 hts gL_law_X7_signs rfl rfl rfl (by decide +kernel) ⟨Nat.le_of_ble_eq_true rfl, Nat.le_of_ble_eq_true rfl⟩) rfl hl.1 (Nat.le_of_ble_eq_true rfl) rfl dL_law_588 ⟨Nat.le_of_ble_eq_true rfl, Nat.le_of_ble_eq_true rfl⟩ (fun H locs h => ?_)
  have h := h.swap
  refine lv_icmp_eq (tgt := 1197) hx hb dL_law_591 (by decide) (fun c9 => ?_) (fun c9 => absurd rfl c9)
  exact hk σ ν _ _ _ h hI2 hl
set_option maxHeartbeats 4000000 in
set_option maxRecDepth 100000 in
theorem lc_sew {p : Program} {l : Launch} {e : Env} {s : State} {m : MethodId} {below : List Frame} {meth : Method} {c : Code} {b L : Nat} {xs : Nat → Int32} {D : va_G} {κ : Kp} {ad ad2 : Nat → Nat} (C : Mc p s m #[Value.ref b] meth c code 4 ret wsL_law RL D κ (fun q : Nat => s.heap.size ≤ q)) (hX : va_X b L xs s s.heap) (hbl : b < s.heap.size) (Q : State → Prop) (x3 : Int32) (h0 : vp_in x3 L) (h1 : vp_in (x3 + 1) L) (h2 : vp_in (x3 + 2) L) (h3 : vp_in (x3 + 3) L) (h4 : vp_in (x3 + 4) L) (h5 : vp_in (x3 + 5) L) (hk : ∀ (σ μ : Sg) (H : Heap) (locs : List Loc) (ls : Array Slot), W2 D (fun q : Nat => s.heap.size ≤ q) s.heap H locs (wsX κ ad) (wsM κ ad2) σ μ → Inv σ μ → lv_has ls 4 [(0, .ref b), (1, .ref (ad 0)), (2, .ref (ad2 0)), (3, .int x3)] → W p l e room_1 s m #[Value.ref b] below meth c H locs 40 738 Q (F0 m 1197 ls [])) (σ μ : Sg) (H : Heap) (locs : List Loc) (ls : Array Slot) (h : W2 D (fun q : Nat => s.heap.size ≤ q) s.heap H locs (wsX κ ad) (wsM κ ad2) σ μ) (hI : Inv σ μ) (hl : lv_has ls 4 [(0, .ref b), (1, .ref (ad 0)), (2, .ref (ad2 0)), (3, .int x3)]) : W p l e room_1 s m #[Value.ref b] below meth c H locs 40 738 Q (F0 m 596 ls []) := by
  obtain ⟨hx, hb, hml, hr, hlk, hown, hts, hK, hA, hZ⟩ := id C
  have hbA : ¬ (fun q : Nat => s.heap.size ≤ q) b := Nat.not_le.mpr hbl
  obtain ⟨r, e1, e2⟩ := E_sew hI (xs (x3 + 1).toNatClampNeg) (xs (x3 + 2).toNatClampNeg)
  refine lv_aload_n hx hb dL_law_596 rfl (lv_at hl 1 rfl) ?_
  refine lv_aload_n hx hb dL_law_597 rfl (lv_at hl 0 rfl) ?_
  refine lv_iload_n hx hb dL_law_598 rfl (lv_at hl 3 rfl) ?_
  refine lv_iconst (v := 1) hx hb dL_law_599 (by decide) ?_
  refine lv_iadd hx hb dL_law_600 ?_
  refine va_sld hx hb hX hbl hbA h.2.2.2.2.2 h1 dL_law_601 ?_
  refine lv_aload_n hx hb dL_law_602 rfl (lv_at hl 0 rfl) ?_
  refine lv_iload_n hx hb dL_law_603 rfl (lv_at hl 3 rfl) ?_
  refine lv_iconst (v := 2) hx hb dL_law_604 (by decide) ?_
  refine lv_iadd hx hb dL_law_605 ?_
  refine va_sld hx hb hX hbl hbA h.2.2.2.2.2 h2 dL_law_606 ?_
  refine y_vi (As := [.int (xs (x3 + 1).toNatClampNeg), .int (xs (x3 + 2).toNatClampNeg)]) (rest := []) C h (gX_BM κ ad σ) rfl (kX6_sew l D κ ad (xs (x3 + 1).toNatClampNeg) (xs (x3 + 2).toNatClampNeg) σ (r := r) e1) (fun hts => cwV 2 hts gL_law_X6_sew rfl rfl rfl (by decide +kernel) ⟨Nat.le_of_ble_eq_true rfl, Nat.le_of_ble_eq_true rfl⟩) rfl hl.1 (Nat.le_of_ble_eq_true rfl) rfl dL_law_607 ⟨Nat.le_of_ble_eq_true rfl, Nat.le_of_ble_eq_true rfl⟩ (fun H locs h => ?_)
  refine lv_aload_n hx hb dL_law_610 rfl (lv_at hl 2 rfl) ?_
  refine lv_aload_n hx hb dL_law_611 rfl (lv_at hl 0 rfl) ?_
  refine lv_iload_n hx hb dL_law_612 rfl (lv_at hl 3 rfl) ?_
  refine lv_iconst (v := 1) hx hb dL_law_613 (by decide) ?_
  refine lv_iadd hx hb dL_law_614 ?_
  refine va_sld hx hb hX hbl hbA h.2.2.2.2.2 h1 dL_law_615 ?_
  refine lv_aload_n hx hb dL_law_616 rfl (lv_at hl 0 rfl) ?_
  refine lv_iload_n hx hb dL_law_617 rfl (lv_at hl 3 rfl) ?_
  refine lv_iconst (v := 2) hx hb dL_law_618 (by decide) ?_
  refine lv_iadd hx hb dL_law_619 ?_
  refine va_sld hx hb hX hbl hbA h.2.2.2.2.2 h2 dL_law_620 ?_
  refine y_vi (As := [.int (xs (x3 + 1).toNatClampNeg), .int (xs (x3 + 2).toNatClampNeg)]) (rest := [.int r]) C h.swap (gM_Mo κ ad2 μ) rfl (kX7_sew l D κ ad2 (xs (x3 + 1).toNatClampNeg) (xs (x3 + 2).toNatClampNeg) μ (r := r) e2) (fun hts => cwV 2 hts gL_law_X7_sew rfl rfl rfl (by decide +kernel) ⟨Nat.le_of_ble_eq_true rfl, Nat.le_of_ble_eq_true rfl⟩) rfl hl.1 (Nat.le_of_ble_eq_true rfl) rfl dL_law_621 ⟨Nat.le_of_ble_eq_true rfl, Nat.le_of_ble_eq_true rfl⟩ (fun H locs h => ?_)
  have h := h.swap
  refine lv_icmp_eq (tgt := 1197) hx hb dL_law_624 (by decide) (fun c9 => ?_) (fun c9 => absurd rfl c9)
  exact hk σ μ _ _ _ h hI hl
set_option maxHeartbeats 4000000 in
set_option maxRecDepth 100000 in
theorem lc_set {p : Program} {l : Launch} {e : Env} {s : State} {m : MethodId} {below : List Frame} {meth : Method} {c : Code} {b L : Nat} {xs : Nat → Int32} {D : va_G} {κ : Kp} {ad ad2 : Nat → Nat} (C : Mc p s m #[Value.ref b] meth c code 4 ret wsL_law RL D κ (fun q : Nat => s.heap.size ≤ q)) (hX : va_X b L xs s s.heap) (hbl : b < s.heap.size) (Q : State → Prop) (x3 : Int32) (h0 : vp_in x3 L) (h1 : vp_in (x3 + 1) L) (h2 : vp_in (x3 + 2) L) (h3 : vp_in (x3 + 3) L) (h4 : vp_in (x3 + 4) L) (h5 : vp_in (x3 + 5) L) (hk : ∀ (σ μ : Sg) (H : Heap) (locs : List Loc) (ls : Array Slot), W2 D (fun q : Nat => s.heap.size ≤ q) s.heap H locs (wsX κ ad) (wsM κ ad2) σ μ → Inv σ μ → lv_has ls 4 [(0, .ref b), (1, .ref (ad 0)), (2, .ref (ad2 0)), (3, .int x3)] → W p l e room_1 s m #[Value.ref b] below meth c H locs 40 738 Q (F0 m 1197 ls [])) (σ μ : Sg) (H : Heap) (locs : List Loc) (ls : Array Slot) (h : W2 D (fun q : Nat => s.heap.size ≤ q) s.heap H locs (wsX κ ad) (wsM κ ad2) σ μ) (hI : Inv σ μ) (hl : lv_has ls 4 [(0, .ref b), (1, .ref (ad 0)), (2, .ref (ad2 0)), (3, .int x3)]) : W p l e room_1 s m #[Value.ref b] below meth c H locs 40 738 Q (F0 m 629 ls []) := by
  obtain ⟨hx, hb, hml, hr, hlk, hown, hts, hK, hA, hZ⟩ := id C
  have hbA : ¬ (fun q : Nat => s.heap.size ≤ q) b := Nat.not_le.mpr hbl
  obtain ⟨r, e1, e2⟩ := E_set hI (xs (x3 + 1).toNatClampNeg)
  refine lv_aload_n hx hb dL_law_629 rfl (lv_at hl 1 rfl) ?_
  refine lv_aload_n hx hb dL_law_630 rfl (lv_at hl 0 rfl) ?_
  refine lv_iload_n hx hb dL_law_631 rfl (lv_at hl 3 rfl) ?_
  refine lv_iconst (v := 1) hx hb dL_law_632 (by decide) ?_
  refine lv_iadd hx hb dL_law_633 ?_
  refine va_sld hx hb hX hbl hbA h.2.2.2.2.2 h1 dL_law_634 ?_
  refine y_vi (As := [.int (xs (x3 + 1).toNatClampNeg)]) (rest := []) C h (gX_BM κ ad σ) rfl (kX6_set l D κ ad (xs (x3 + 1).toNatClampNeg) σ (r := r) e1) (fun hts => cwV 1 hts gL_law_X6_set rfl rfl rfl (by decide +kernel) ⟨Nat.le_of_ble_eq_true rfl, Nat.le_of_ble_eq_true rfl⟩) rfl hl.1 (Nat.le_of_ble_eq_true rfl) rfl dL_law_635 ⟨Nat.le_of_ble_eq_true rfl, Nat.le_of_ble_eq_true rfl⟩ (fun H locs h => ?_)
  refine lv_aload_n hx hb dL_law_638 rfl (lv_at hl 2 rfl) ?_
  refine lv_aload_n hx hb dL_law_639 rfl (lv_at hl 0 rfl) ?_
  refine lv_iload_n hx hb dL_law_640 rfl (lv_at hl 3 rfl) ?_
  refine lv_iconst (v := 1) hx hb dL_law_641 (by decide) ?_
  refine lv_iadd hx hb dL_law_642 ?_
  refine va_sld hx hb hX hbl hbA h.2.2.2.2.2 h1 dL_law_643 ?_
  refine y_vi (As := [.int (xs (x3 + 1).toNatClampNeg)]) (rest := [.int r]) C h.swap (gM_Mo κ ad2 μ) rfl (kX7_set l D κ ad2 (xs (x3 + 1).toNatClampNeg) μ (r := r) e2) (fun hts => cwV 1 hts gL_law_X7_set rfl rfl rfl (by decide +kernel) ⟨Nat.le_of_ble_eq_true rfl, Nat.le_of_ble_eq_true rfl⟩) rfl hl.1 (Nat.le_of_ble_eq_true rfl) rfl dL_law_644 ⟨Nat.le_of_ble_eq_true rfl, Nat.le_of_ble_eq_true rfl⟩ (fun H locs h => ?_)
  have h := h.swap
  refine lv_icmp_eq (tgt := 1197) hx hb dL_law_647 (by decide) (fun c9 => ?_) (fun c9 => absurd rfl c9)
  exact hk σ μ _ _ _ h hI hl
set_option maxHeartbeats 4000000 in
set_option maxRecDepth 100000 in
theorem lc_tin {p : Program} {l : Launch} {e : Env} {s : State} {m : MethodId} {below : List Frame} {meth : Method} {c : Code} {b L : Nat} {xs : Nat → Int32} {D : va_G} {κ : Kp} {ad ad2 : Nat → Nat} (C : Mc p s m #[Value.ref b] meth c code 4 ret wsL_law RL D κ (fun q : Nat => s.heap.size ≤ q)) (hX : va_X b L xs s s.heap) (hbl : b < s.heap.size) (Q : State → Prop) (x3 : Int32) (h0 : vp_in x3 L) (h1 : vp_in (x3 + 1) L) (h2 : vp_in (x3 + 2) L) (h3 : vp_in (x3 + 3) L) (h4 : vp_in (x3 + 4) L) (h5 : vp_in (x3 + 5) L) (hk : ∀ (σ μ : Sg) (H : Heap) (locs : List Loc) (ls : Array Slot), W2 D (fun q : Nat => s.heap.size ≤ q) s.heap H locs (wsX κ ad) (wsM κ ad2) σ μ → Inv σ μ → lv_has ls 4 [(0, .ref b), (1, .ref (ad 0)), (2, .ref (ad2 0)), (3, .int x3)] → W p l e room_1 s m #[Value.ref b] below meth c H locs 40 738 Q (F0 m 1197 ls [])) (σ μ : Sg) (H : Heap) (locs : List Loc) (ls : Array Slot) (h : W2 D (fun q : Nat => s.heap.size ≤ q) s.heap H locs (wsX κ ad) (wsM κ ad2) σ μ) (hI : Inv σ μ) (hl : lv_has ls 4 [(0, .ref b), (1, .ref (ad 0)), (2, .ref (ad2 0)), (3, .int x3)]) : W p l e room_1 s m #[Value.ref b] below meth c H locs 40 738 Q (F0 m 652 ls []) := by
  obtain ⟨hx, hb, hml, hr, hlk, hown, hts, hK, hA, hZ⟩ := id C
  have hbA : ¬ (fun q : Nat => s.heap.size ≤ q) b := Nat.not_le.mpr hbl
  obtain ⟨r, e1, e2⟩ := E_tin hI (xs (x3 + 1).toNatClampNeg) (xs (x3 + 2).toNatClampNeg)
  refine lv_aload_n hx hb dL_law_652 rfl (lv_at hl 1 rfl) ?_
  refine lv_aload_n hx hb dL_law_653 rfl (lv_at hl 0 rfl) ?_
  refine lv_iload_n hx hb dL_law_654 rfl (lv_at hl 3 rfl) ?_
  refine lv_iconst (v := 1) hx hb dL_law_655 (by decide) ?_
  refine lv_iadd hx hb dL_law_656 ?_
  refine va_sld hx hb hX hbl hbA h.2.2.2.2.2 h1 dL_law_657 ?_
  refine lv_aload_n hx hb dL_law_658 rfl (lv_at hl 0 rfl) ?_
  refine lv_iload_n hx hb dL_law_659 rfl (lv_at hl 3 rfl) ?_
  refine lv_iconst (v := 2) hx hb dL_law_660 (by decide) ?_
  refine lv_iadd hx hb dL_law_661 ?_
  refine va_sld hx hb hX hbl hbA h.2.2.2.2.2 h2 dL_law_662 ?_
  refine y_vl (As := [.int (xs (x3 + 1).toNatClampNeg), .int (xs (x3 + 2).toNatClampNeg)]) (rest := []) C h (gX_BM κ ad σ) rfl (kX6_tin l D κ ad (xs (x3 + 1).toNatClampNeg) (xs (x3 + 2).toNatClampNeg) σ (r := r) e1) (fun hts => cwV 2 hts gL_law_X6_tin rfl rfl rfl (by decide +kernel) ⟨Nat.le_of_ble_eq_true rfl, Nat.le_of_ble_eq_true rfl⟩) rfl hl.1 (Nat.le_of_ble_eq_true rfl) rfl dL_law_663 ⟨Nat.le_of_ble_eq_true rfl, Nat.le_of_ble_eq_true rfl⟩ (fun H locs h => ?_)
  refine lv_aload_n hx hb dL_law_666 rfl (lv_at hl 2 rfl) ?_
  refine lv_aload_n hx hb dL_law_667 rfl (lv_at hl 0 rfl) ?_
  refine lv_iload_n hx hb dL_law_668 rfl (lv_at hl 3 rfl) ?_
  refine lv_iconst (v := 1) hx hb dL_law_669 (by decide) ?_
  refine lv_iadd hx hb dL_law_670 ?_
  refine va_sld hx hb hX hbl hbA h.2.2.2.2.2 h1 dL_law_671 ?_
  refine lv_aload_n hx hb dL_law_672 rfl (lv_at hl 0 rfl) ?_
  refine lv_iload_n hx hb dL_law_673 rfl (lv_at hl 3 rfl) ?_
  refine lv_iconst (v := 2) hx hb dL_law_674 (by decide) ?_
  refine lv_iadd hx hb dL_law_675 ?_
  refine va_sld hx hb hX hbl hbA h.2.2.2.2.2 h2 dL_law_676 ?_
  refine y_vl (As := [.int (xs (x3 + 1).toNatClampNeg), .int (xs (x3 + 2).toNatClampNeg)]) (rest := [.long r]) C h.swap (gM_Mo κ ad2 μ) rfl (kX7_tin l D κ ad2 (xs (x3 + 1).toNatClampNeg) (xs (x3 + 2).toNatClampNeg) μ (r := r) e2) (fun hts => cwV 2 hts gL_law_X7_tin rfl rfl rfl (by decide +kernel) ⟨Nat.le_of_ble_eq_true rfl, Nat.le_of_ble_eq_true rfl⟩) rfl hl.1 (Nat.le_of_ble_eq_true rfl) rfl dL_law_677 ⟨Nat.le_of_ble_eq_true rfl, Nat.le_of_ble_eq_true rfl⟩ (fun H locs h => ?_)
  have h := h.swap
  refine W.lcmp hx hb dL_law_680 ?_
  refine lv_if_eq (tgt := 1197) hx hb dL_law_681 (by decide) (fun c9 => ?_) (fun c9 => absurd (lg_cmp_self r) c9)
  exact hk σ μ _ _ _ h hI hl
set_option maxHeartbeats 4000000 in
set_option maxRecDepth 100000 in
theorem lc_half {p : Program} {l : Launch} {e : Env} {s : State} {m : MethodId} {below : List Frame} {meth : Method} {c : Code} {b L : Nat} {xs : Nat → Int32} {D : va_G} {κ : Kp} {ad ad2 : Nat → Nat} (C : Mc p s m #[Value.ref b] meth c code 4 ret wsL_law RL D κ (fun q : Nat => s.heap.size ≤ q)) (hX : va_X b L xs s s.heap) (hbl : b < s.heap.size) (Q : State → Prop) (x3 : Int32) (h0 : vp_in x3 L) (h1 : vp_in (x3 + 1) L) (h2 : vp_in (x3 + 2) L) (h3 : vp_in (x3 + 3) L) (h4 : vp_in (x3 + 4) L) (h5 : vp_in (x3 + 5) L) (hk : ∀ (σ μ : Sg) (H : Heap) (locs : List Loc) (ls : Array Slot), W2 D (fun q : Nat => s.heap.size ≤ q) s.heap H locs (wsX κ ad) (wsM κ ad2) σ μ → Inv σ μ → lv_has ls 4 [(0, .ref b), (1, .ref (ad 0)), (2, .ref (ad2 0)), (3, .int x3)] → W p l e room_1 s m #[Value.ref b] below meth c H locs 40 738 Q (F0 m 1197 ls [])) (σ μ : Sg) (H : Heap) (locs : List Loc) (ls : Array Slot) (h : W2 D (fun q : Nat => s.heap.size ≤ q) s.heap H locs (wsX κ ad) (wsM κ ad2) σ μ) (hI : Inv σ μ) (hl : lv_has ls 4 [(0, .ref b), (1, .ref (ad 0)), (2, .ref (ad2 0)), (3, .int x3)]) : W p l e room_1 s m #[Value.ref b] below meth c H locs 40 738 Q (F0 m 686 ls []) := by
  obtain ⟨hx, hb, hml, hr, hlk, hown, hts, hK, hA, hZ⟩ := id C
  have hbA : ¬ (fun q : Nat => s.heap.size ≤ q) b := Nat.not_le.mpr hbl
  obtain ⟨r, e1, e2⟩ := E_half hI 
  refine lv_aload_n hx hb dL_law_686 rfl (lv_at hl 1 rfl) ?_
  refine y_vi (As := []) (rest := []) C h (gX_BM κ ad σ) rfl (kX6_half l D κ ad  σ (r := r) e1) (fun hts => cwV 0 hts gL_law_X6_half rfl rfl rfl (by decide +kernel) ⟨Nat.le_of_ble_eq_true rfl, Nat.le_of_ble_eq_true rfl⟩) rfl hl.1 (Nat.le_of_ble_eq_true rfl) rfl dL_law_687 ⟨Nat.le_of_ble_eq_true rfl, Nat.le_of_ble_eq_true rfl⟩ (fun H locs h => ?_)
  refine lv_aload_n hx hb dL_law_690 rfl (lv_at hl 2 rfl) ?_
  refine y_vi (As := []) (rest := [.int r]) C h.swap (gM_Mo κ ad2 μ) rfl (kX7_half l D κ ad2  μ (r := r) e2) (fun hts => cwV 0 hts gL_law_X7_half rfl rfl rfl (by decide +kernel) ⟨Nat.le_of_ble_eq_true rfl, Nat.le_of_ble_eq_true rfl⟩) rfl hl.1 (Nat.le_of_ble_eq_true rfl) rfl dL_law_691 ⟨Nat.le_of_ble_eq_true rfl, Nat.le_of_ble_eq_true rfl⟩ (fun H locs h => ?_)
  have h := h.swap
  refine lv_icmp_eq (tgt := 1197) hx hb dL_law_694 (by decide) (fun c9 => ?_) (fun c9 => absurd rfl c9)
  exact hk σ μ _ _ _ h hI hl
set_option maxHeartbeats 4000000 in
set_option maxRecDepth 100000 in
theorem lc_reading {p : Program} {l : Launch} {e : Env} {s : State} {m : MethodId} {below : List Frame} {meth : Method} {c : Code} {b L : Nat} {xs : Nat → Int32} {D : va_G} {κ : Kp} {ad ad2 : Nat → Nat} (C : Mc p s m #[Value.ref b] meth c code 4 ret wsL_law RL D κ (fun q : Nat => s.heap.size ≤ q)) (hX : va_X b L xs s s.heap) (hbl : b < s.heap.size) (Q : State → Prop) (x3 : Int32) (h0 : vp_in x3 L) (h1 : vp_in (x3 + 1) L) (h2 : vp_in (x3 + 2) L) (h3 : vp_in (x3 + 3) L) (h4 : vp_in (x3 + 4) L) (h5 : vp_in (x3 + 5) L) (hk : ∀ (σ μ : Sg) (H : Heap) (locs : List Loc) (ls : Array Slot), W2 D (fun q : Nat => s.heap.size ≤ q) s.heap H locs (wsX κ ad) (wsM κ ad2) σ μ → Inv σ μ → lv_has ls 4 [(0, .ref b), (1, .ref (ad 0)), (2, .ref (ad2 0)), (3, .int x3)] → W p l e room_1 s m #[Value.ref b] below meth c H locs 40 738 Q (F0 m 1197 ls [])) (σ μ : Sg) (H : Heap) (locs : List Loc) (ls : Array Slot) (h : W2 D (fun q : Nat => s.heap.size ≤ q) s.heap H locs (wsX κ ad) (wsM κ ad2) σ μ) (hI : Inv σ μ) (hl : lv_has ls 4 [(0, .ref b), (1, .ref (ad 0)), (2, .ref (ad2 0)), (3, .int x3)]) : W p l e room_1 s m #[Value.ref b] below meth c H locs 40 738 Q (F0 m 699 ls []) := by
  obtain ⟨hx, hb, hml, hr, hlk, hown, hts, hK, hA, hZ⟩ := id C
  have hbA : ¬ (fun q : Nat => s.heap.size ≤ q) b := Nat.not_le.mpr hbl
  by_cases cz : (xs (x3 + 2).toNatClampNeg) = 0
  · obtain ⟨r, τ, ν, e1, e2, hI2⟩ := E_reading hI (xs (x3 + 1).toNatClampNeg) 0 (by decide)
    refine lv_aload_n hx hb dL_law_699 rfl (lv_at hl 1 rfl) ?_
    refine lv_aload_n hx hb dL_law_700 rfl (lv_at hl 0 rfl) ?_
    refine lv_iload_n hx hb dL_law_701 rfl (lv_at hl 3 rfl) ?_
    refine lv_iconst (v := 1) hx hb dL_law_702 (by decide) ?_
    refine lv_iadd hx hb dL_law_703 ?_
    refine va_sld hx hb hX hbl hbA h.2.2.2.2.2 h1 dL_law_704 ?_
    refine lv_aload_n hx hb dL_law_705 rfl (lv_at hl 0 rfl) ?_
    refine lv_iload_n hx hb dL_law_706 rfl (lv_at hl 3 rfl) ?_
    refine lv_iconst (v := 2) hx hb dL_law_707 (by decide) ?_
    refine lv_iadd hx hb dL_law_708 ?_
    refine va_sld hx hb hX hbl hbA h.2.2.2.2.2 h2 dL_law_709 ?_
    refine lv_if_eq (tgt := 717) hx hb dL_law_710 (by decide) (fun c9 => ?_) (fun c9 => absurd cz c9)
    refine lv_iconst (v := 0) hx hb dL_law_717 (by decide) ?_
    refine y_vi (As := [.int (xs (x3 + 1).toNatClampNeg), .int 0]) (rest := []) C h (gX_BM κ ad σ) rfl (kX6_reading l D κ ad (xs (x3 + 1).toNatClampNeg) 0 σ (r := r) (τ := τ) e1) (fun hts => cwV 2 hts gL_law_X6_reading rfl rfl rfl (by decide +kernel) ⟨Nat.le_of_ble_eq_true rfl, Nat.le_of_ble_eq_true rfl⟩) rfl hl.1 (Nat.le_of_ble_eq_true rfl) rfl dL_law_718 ⟨Nat.le_of_ble_eq_true rfl, Nat.le_of_ble_eq_true rfl⟩ (fun H locs h => ?_)
    refine lv_aload_n hx hb dL_law_721 rfl (lv_at hl 2 rfl) ?_
    refine lv_aload_n hx hb dL_law_722 rfl (lv_at hl 0 rfl) ?_
    refine lv_iload_n hx hb dL_law_723 rfl (lv_at hl 3 rfl) ?_
    refine lv_iconst (v := 1) hx hb dL_law_724 (by decide) ?_
    refine lv_iadd hx hb dL_law_725 ?_
    refine va_sld hx hb hX hbl hbA h.2.2.2.2.2 h1 dL_law_726 ?_
    refine lv_aload_n hx hb dL_law_727 rfl (lv_at hl 0 rfl) ?_
    refine lv_iload_n hx hb dL_law_728 rfl (lv_at hl 3 rfl) ?_
    refine lv_iconst (v := 2) hx hb dL_law_729 (by decide) ?_
    refine lv_iadd hx hb dL_law_730 ?_
    refine va_sld hx hb hX hbl hbA h.2.2.2.2.2 h2 dL_law_731 ?_
    refine lv_if_eq (tgt := 739) hx hb dL_law_732 (by decide) (fun c9 => ?_) (fun c9 => absurd cz c9)
    refine lv_iconst (v := 0) hx hb dL_law_739 (by decide) ?_
    refine y_vi (As := [.int (xs (x3 + 1).toNatClampNeg), .int 0]) (rest := [.int r]) C h.swap (gM_Mo κ ad2 μ) rfl (kX7_reading l D κ ad2 (xs (x3 + 1).toNatClampNeg) 0 μ (r := r) (τ := ν) e2) (fun hts => cwV 2 hts gL_law_X7_reading rfl rfl rfl (by decide +kernel) ⟨Nat.le_of_ble_eq_true rfl, Nat.le_of_ble_eq_true rfl⟩) rfl hl.1 (Nat.le_of_ble_eq_true rfl) rfl dL_law_740 ⟨Nat.le_of_ble_eq_true rfl, Nat.le_of_ble_eq_true rfl⟩ (fun H locs h => ?_)
    have h := h.swap
    refine lv_icmp_eq (tgt := 1197) hx hb dL_law_743 (by decide) (fun c9 => ?_) (fun c9 => absurd rfl c9)
    exact hk τ ν _ _ _ h hI2 hl
  · obtain ⟨r, τ, ν, e1, e2, hI2⟩ := E_reading hI (xs (x3 + 1).toNatClampNeg) 1 (by decide)
    refine lv_aload_n hx hb dL_law_699 rfl (lv_at hl 1 rfl) ?_
    refine lv_aload_n hx hb dL_law_700 rfl (lv_at hl 0 rfl) ?_
    refine lv_iload_n hx hb dL_law_701 rfl (lv_at hl 3 rfl) ?_
    refine lv_iconst (v := 1) hx hb dL_law_702 (by decide) ?_
    refine lv_iadd hx hb dL_law_703 ?_
    refine va_sld hx hb hX hbl hbA h.2.2.2.2.2 h1 dL_law_704 ?_
    refine lv_aload_n hx hb dL_law_705 rfl (lv_at hl 0 rfl) ?_
    refine lv_iload_n hx hb dL_law_706 rfl (lv_at hl 3 rfl) ?_
    refine lv_iconst (v := 2) hx hb dL_law_707 (by decide) ?_
    refine lv_iadd hx hb dL_law_708 ?_
    refine va_sld hx hb hX hbl hbA h.2.2.2.2.2 h2 dL_law_709 ?_
    refine lv_if_eq (tgt := 717) hx hb dL_law_710 (by decide) (fun c9 => absurd c9 cz) (fun c9 => ?_)
    refine lv_iconst (v := 1) hx hb dL_law_713 (by decide) ?_
    refine lv_goto (tgt := 718) hx hb dL_law_714 (by decide) ?_
    refine y_vi (As := [.int (xs (x3 + 1).toNatClampNeg), .int 1]) (rest := []) C h (gX_BM κ ad σ) rfl (kX6_reading l D κ ad (xs (x3 + 1).toNatClampNeg) 1 σ (r := r) (τ := τ) e1) (fun hts => cwV 2 hts gL_law_X6_reading rfl rfl rfl (by decide +kernel) ⟨Nat.le_of_ble_eq_true rfl, Nat.le_of_ble_eq_true rfl⟩) rfl hl.1 (Nat.le_of_ble_eq_true rfl) rfl dL_law_718 ⟨Nat.le_of_ble_eq_true rfl, Nat.le_of_ble_eq_true rfl⟩ (fun H locs h => ?_)
    refine lv_aload_n hx hb dL_law_721 rfl (lv_at hl 2 rfl) ?_
    refine lv_aload_n hx hb dL_law_722 rfl (lv_at hl 0 rfl) ?_
    refine lv_iload_n hx hb dL_law_723 rfl (lv_at hl 3 rfl) ?_
    refine lv_iconst (v := 1) hx hb dL_law_724 (by decide) ?_
    refine lv_iadd hx hb dL_law_725 ?_
    refine va_sld hx hb hX hbl hbA h.2.2.2.2.2 h1 dL_law_726 ?_
    refine lv_aload_n hx hb dL_law_727 rfl (lv_at hl 0 rfl) ?_
    refine lv_iload_n hx hb dL_law_728 rfl (lv_at hl 3 rfl) ?_
    refine lv_iconst (v := 2) hx hb dL_law_729 (by decide) ?_
    refine lv_iadd hx hb dL_law_730 ?_
    refine va_sld hx hb hX hbl hbA h.2.2.2.2.2 h2 dL_law_731 ?_
    refine lv_if_eq (tgt := 739) hx hb dL_law_732 (by decide) (fun c9 => absurd c9 cz) (fun c9 => ?_)
    refine lv_iconst (v := 1) hx hb dL_law_735 (by decide) ?_
    refine lv_goto (tgt := 740) hx hb dL_law_736 (by decide) ?_
    refine y_vi (As := [.int (xs (x3 + 1).toNatClampNeg), .int 1]) (rest := [.int r]) C h.swap (gM_Mo κ ad2 μ) rfl (kX7_reading l D κ ad2 (xs (x3 + 1).toNatClampNeg) 1 μ (r := r) (τ := ν) e2) (fun hts => cwV 2 hts gL_law_X7_reading rfl rfl rfl (by decide +kernel) ⟨Nat.le_of_ble_eq_true rfl, Nat.le_of_ble_eq_true rfl⟩) rfl hl.1 (Nat.le_of_ble_eq_true rfl) rfl dL_law_740 ⟨Nat.le_of_ble_eq_true rfl, Nat.le_of_ble_eq_true rfl⟩ (fun H locs h => ?_)
    have h := h.swap
    refine lv_icmp_eq (tgt := 1197) hx hb dL_law_743 (by decide) (fun c9 => ?_) (fun c9 => absurd rfl c9)
    exact hk τ ν _ _ _ h hI2 hl
set_option maxHeartbeats 4000000 in
set_option maxRecDepth 100000 in
theorem lc_back {p : Program} {l : Launch} {e : Env} {s : State} {m : MethodId} {below : List Frame} {meth : Method} {c : Code} {b L : Nat} {xs : Nat → Int32} {D : va_G} {κ : Kp} {ad ad2 : Nat → Nat} (C : Mc p s m #[Value.ref b] meth c code 4 ret wsL_law RL D κ (fun q : Nat => s.heap.size ≤ q)) (hX : va_X b L xs s s.heap) (hbl : b < s.heap.size) (Q : State → Prop) (x3 : Int32) (h0 : vp_in x3 L) (h1 : vp_in (x3 + 1) L) (h2 : vp_in (x3 + 2) L) (h3 : vp_in (x3 + 3) L) (h4 : vp_in (x3 + 4) L) (h5 : vp_in (x3 + 5) L) (hk : ∀ (σ μ : Sg) (H : Heap) (locs : List Loc) (ls : Array Slot), W2 D (fun q : Nat => s.heap.size ≤ q) s.heap H locs (wsX κ ad) (wsM κ ad2) σ μ → Inv σ μ → lv_has ls 4 [(0, .ref b), (1, .ref (ad 0)), (2, .ref (ad2 0)), (3, .int x3)] → W p l e room_1 s m #[Value.ref b] below meth c H locs 40 738 Q (F0 m 1197 ls [])) (σ μ : Sg) (H : Heap) (locs : List Loc) (ls : Array Slot) (h : W2 D (fun q : Nat => s.heap.size ≤ q) s.heap H locs (wsX κ ad) (wsM κ ad2) σ μ) (hI : Inv σ μ) (hl : lv_has ls 4 [(0, .ref b), (1, .ref (ad 0)), (2, .ref (ad2 0)), (3, .int x3)]) : W p l e room_1 s m #[Value.ref b] below meth c H locs 40 738 Q (F0 m 748 ls []) := by
  obtain ⟨hx, hb, hml, hr, hlk, hown, hts, hK, hA, hZ⟩ := id C
  have hbA : ¬ (fun q : Nat => s.heap.size ≤ q) b := Nat.not_le.mpr hbl
  obtain ⟨r, τ, ν, e1, e2, hI2⟩ := E_back hI (xs (x3 + 1).toNatClampNeg)
  refine lv_aload_n hx hb dL_law_748 rfl (lv_at hl 1 rfl) ?_
  refine lv_aload_n hx hb dL_law_749 rfl (lv_at hl 0 rfl) ?_
  refine lv_iload_n hx hb dL_law_750 rfl (lv_at hl 3 rfl) ?_
  refine lv_iconst (v := 1) hx hb dL_law_751 (by decide) ?_
  refine lv_iadd hx hb dL_law_752 ?_
  refine va_sld hx hb hX hbl hbA h.2.2.2.2.2 h1 dL_law_753 ?_
  refine y_vi (As := [.int (xs (x3 + 1).toNatClampNeg)]) (rest := []) C h (gX_BM κ ad σ) rfl (kX6_back l D κ ad (xs (x3 + 1).toNatClampNeg) σ (r := r) (τ := τ) e1) (fun hts => cwV 1 hts gL_law_X6_back rfl rfl rfl (by decide +kernel) ⟨Nat.le_of_ble_eq_true rfl, Nat.le_of_ble_eq_true rfl⟩) rfl hl.1 (Nat.le_of_ble_eq_true rfl) rfl dL_law_754 ⟨Nat.le_of_ble_eq_true rfl, Nat.le_of_ble_eq_true rfl⟩ (fun H locs h => ?_)
  refine lv_aload_n hx hb dL_law_757 rfl (lv_at hl 2 rfl) ?_
  refine lv_aload_n hx hb dL_law_758 rfl (lv_at hl 0 rfl) ?_
  refine lv_iload_n hx hb dL_law_759 rfl (lv_at hl 3 rfl) ?_
  refine lv_iconst (v := 1) hx hb dL_law_760 (by decide) ?_
  refine lv_iadd hx hb dL_law_761 ?_
  refine va_sld hx hb hX hbl hbA h.2.2.2.2.2 h1 dL_law_762 ?_
  refine y_vi (As := [.int (xs (x3 + 1).toNatClampNeg)]) (rest := [.int r]) C h.swap (gM_Mo κ ad2 μ) rfl (kX7_back l D κ ad2 (xs (x3 + 1).toNatClampNeg) μ (r := r) (τ := ν) e2) (fun hts => cwV 1 hts gL_law_X7_back rfl rfl rfl (by decide +kernel) ⟨Nat.le_of_ble_eq_true rfl, Nat.le_of_ble_eq_true rfl⟩) rfl hl.1 (Nat.le_of_ble_eq_true rfl) rfl dL_law_763 ⟨Nat.le_of_ble_eq_true rfl, Nat.le_of_ble_eq_true rfl⟩ (fun H locs h => ?_)
  have h := h.swap
  refine lv_icmp_eq (tgt := 1197) hx hb dL_law_766 (by decide) (fun c9 => ?_) (fun c9 => absurd rfl c9)
  exact hk τ ν _ _ _ h hI2 hl
set_option maxHeartbeats 4000000 in
set_option maxRecDepth 100000 in
theorem lc_memories {p : Program} {l : Launch} {e : Env} {s : State} {m : MethodId} {below : List Frame} {meth : Method} {c : Code} {b L : Nat} {xs : Nat → Int32} {D : va_G} {κ : Kp} {ad ad2 : Nat → Nat} (C : Mc p s m #[Value.ref b] meth c code 4 ret wsL_law RL D κ (fun q : Nat => s.heap.size ≤ q)) (hX : va_X b L xs s s.heap) (hbl : b < s.heap.size) (Q : State → Prop) (x3 : Int32) (h0 : vp_in x3 L) (h1 : vp_in (x3 + 1) L) (h2 : vp_in (x3 + 2) L) (h3 : vp_in (x3 + 3) L) (h4 : vp_in (x3 + 4) L) (h5 : vp_in (x3 + 5) L) (hk : ∀ (σ μ : Sg) (H : Heap) (locs : List Loc) (ls : Array Slot), W2 D (fun q : Nat => s.heap.size ≤ q) s.heap H locs (wsX κ ad) (wsM κ ad2) σ μ → Inv σ μ → lv_has ls 4 [(0, .ref b), (1, .ref (ad 0)), (2, .ref (ad2 0)), (3, .int x3)] → W p l e room_1 s m #[Value.ref b] below meth c H locs 40 738 Q (F0 m 1197 ls [])) (σ μ : Sg) (H : Heap) (locs : List Loc) (ls : Array Slot) (h : W2 D (fun q : Nat => s.heap.size ≤ q) s.heap H locs (wsX κ ad) (wsM κ ad2) σ μ) (hI : Inv σ μ) (hl : lv_has ls 4 [(0, .ref b), (1, .ref (ad 0)), (2, .ref (ad2 0)), (3, .int x3)]) : W p l e room_1 s m #[Value.ref b] below meth c H locs 40 738 Q (F0 m 771 ls []) := by
  obtain ⟨hx, hb, hml, hr, hlk, hown, hts, hK, hA, hZ⟩ := id C
  have hbA : ¬ (fun q : Nat => s.heap.size ≤ q) b := Nat.not_le.mpr hbl
  obtain ⟨r, τ, ν, e1, e2, hI2⟩ := E_memories hI (xs (x3 + 1).toNatClampNeg)
  refine lv_aload_n hx hb dL_law_771 rfl (lv_at hl 1 rfl) ?_
  refine lv_aload_n hx hb dL_law_772 rfl (lv_at hl 0 rfl) ?_
  refine lv_iload_n hx hb dL_law_773 rfl (lv_at hl 3 rfl) ?_
  refine lv_iconst (v := 1) hx hb dL_law_774 (by decide) ?_
  refine lv_iadd hx hb dL_law_775 ?_
  refine va_sld hx hb hX hbl hbA h.2.2.2.2.2 h1 dL_law_776 ?_
  refine y_vi (As := [.int (xs (x3 + 1).toNatClampNeg)]) (rest := []) C h (gX_BM κ ad σ) rfl (kX6_memories l D κ ad (xs (x3 + 1).toNatClampNeg) σ (r := r) (τ := τ) e1) (fun hts => cwV 1 hts gL_law_X6_memories rfl rfl rfl (by decide +kernel) ⟨Nat.le_of_ble_eq_true rfl, Nat.le_of_ble_eq_true rfl⟩) rfl hl.1 (Nat.le_of_ble_eq_true rfl) rfl dL_law_777 ⟨Nat.le_of_ble_eq_true rfl, Nat.le_of_ble_eq_true rfl⟩ (fun H locs h => ?_)
  refine lv_aload_n hx hb dL_law_780 rfl (lv_at hl 2 rfl) ?_
  refine lv_aload_n hx hb dL_law_781 rfl (lv_at hl 0 rfl) ?_
  refine lv_iload_n hx hb dL_law_782 rfl (lv_at hl 3 rfl) ?_
  refine lv_iconst (v := 1) hx hb dL_law_783 (by decide) ?_
  refine lv_iadd hx hb dL_law_784 ?_
  refine va_sld hx hb hX hbl hbA h.2.2.2.2.2 h1 dL_law_785 ?_
  refine y_vi (As := [.int (xs (x3 + 1).toNatClampNeg)]) (rest := [.int r]) C h.swap (gM_Mo κ ad2 μ) rfl (kX7_memories l D κ ad2 (xs (x3 + 1).toNatClampNeg) μ (r := r) (τ := ν) e2) (fun hts => cwV 1 hts gL_law_X7_memories rfl rfl rfl (by decide +kernel) ⟨Nat.le_of_ble_eq_true rfl, Nat.le_of_ble_eq_true rfl⟩) rfl hl.1 (Nat.le_of_ble_eq_true rfl) rfl dL_law_786 ⟨Nat.le_of_ble_eq_true rfl, Nat.le_of_ble_eq_true rfl⟩ (fun H locs h => ?_)
  have h := h.swap
  refine lv_icmp_eq (tgt := 1197) hx hb dL_law_789 (by decide) (fun c9 => ?_) (fun c9 => absurd rfl c9)
  exact hk τ ν _ _ _ h hI2 hl
set_option maxHeartbeats 4000000 in
set_option maxRecDepth 100000 in
theorem lc_kinds {p : Program} {l : Launch} {e : Env} {s : State} {m : MethodId} {below : List Frame} {meth : Method} {c : Code} {b L : Nat} {xs : Nat → Int32} {D : va_G} {κ : Kp} {ad ad2 : Nat → Nat} (C : Mc p s m #[Value.ref b] meth c code 4 ret wsL_law RL D κ (fun q : Nat => s.heap.size ≤ q)) (hX : va_X b L xs s s.heap) (hbl : b < s.heap.size) (Q : State → Prop) (x3 : Int32) (h0 : vp_in x3 L) (h1 : vp_in (x3 + 1) L) (h2 : vp_in (x3 + 2) L) (h3 : vp_in (x3 + 3) L) (h4 : vp_in (x3 + 4) L) (h5 : vp_in (x3 + 5) L) (hk : ∀ (σ μ : Sg) (H : Heap) (locs : List Loc) (ls : Array Slot), W2 D (fun q : Nat => s.heap.size ≤ q) s.heap H locs (wsX κ ad) (wsM κ ad2) σ μ → Inv σ μ → lv_has ls 4 [(0, .ref b), (1, .ref (ad 0)), (2, .ref (ad2 0)), (3, .int x3)] → W p l e room_1 s m #[Value.ref b] below meth c H locs 40 738 Q (F0 m 1197 ls [])) (σ μ : Sg) (H : Heap) (locs : List Loc) (ls : Array Slot) (h : W2 D (fun q : Nat => s.heap.size ≤ q) s.heap H locs (wsX κ ad) (wsM κ ad2) σ μ) (hI : Inv σ μ) (hl : lv_has ls 4 [(0, .ref b), (1, .ref (ad 0)), (2, .ref (ad2 0)), (3, .int x3)]) : W p l e room_1 s m #[Value.ref b] below meth c H locs 40 738 Q (F0 m 794 ls []) := by
  obtain ⟨hx, hb, hml, hr, hlk, hown, hts, hK, hA, hZ⟩ := id C
  have hbA : ¬ (fun q : Nat => s.heap.size ≤ q) b := Nat.not_le.mpr hbl
  obtain ⟨r, τ, ν, e1, e2, hI2⟩ := E_kinds hI (xs (x3 + 1).toNatClampNeg)
  refine lv_aload_n hx hb dL_law_794 rfl (lv_at hl 1 rfl) ?_
  refine lv_aload_n hx hb dL_law_795 rfl (lv_at hl 0 rfl) ?_
  refine lv_iload_n hx hb dL_law_796 rfl (lv_at hl 3 rfl) ?_
  refine lv_iconst (v := 1) hx hb dL_law_797 (by decide) ?_
  refine lv_iadd hx hb dL_law_798 ?_
  refine va_sld hx hb hX hbl hbA h.2.2.2.2.2 h1 dL_law_799 ?_
  refine y_vi (As := [.int (xs (x3 + 1).toNatClampNeg)]) (rest := []) C h (gX_BM κ ad σ) rfl (kX6_kinds l D κ ad (xs (x3 + 1).toNatClampNeg) σ (r := r) (τ := τ) e1) (fun hts => cwV 1 hts gL_law_X6_kinds rfl rfl rfl (by decide +kernel) ⟨Nat.le_of_ble_eq_true rfl, Nat.le_of_ble_eq_true rfl⟩) rfl hl.1 (Nat.le_of_ble_eq_true rfl) rfl dL_law_800 ⟨Nat.le_of_ble_eq_true rfl, Nat.le_of_ble_eq_true rfl⟩ (fun H locs h => ?_)
  refine lv_aload_n hx hb dL_law_803 rfl (lv_at hl 2 rfl) ?_
  refine lv_aload_n hx hb dL_law_804 rfl (lv_at hl 0 rfl) ?_
  refine lv_iload_n hx hb dL_law_805 rfl (lv_at hl 3 rfl) ?_
  refine lv_iconst (v := 1) hx hb dL_law_806 (by decide) ?_
  refine lv_iadd hx hb dL_law_807 ?_
  refine va_sld hx hb hX hbl hbA h.2.2.2.2.2 h1 dL_law_808 ?_
  refine y_vi (As := [.int (xs (x3 + 1).toNatClampNeg)]) (rest := [.int r]) C h.swap (gM_Mo κ ad2 μ) rfl (kX7_kinds l D κ ad2 (xs (x3 + 1).toNatClampNeg) μ (r := r) (τ := ν) e2) (fun hts => cwV 1 hts gL_law_X7_kinds rfl rfl rfl (by decide +kernel) ⟨Nat.le_of_ble_eq_true rfl, Nat.le_of_ble_eq_true rfl⟩) rfl hl.1 (Nat.le_of_ble_eq_true rfl) rfl dL_law_809 ⟨Nat.le_of_ble_eq_true rfl, Nat.le_of_ble_eq_true rfl⟩ (fun H locs h => ?_)
  have h := h.swap
  refine lv_icmp_eq (tgt := 1197) hx hb dL_law_812 (by decide) (fun c9 => ?_) (fun c9 => absurd rfl c9)
  exact hk τ ν _ _ _ h hI2 hl
set_option maxHeartbeats 4000000 in
set_option maxRecDepth 100000 in
theorem lc_colours {p : Program} {l : Launch} {e : Env} {s : State} {m : MethodId} {below : List Frame} {meth : Method} {c : Code} {b L : Nat} {xs : Nat → Int32} {D : va_G} {κ : Kp} {ad ad2 : Nat → Nat} (C : Mc p s m #[Value.ref b] meth c code 4 ret wsL_law RL D κ (fun q : Nat => s.heap.size ≤ q)) (hX : va_X b L xs s s.heap) (hbl : b < s.heap.size) (Q : State → Prop) (x3 : Int32) (h0 : vp_in x3 L) (h1 : vp_in (x3 + 1) L) (h2 : vp_in (x3 + 2) L) (h3 : vp_in (x3 + 3) L) (h4 : vp_in (x3 + 4) L) (h5 : vp_in (x3 + 5) L) (hk : ∀ (σ μ : Sg) (H : Heap) (locs : List Loc) (ls : Array Slot), W2 D (fun q : Nat => s.heap.size ≤ q) s.heap H locs (wsX κ ad) (wsM κ ad2) σ μ → Inv σ μ → lv_has ls 4 [(0, .ref b), (1, .ref (ad 0)), (2, .ref (ad2 0)), (3, .int x3)] → W p l e room_1 s m #[Value.ref b] below meth c H locs 40 738 Q (F0 m 1197 ls [])) (σ μ : Sg) (H : Heap) (locs : List Loc) (ls : Array Slot) (h : W2 D (fun q : Nat => s.heap.size ≤ q) s.heap H locs (wsX κ ad) (wsM κ ad2) σ μ) (hI : Inv σ μ) (hl : lv_has ls 4 [(0, .ref b), (1, .ref (ad 0)), (2, .ref (ad2 0)), (3, .int x3)]) : W p l e room_1 s m #[Value.ref b] below meth c H locs 40 738 Q (F0 m 817 ls []) := by
  obtain ⟨hx, hb, hml, hr, hlk, hown, hts, hK, hA, hZ⟩ := id C
  have hbA : ¬ (fun q : Nat => s.heap.size ≤ q) b := Nat.not_le.mpr hbl
  obtain ⟨r, τ, ν, e1, e2, hI2⟩ := E_colours hI (xs (x3 + 1).toNatClampNeg)
  refine lv_aload_n hx hb dL_law_817 rfl (lv_at hl 1 rfl) ?_
  refine lv_aload_n hx hb dL_law_818 rfl (lv_at hl 0 rfl) ?_
  refine lv_iload_n hx hb dL_law_819 rfl (lv_at hl 3 rfl) ?_
  refine lv_iconst (v := 1) hx hb dL_law_820 (by decide) ?_
  refine lv_iadd hx hb dL_law_821 ?_
  refine va_sld hx hb hX hbl hbA h.2.2.2.2.2 h1 dL_law_822 ?_
  refine y_vi (As := [.int (xs (x3 + 1).toNatClampNeg)]) (rest := []) C h (gX_BM κ ad σ) rfl (kX6_colours l D κ ad (xs (x3 + 1).toNatClampNeg) σ (r := r) (τ := τ) e1) (fun hts => cwV 1 hts gL_law_X6_colours rfl rfl rfl (by decide +kernel) ⟨Nat.le_of_ble_eq_true rfl, Nat.le_of_ble_eq_true rfl⟩) rfl hl.1 (Nat.le_of_ble_eq_true rfl) rfl dL_law_823 ⟨Nat.le_of_ble_eq_true rfl, Nat.le_of_ble_eq_true rfl⟩ (fun H locs h => ?_)
  refine lv_aload_n hx hb dL_law_826 rfl (lv_at hl 2 rfl) ?_
  refine lv_aload_n hx hb dL_law_827 rfl (lv_at hl 0 rfl) ?_
  refine lv_iload_n hx hb dL_law_828 rfl (lv_at hl 3 rfl) ?_
  refine lv_iconst (v := 1) hx hb dL_law_829 (by decide) ?_
  refine lv_iadd hx hb dL_law_830 ?_
  refine va_sld hx hb hX hbl hbA h.2.2.2.2.2 h1 dL_law_831 ?_
  refine y_vi (As := [.int (xs (x3 + 1).toNatClampNeg)]) (rest := [.int r]) C h.swap (gM_Mo κ ad2 μ) rfl (kX7_colours l D κ ad2 (xs (x3 + 1).toNatClampNeg) μ (r := r) (τ := ν) e2) (fun hts => cwV 1 hts gL_law_X7_colours rfl rfl rfl (by decide +kernel) ⟨Nat.le_of_ble_eq_true rfl, Nat.le_of_ble_eq_true rfl⟩) rfl hl.1 (Nat.le_of_ble_eq_true rfl) rfl dL_law_832 ⟨Nat.le_of_ble_eq_true rfl, Nat.le_of_ble_eq_true rfl⟩ (fun H locs h => ?_)
  have h := h.swap
  refine lv_icmp_eq (tgt := 1197) hx hb dL_law_835 (by decide) (fun c9 => ?_) (fun c9 => absurd rfl c9)
  exact hk τ ν _ _ _ h hI2 hl
set_option maxHeartbeats 4000000 in
set_option maxRecDepth 100000 in
theorem lc_nears {p : Program} {l : Launch} {e : Env} {s : State} {m : MethodId} {below : List Frame} {meth : Method} {c : Code} {b L : Nat} {xs : Nat → Int32} {D : va_G} {κ : Kp} {ad ad2 : Nat → Nat} (C : Mc p s m #[Value.ref b] meth c code 4 ret wsL_law RL D κ (fun q : Nat => s.heap.size ≤ q)) (hX : va_X b L xs s s.heap) (hbl : b < s.heap.size) (Q : State → Prop) (x3 : Int32) (h0 : vp_in x3 L) (h1 : vp_in (x3 + 1) L) (h2 : vp_in (x3 + 2) L) (h3 : vp_in (x3 + 3) L) (h4 : vp_in (x3 + 4) L) (h5 : vp_in (x3 + 5) L) (hk : ∀ (σ μ : Sg) (H : Heap) (locs : List Loc) (ls : Array Slot), W2 D (fun q : Nat => s.heap.size ≤ q) s.heap H locs (wsX κ ad) (wsM κ ad2) σ μ → Inv σ μ → lv_has ls 4 [(0, .ref b), (1, .ref (ad 0)), (2, .ref (ad2 0)), (3, .int x3)] → W p l e room_1 s m #[Value.ref b] below meth c H locs 40 738 Q (F0 m 1197 ls [])) (σ μ : Sg) (H : Heap) (locs : List Loc) (ls : Array Slot) (h : W2 D (fun q : Nat => s.heap.size ≤ q) s.heap H locs (wsX κ ad) (wsM κ ad2) σ μ) (hI : Inv σ μ) (hl : lv_has ls 4 [(0, .ref b), (1, .ref (ad 0)), (2, .ref (ad2 0)), (3, .int x3)]) : W p l e room_1 s m #[Value.ref b] below meth c H locs 40 738 Q (F0 m 840 ls []) := by
  obtain ⟨hx, hb, hml, hr, hlk, hown, hts, hK, hA, hZ⟩ := id C
  have hbA : ¬ (fun q : Nat => s.heap.size ≤ q) b := Nat.not_le.mpr hbl
  obtain ⟨r, τ, ν, e1, e2, hI2⟩ := E_nears hI 
  refine lv_aload_n hx hb dL_law_840 rfl (lv_at hl 1 rfl) ?_
  refine y_vi (As := []) (rest := []) C h (gX_BM κ ad σ) rfl (kX6_nears l D κ ad  σ (r := r) (τ := τ) e1) (fun hts => cwV 0 hts gL_law_X6_nears rfl rfl rfl (by decide +kernel) ⟨Nat.le_of_ble_eq_true rfl, Nat.le_of_ble_eq_true rfl⟩) rfl hl.1 (Nat.le_of_ble_eq_true rfl) rfl dL_law_841 ⟨Nat.le_of_ble_eq_true rfl, Nat.le_of_ble_eq_true rfl⟩ (fun H locs h => ?_)
  refine lv_aload_n hx hb dL_law_844 rfl (lv_at hl 2 rfl) ?_
  refine y_vi (As := []) (rest := [.int r]) C h.swap (gM_Mo κ ad2 μ) rfl (kX7_nears l D κ ad2  μ (r := r) (τ := ν) e2) (fun hts => cwV 0 hts gL_law_X7_nears rfl rfl rfl (by decide +kernel) ⟨Nat.le_of_ble_eq_true rfl, Nat.le_of_ble_eq_true rfl⟩) rfl hl.1 (Nat.le_of_ble_eq_true rfl) rfl dL_law_845 ⟨Nat.le_of_ble_eq_true rfl, Nat.le_of_ble_eq_true rfl⟩ (fun H locs h => ?_)
  have h := h.swap
  refine lv_icmp_eq (tgt := 1197) hx hb dL_law_848 (by decide) (fun c9 => ?_) (fun c9 => absurd rfl c9)
  exact hk τ ν _ _ _ h hI2 hl
set_option maxHeartbeats 4000000 in
set_option maxRecDepth 100000 in
theorem lc_sheet {p : Program} {l : Launch} {e : Env} {s : State} {m : MethodId} {below : List Frame} {meth : Method} {c : Code} {b L : Nat} {xs : Nat → Int32} {D : va_G} {κ : Kp} {ad ad2 : Nat → Nat} (C : Mc p s m #[Value.ref b] meth c code 4 ret wsL_law RL D κ (fun q : Nat => s.heap.size ≤ q)) (hX : va_X b L xs s s.heap) (hbl : b < s.heap.size) (Q : State → Prop) (x3 : Int32) (h0 : vp_in x3 L) (h1 : vp_in (x3 + 1) L) (h2 : vp_in (x3 + 2) L) (h3 : vp_in (x3 + 3) L) (h4 : vp_in (x3 + 4) L) (h5 : vp_in (x3 + 5) L) (hk : ∀ (σ μ : Sg) (H : Heap) (locs : List Loc) (ls : Array Slot), W2 D (fun q : Nat => s.heap.size ≤ q) s.heap H locs (wsX κ ad) (wsM κ ad2) σ μ → Inv σ μ → lv_has ls 4 [(0, .ref b), (1, .ref (ad 0)), (2, .ref (ad2 0)), (3, .int x3)] → W p l e room_1 s m #[Value.ref b] below meth c H locs 40 738 Q (F0 m 1197 ls [])) (σ μ : Sg) (H : Heap) (locs : List Loc) (ls : Array Slot) (h : W2 D (fun q : Nat => s.heap.size ≤ q) s.heap H locs (wsX κ ad) (wsM κ ad2) σ μ) (hI : Inv σ μ) (hl : lv_has ls 4 [(0, .ref b), (1, .ref (ad 0)), (2, .ref (ad2 0)), (3, .int x3)]) : W p l e room_1 s m #[Value.ref b] below meth c H locs 40 738 Q (F0 m 853 ls []) := by
  obtain ⟨hx, hb, hml, hr, hlk, hown, hts, hK, hA, hZ⟩ := id C
  have hbA : ¬ (fun q : Nat => s.heap.size ≤ q) b := Nat.not_le.mpr hbl
  obtain ⟨r, τ, ν, e1, e2, hI2⟩ := E_sheet hI (xs (x3 + 1).toNatClampNeg) (xs (x3 + 2).toNatClampNeg) (xs (x3 + 3).toNatClampNeg)
  refine lv_aload_n hx hb dL_law_853 rfl (lv_at hl 1 rfl) ?_
  refine lv_aload_n hx hb dL_law_854 rfl (lv_at hl 0 rfl) ?_
  refine lv_iload_n hx hb dL_law_855 rfl (lv_at hl 3 rfl) ?_
  refine lv_iconst (v := 1) hx hb dL_law_856 (by decide) ?_
  refine lv_iadd hx hb dL_law_857 ?_
  refine va_sld hx hb hX hbl hbA h.2.2.2.2.2 h1 dL_law_858 ?_
  refine lv_aload_n hx hb dL_law_859 rfl (lv_at hl 0 rfl) ?_
  refine lv_iload_n hx hb dL_law_860 rfl (lv_at hl 3 rfl) ?_
  refine lv_iconst (v := 2) hx hb dL_law_861 (by decide) ?_
  refine lv_iadd hx hb dL_law_862 ?_
  refine va_sld hx hb hX hbl hbA h.2.2.2.2.2 h2 dL_law_863 ?_
  refine lv_aload_n hx hb dL_law_864 rfl (lv_at hl 0 rfl) ?_
  refine lv_iload_n hx hb dL_law_865 rfl (lv_at hl 3 rfl) ?_
  refine lv_iconst (v := 3) hx hb dL_law_866 (by decide) ?_
  refine lv_iadd hx hb dL_law_867 ?_
  refine va_sld hx hb hX hbl hbA h.2.2.2.2.2 h3 dL_law_868 ?_
  refine y_vi (As := [.int (xs (x3 + 1).toNatClampNeg), .int (xs (x3 + 2).toNatClampNeg), .int (xs (x3 + 3).toNatClampNeg)]) (rest := []) C h (gX_BM κ ad σ) rfl (kX6_sheet l D κ ad (xs (x3 + 1).toNatClampNeg) (xs (x3 + 2).toNatClampNeg) (xs (x3 + 3).toNatClampNeg) σ (r := r) (τ := τ) e1) (fun hts => cwV 3 hts gL_law_X6_sheet rfl rfl rfl (by decide +kernel) ⟨Nat.le_of_ble_eq_true rfl, Nat.le_of_ble_eq_true rfl⟩) rfl hl.1 (Nat.le_of_ble_eq_true rfl) rfl dL_law_869 ⟨Nat.le_of_ble_eq_true rfl, Nat.le_of_ble_eq_true rfl⟩ (fun H locs h => ?_)
  refine lv_aload_n hx hb dL_law_872 rfl (lv_at hl 2 rfl) ?_
  refine lv_aload_n hx hb dL_law_873 rfl (lv_at hl 0 rfl) ?_
  refine lv_iload_n hx hb dL_law_874 rfl (lv_at hl 3 rfl) ?_
  refine lv_iconst (v := 1) hx hb dL_law_875 (by decide) ?_
  refine lv_iadd hx hb dL_law_876 ?_
  refine va_sld hx hb hX hbl hbA h.2.2.2.2.2 h1 dL_law_877 ?_
  refine lv_aload_n hx hb dL_law_878 rfl (lv_at hl 0 rfl) ?_
  refine lv_iload_n hx hb dL_law_879 rfl (lv_at hl 3 rfl) ?_
  refine lv_iconst (v := 2) hx hb dL_law_880 (by decide) ?_
  refine lv_iadd hx hb dL_law_881 ?_
  refine va_sld hx hb hX hbl hbA h.2.2.2.2.2 h2 dL_law_882 ?_
  refine lv_aload_n hx hb dL_law_883 rfl (lv_at hl 0 rfl) ?_
  refine lv_iload_n hx hb dL_law_884 rfl (lv_at hl 3 rfl) ?_
  refine lv_iconst (v := 3) hx hb dL_law_885 (by decide) ?_
  refine lv_iadd hx hb dL_law_886 ?_
  refine va_sld hx hb hX hbl hbA h.2.2.2.2.2 h3 dL_law_887 ?_
  refine y_vi (As := [.int (xs (x3 + 1).toNatClampNeg), .int (xs (x3 + 2).toNatClampNeg), .int (xs (x3 + 3).toNatClampNeg)]) (rest := [.int r]) C h.swap (gM_Mo κ ad2 μ) rfl (kX7_sheet l D κ ad2 (xs (x3 + 1).toNatClampNeg) (xs (x3 + 2).toNatClampNeg) (xs (x3 + 3).toNatClampNeg) μ (r := r) (τ := ν) e2) (fun hts => cwV 3 hts gL_law_X7_sheet rfl rfl rfl (by decide +kernel) ⟨Nat.le_of_ble_eq_true rfl, Nat.le_of_ble_eq_true rfl⟩) rfl hl.1 (Nat.le_of_ble_eq_true rfl) rfl dL_law_888 ⟨Nat.le_of_ble_eq_true rfl, Nat.le_of_ble_eq_true rfl⟩ (fun H locs h => ?_)
  have h := h.swap
  refine lv_icmp_eq (tgt := 1197) hx hb dL_law_891 (by decide) (fun c9 => ?_) (fun c9 => absurd rfl c9)
  exact hk τ ν _ _ _ h hI2 hl
set_option maxHeartbeats 4000000 in
set_option maxRecDepth 100000 in
theorem lc_lose {p : Program} {l : Launch} {e : Env} {s : State} {m : MethodId} {below : List Frame} {meth : Method} {c : Code} {b L : Nat} {xs : Nat → Int32} {D : va_G} {κ : Kp} {ad ad2 : Nat → Nat} (C : Mc p s m #[Value.ref b] meth c code 4 ret wsL_law RL D κ (fun q : Nat => s.heap.size ≤ q)) (hX : va_X b L xs s s.heap) (hbl : b < s.heap.size) (Q : State → Prop) (x3 : Int32) (h0 : vp_in x3 L) (h1 : vp_in (x3 + 1) L) (h2 : vp_in (x3 + 2) L) (h3 : vp_in (x3 + 3) L) (h4 : vp_in (x3 + 4) L) (h5 : vp_in (x3 + 5) L) (hk : ∀ (σ μ : Sg) (H : Heap) (locs : List Loc) (ls : Array Slot), W2 D (fun q : Nat => s.heap.size ≤ q) s.heap H locs (wsX κ ad) (wsM κ ad2) σ μ → Inv σ μ → lv_has ls 4 [(0, .ref b), (1, .ref (ad 0)), (2, .ref (ad2 0)), (3, .int x3)] → W p l e room_1 s m #[Value.ref b] below meth c H locs 40 738 Q (F0 m 1197 ls [])) (σ μ : Sg) (H : Heap) (locs : List Loc) (ls : Array Slot) (h : W2 D (fun q : Nat => s.heap.size ≤ q) s.heap H locs (wsX κ ad) (wsM κ ad2) σ μ) (hI : Inv σ μ) (hl : lv_has ls 4 [(0, .ref b), (1, .ref (ad 0)), (2, .ref (ad2 0)), (3, .int x3)]) : W p l e room_1 s m #[Value.ref b] below meth c H locs 40 738 Q (F0 m 896 ls []) := by
  obtain ⟨hx, hb, hml, hr, hlk, hown, hts, hK, hA, hZ⟩ := id C
  have hbA : ¬ (fun q : Nat => s.heap.size ≤ q) b := Nat.not_le.mpr hbl
  obtain ⟨r, τ, ν, e1, e2, hI2⟩ := E_lose hI (xs (x3 + 1).toNatClampNeg)
  refine lv_aload_n hx hb dL_law_896 rfl (lv_at hl 1 rfl) ?_
  refine lv_aload_n hx hb dL_law_897 rfl (lv_at hl 0 rfl) ?_
  refine lv_iload_n hx hb dL_law_898 rfl (lv_at hl 3 rfl) ?_
  refine lv_iconst (v := 1) hx hb dL_law_899 (by decide) ?_
  refine lv_iadd hx hb dL_law_900 ?_
  refine va_sld hx hb hX hbl hbA h.2.2.2.2.2 h1 dL_law_901 ?_
  refine y_vi (As := [.int (xs (x3 + 1).toNatClampNeg)]) (rest := []) C h (gX_BM κ ad σ) rfl (kX6_lose l D κ ad (xs (x3 + 1).toNatClampNeg) σ (r := r) (τ := τ) e1) (fun hts => cwV 1 hts gL_law_X6_lose rfl rfl rfl (by decide +kernel) ⟨Nat.le_of_ble_eq_true rfl, Nat.le_of_ble_eq_true rfl⟩) rfl hl.1 (Nat.le_of_ble_eq_true rfl) rfl dL_law_902 ⟨Nat.le_of_ble_eq_true rfl, Nat.le_of_ble_eq_true rfl⟩ (fun H locs h => ?_)
  refine lv_aload_n hx hb dL_law_905 rfl (lv_at hl 2 rfl) ?_
  refine lv_aload_n hx hb dL_law_906 rfl (lv_at hl 0 rfl) ?_
  refine lv_iload_n hx hb dL_law_907 rfl (lv_at hl 3 rfl) ?_
  refine lv_iconst (v := 1) hx hb dL_law_908 (by decide) ?_
  refine lv_iadd hx hb dL_law_909 ?_
  refine va_sld hx hb hX hbl hbA h.2.2.2.2.2 h1 dL_law_910 ?_
  refine y_vi (As := [.int (xs (x3 + 1).toNatClampNeg)]) (rest := [.int r]) C h.swap (gM_Mo κ ad2 μ) rfl (kX7_lose l D κ ad2 (xs (x3 + 1).toNatClampNeg) μ (r := r) (τ := ν) e2) (fun hts => cwV 1 hts gL_law_X7_lose rfl rfl rfl (by decide +kernel) ⟨Nat.le_of_ble_eq_true rfl, Nat.le_of_ble_eq_true rfl⟩) rfl hl.1 (Nat.le_of_ble_eq_true rfl) rfl dL_law_911 ⟨Nat.le_of_ble_eq_true rfl, Nat.le_of_ble_eq_true rfl⟩ (fun H locs h => ?_)
  have h := h.swap
  refine lv_icmp_eq (tgt := 1197) hx hb dL_law_914 (by decide) (fun c9 => ?_) (fun c9 => absurd rfl c9)
  exact hk τ ν _ _ _ h hI2 hl
set_option maxHeartbeats 4000000 in
set_option maxRecDepth 100000 in
theorem lc_put {p : Program} {l : Launch} {e : Env} {s : State} {m : MethodId} {below : List Frame} {meth : Method} {c : Code} {b L : Nat} {xs : Nat → Int32} {D : va_G} {κ : Kp} {ad ad2 : Nat → Nat} (C : Mc p s m #[Value.ref b] meth c code 4 ret wsL_law RL D κ (fun q : Nat => s.heap.size ≤ q)) (hX : va_X b L xs s s.heap) (hbl : b < s.heap.size) (Q : State → Prop) (x3 : Int32) (h0 : vp_in x3 L) (h1 : vp_in (x3 + 1) L) (h2 : vp_in (x3 + 2) L) (h3 : vp_in (x3 + 3) L) (h4 : vp_in (x3 + 4) L) (h5 : vp_in (x3 + 5) L) (hk : ∀ (σ μ : Sg) (H : Heap) (locs : List Loc) (ls : Array Slot), W2 D (fun q : Nat => s.heap.size ≤ q) s.heap H locs (wsX κ ad) (wsM κ ad2) σ μ → Inv σ μ → lv_has ls 4 [(0, .ref b), (1, .ref (ad 0)), (2, .ref (ad2 0)), (3, .int x3)] → W p l e room_1 s m #[Value.ref b] below meth c H locs 40 738 Q (F0 m 1197 ls [])) (σ μ : Sg) (H : Heap) (locs : List Loc) (ls : Array Slot) (h : W2 D (fun q : Nat => s.heap.size ≤ q) s.heap H locs (wsX κ ad) (wsM κ ad2) σ μ) (hI : Inv σ μ) (hl : lv_has ls 4 [(0, .ref b), (1, .ref (ad 0)), (2, .ref (ad2 0)), (3, .int x3)]) : W p l e room_1 s m #[Value.ref b] below meth c H locs 40 738 Q (F0 m 919 ls []) := by
  obtain ⟨hx, hb, hml, hr, hlk, hown, hts, hK, hA, hZ⟩ := id C
  have hbA : ¬ (fun q : Nat => s.heap.size ≤ q) b := Nat.not_le.mpr hbl
  obtain ⟨r, τ, ν, e1, e2, hI2⟩ := E_put hI (xs (x3 + 1).toNatClampNeg) (xs (x3 + 2).toNatClampNeg) (xs (x3 + 3).toNatClampNeg)
  refine lv_aload_n hx hb dL_law_919 rfl (lv_at hl 1 rfl) ?_
  refine lv_aload_n hx hb dL_law_920 rfl (lv_at hl 0 rfl) ?_
  refine lv_iload_n hx hb dL_law_921 rfl (lv_at hl 3 rfl) ?_
  refine lv_iconst (v := 1) hx hb dL_law_922 (by decide) ?_
  refine lv_iadd hx hb dL_law_923 ?_
  refine va_sld hx hb hX hbl hbA h.2.2.2.2.2 h1 dL_law_924 ?_
  refine lv_aload_n hx hb dL_law_925 rfl (lv_at hl 0 rfl) ?_
  refine lv_iload_n hx hb dL_law_926 rfl (lv_at hl 3 rfl) ?_
  refine lv_iconst (v := 2) hx hb dL_law_927 (by decide) ?_
  refine lv_iadd hx hb dL_law_928 ?_
  refine va_sld hx hb hX hbl hbA h.2.2.2.2.2 h2 dL_law_929 ?_
  refine lv_aload_n hx hb dL_law_930 rfl (lv_at hl 0 rfl) ?_
  refine lv_iload_n hx hb dL_law_931 rfl (lv_at hl 3 rfl) ?_
  refine lv_iconst (v := 3) hx hb dL_law_932 (by decide) ?_
  refine lv_iadd hx hb dL_law_933 ?_
  refine va_sld hx hb hX hbl hbA h.2.2.2.2.2 h3 dL_law_934 ?_
  refine y_vi (As := [.int (xs (x3 + 1).toNatClampNeg), .int (xs (x3 + 2).toNatClampNeg), .int (xs (x3 + 3).toNatClampNeg)]) (rest := []) C h (gX_BM κ ad σ) rfl (kX6_put l D κ ad (xs (x3 + 1).toNatClampNeg) (xs (x3 + 2).toNatClampNeg) (xs (x3 + 3).toNatClampNeg) σ (r := r) (τ := τ) e1) (fun hts => cwV 3 hts gL_law_X6_put rfl rfl rfl (by decide +kernel) ⟨Nat.le_of_ble_eq_true rfl, Nat.le_of_ble_eq_true rfl⟩) rfl hl.1 (Nat.le_of_ble_eq_true rfl) rfl dL_law_935 ⟨Nat.le_of_ble_eq_true rfl, Nat.le_of_ble_eq_true rfl⟩ (fun H locs h => ?_)
  refine lv_aload_n hx hb dL_law_938 rfl (lv_at hl 2 rfl) ?_
  refine lv_aload_n hx hb dL_law_939 rfl (lv_at hl 0 rfl) ?_
  refine lv_iload_n hx hb dL_law_940 rfl (lv_at hl 3 rfl) ?_
  refine lv_iconst (v := 1) hx hb dL_law_941 (by decide) ?_
  refine lv_iadd hx hb dL_law_942 ?_
  refine va_sld hx hb hX hbl hbA h.2.2.2.2.2 h1 dL_law_943 ?_
  refine lv_aload_n hx hb dL_law_944 rfl (lv_at hl 0 rfl) ?_
  refine lv_iload_n hx hb dL_law_945 rfl (lv_at hl 3 rfl) ?_
  refine lv_iconst (v := 2) hx hb dL_law_946 (by decide) ?_
  refine lv_iadd hx hb dL_law_947 ?_
  refine va_sld hx hb hX hbl hbA h.2.2.2.2.2 h2 dL_law_948 ?_
  refine lv_aload_n hx hb dL_law_949 rfl (lv_at hl 0 rfl) ?_
  refine lv_iload_n hx hb dL_law_950 rfl (lv_at hl 3 rfl) ?_
  refine lv_iconst (v := 3) hx hb dL_law_951 (by decide) ?_
  refine lv_iadd hx hb dL_law_952 ?_
  refine va_sld hx hb hX hbl hbA h.2.2.2.2.2 h3 dL_law_953 ?_
  refine y_vi (As := [.int (xs (x3 + 1).toNatClampNeg), .int (xs (x3 + 2).toNatClampNeg), .int (xs (x3 + 3).toNatClampNeg)]) (rest := [.int r]) C h.swap (gM_Mo κ ad2 μ) rfl (kX7_put l D κ ad2 (xs (x3 + 1).toNatClampNeg) (xs (x3 + 2).toNatClampNeg) (xs (x3 + 3).toNatClampNeg) μ (r := r) (τ := ν) e2) (fun hts => cwV 3 hts gL_law_X7_put rfl rfl rfl (by decide +kernel) ⟨Nat.le_of_ble_eq_true rfl, Nat.le_of_ble_eq_true rfl⟩) rfl hl.1 (Nat.le_of_ble_eq_true rfl) rfl dL_law_954 ⟨Nat.le_of_ble_eq_true rfl, Nat.le_of_ble_eq_true rfl⟩ (fun H locs h => ?_)
  have h := h.swap
  refine lv_icmp_eq (tgt := 1197) hx hb dL_law_957 (by decide) (fun c9 => ?_) (fun c9 => absurd rfl c9)
  exact hk τ ν _ _ _ h hI2 hl
set_option maxHeartbeats 4000000 in
set_option maxRecDepth 100000 in
theorem lc_cell {p : Program} {l : Launch} {e : Env} {s : State} {m : MethodId} {below : List Frame} {meth : Method} {c : Code} {b L : Nat} {xs : Nat → Int32} {D : va_G} {κ : Kp} {ad ad2 : Nat → Nat} (C : Mc p s m #[Value.ref b] meth c code 4 ret wsL_law RL D κ (fun q : Nat => s.heap.size ≤ q)) (hX : va_X b L xs s s.heap) (hbl : b < s.heap.size) (Q : State → Prop) (x3 : Int32) (h0 : vp_in x3 L) (h1 : vp_in (x3 + 1) L) (h2 : vp_in (x3 + 2) L) (h3 : vp_in (x3 + 3) L) (h4 : vp_in (x3 + 4) L) (h5 : vp_in (x3 + 5) L) (hk : ∀ (σ μ : Sg) (H : Heap) (locs : List Loc) (ls : Array Slot), W2 D (fun q : Nat => s.heap.size ≤ q) s.heap H locs (wsX κ ad) (wsM κ ad2) σ μ → Inv σ μ → lv_has ls 4 [(0, .ref b), (1, .ref (ad 0)), (2, .ref (ad2 0)), (3, .int x3)] → W p l e room_1 s m #[Value.ref b] below meth c H locs 40 738 Q (F0 m 1197 ls [])) (σ μ : Sg) (H : Heap) (locs : List Loc) (ls : Array Slot) (h : W2 D (fun q : Nat => s.heap.size ≤ q) s.heap H locs (wsX κ ad) (wsM κ ad2) σ μ) (hI : Inv σ μ) (hl : lv_has ls 4 [(0, .ref b), (1, .ref (ad 0)), (2, .ref (ad2 0)), (3, .int x3)]) : W p l e room_1 s m #[Value.ref b] below meth c H locs 40 738 Q (F0 m 962 ls []) := by
  obtain ⟨hx, hb, hml, hr, hlk, hown, hts, hK, hA, hZ⟩ := id C
  have hbA : ¬ (fun q : Nat => s.heap.size ≤ q) b := Nat.not_le.mpr hbl
  obtain ⟨r, τ, ν, e1, e2, hI2⟩ := E_cell hI (xs (x3 + 1).toNatClampNeg) (xs (x3 + 2).toNatClampNeg) (xs (x3 + 3).toNatClampNeg)
  refine lv_aload_n hx hb dL_law_962 rfl (lv_at hl 1 rfl) ?_
  refine lv_aload_n hx hb dL_law_963 rfl (lv_at hl 0 rfl) ?_
  refine lv_iload_n hx hb dL_law_964 rfl (lv_at hl 3 rfl) ?_
  refine lv_iconst (v := 1) hx hb dL_law_965 (by decide) ?_
  refine lv_iadd hx hb dL_law_966 ?_
  refine va_sld hx hb hX hbl hbA h.2.2.2.2.2 h1 dL_law_967 ?_
  refine lv_aload_n hx hb dL_law_968 rfl (lv_at hl 0 rfl) ?_
  refine lv_iload_n hx hb dL_law_969 rfl (lv_at hl 3 rfl) ?_
  refine lv_iconst (v := 2) hx hb dL_law_970 (by decide) ?_
  refine lv_iadd hx hb dL_law_971 ?_
  refine va_sld hx hb hX hbl hbA h.2.2.2.2.2 h2 dL_law_972 ?_
  refine lv_aload_n hx hb dL_law_973 rfl (lv_at hl 0 rfl) ?_
  refine lv_iload_n hx hb dL_law_974 rfl (lv_at hl 3 rfl) ?_
  refine lv_iconst (v := 3) hx hb dL_law_975 (by decide) ?_
  refine lv_iadd hx hb dL_law_976 ?_
  refine va_sld hx hb hX hbl hbA h.2.2.2.2.2 h3 dL_law_977 ?_
  refine y_vl (As := [.int (xs (x3 + 1).toNatClampNeg), .int (xs (x3 + 2).toNatClampNeg), .int (xs (x3 + 3).toNatClampNeg)]) (rest := []) C h (gX_BM κ ad σ) rfl (kX6_cell l D κ ad (xs (x3 + 1).toNatClampNeg) (xs (x3 + 2).toNatClampNeg) (xs (x3 + 3).toNatClampNeg) σ (r := r) (τ := τ) e1) (fun hts => cwV 3 hts gL_law_X6_cell rfl rfl rfl (by decide +kernel) ⟨Nat.le_of_ble_eq_true rfl, Nat.le_of_ble_eq_true rfl⟩) rfl hl.1 (Nat.le_of_ble_eq_true rfl) rfl dL_law_978 ⟨Nat.le_of_ble_eq_true rfl, Nat.le_of_ble_eq_true rfl⟩ (fun H locs h => ?_)
  refine lv_aload_n hx hb dL_law_981 rfl (lv_at hl 2 rfl) ?_
  refine lv_aload_n hx hb dL_law_982 rfl (lv_at hl 0 rfl) ?_
  refine lv_iload_n hx hb dL_law_983 rfl (lv_at hl 3 rfl) ?_
  refine lv_iconst (v := 1) hx hb dL_law_984 (by decide) ?_
  refine lv_iadd hx hb dL_law_985 ?_
  refine va_sld hx hb hX hbl hbA h.2.2.2.2.2 h1 dL_law_986 ?_
  refine lv_aload_n hx hb dL_law_987 rfl (lv_at hl 0 rfl) ?_
  refine lv_iload_n hx hb dL_law_988 rfl (lv_at hl 3 rfl) ?_
  refine lv_iconst (v := 2) hx hb dL_law_989 (by decide) ?_
  refine lv_iadd hx hb dL_law_990 ?_
  refine va_sld hx hb hX hbl hbA h.2.2.2.2.2 h2 dL_law_991 ?_
  refine lv_aload_n hx hb dL_law_992 rfl (lv_at hl 0 rfl) ?_
  refine lv_iload_n hx hb dL_law_993 rfl (lv_at hl 3 rfl) ?_
  refine lv_iconst (v := 3) hx hb dL_law_994 (by decide) ?_
  refine lv_iadd hx hb dL_law_995 ?_
  refine va_sld hx hb hX hbl hbA h.2.2.2.2.2 h3 dL_law_996 ?_
  refine y_vl (As := [.int (xs (x3 + 1).toNatClampNeg), .int (xs (x3 + 2).toNatClampNeg), .int (xs (x3 + 3).toNatClampNeg)]) (rest := [.long r]) C h.swap (gM_Mo κ ad2 μ) rfl (kX7_cell l D κ ad2 (xs (x3 + 1).toNatClampNeg) (xs (x3 + 2).toNatClampNeg) (xs (x3 + 3).toNatClampNeg) μ (r := r) (τ := ν) e2) (fun hts => cwV 3 hts gL_law_X7_cell rfl rfl rfl (by decide +kernel) ⟨Nat.le_of_ble_eq_true rfl, Nat.le_of_ble_eq_true rfl⟩) rfl hl.1 (Nat.le_of_ble_eq_true rfl) rfl dL_law_997 ⟨Nat.le_of_ble_eq_true rfl, Nat.le_of_ble_eq_true rfl⟩ (fun H locs h => ?_)
  have h := h.swap
  refine W.lcmp hx hb dL_law_1000 ?_
  refine lv_if_eq (tgt := 1197) hx hb dL_law_1001 (by decide) (fun c9 => ?_) (fun c9 => absurd (lg_cmp_self r) c9)
  exact hk τ ν _ _ _ h hI2 hl
set_option maxHeartbeats 4000000 in
set_option maxRecDepth 100000 in
theorem lc_copy {p : Program} {l : Launch} {e : Env} {s : State} {m : MethodId} {below : List Frame} {meth : Method} {c : Code} {b L : Nat} {xs : Nat → Int32} {D : va_G} {κ : Kp} {ad ad2 : Nat → Nat} (C : Mc p s m #[Value.ref b] meth c code 4 ret wsL_law RL D κ (fun q : Nat => s.heap.size ≤ q)) (hX : va_X b L xs s s.heap) (hbl : b < s.heap.size) (Q : State → Prop) (x3 : Int32) (h0 : vp_in x3 L) (h1 : vp_in (x3 + 1) L) (h2 : vp_in (x3 + 2) L) (h3 : vp_in (x3 + 3) L) (h4 : vp_in (x3 + 4) L) (h5 : vp_in (x3 + 5) L) (hk : ∀ (σ μ : Sg) (H : Heap) (locs : List Loc) (ls : Array Slot), W2 D (fun q : Nat => s.heap.size ≤ q) s.heap H locs (wsX κ ad) (wsM κ ad2) σ μ → Inv σ μ → lv_has ls 4 [(0, .ref b), (1, .ref (ad 0)), (2, .ref (ad2 0)), (3, .int x3)] → W p l e room_1 s m #[Value.ref b] below meth c H locs 40 738 Q (F0 m 1197 ls [])) (σ μ : Sg) (H : Heap) (locs : List Loc) (ls : Array Slot) (h : W2 D (fun q : Nat => s.heap.size ≤ q) s.heap H locs (wsX κ ad) (wsM κ ad2) σ μ) (hI : Inv σ μ) (hl : lv_has ls 4 [(0, .ref b), (1, .ref (ad 0)), (2, .ref (ad2 0)), (3, .int x3)]) : W p l e room_1 s m #[Value.ref b] below meth c H locs 40 738 Q (F0 m 1006 ls []) := by
  obtain ⟨hx, hb, hml, hr, hlk, hown, hts, hK, hA, hZ⟩ := id C
  have hbA : ¬ (fun q : Nat => s.heap.size ≤ q) b := Nat.not_le.mpr hbl
  obtain ⟨r, τ, ν, e1, e2, hI2⟩ := E_copy hI (xs (x3 + 1).toNatClampNeg) (xs (x3 + 2).toNatClampNeg) (xs (x3 + 3).toNatClampNeg) (xs (x3 + 4).toNatClampNeg) (xs (x3 + 5).toNatClampNeg)
  refine lv_aload_n hx hb dL_law_1006 rfl (lv_at hl 1 rfl) ?_
  refine lv_aload_n hx hb dL_law_1007 rfl (lv_at hl 0 rfl) ?_
  refine lv_iload_n hx hb dL_law_1008 rfl (lv_at hl 3 rfl) ?_
  refine lv_iconst (v := 1) hx hb dL_law_1009 (by decide) ?_
  refine lv_iadd hx hb dL_law_1010 ?_
  refine va_sld hx hb hX hbl hbA h.2.2.2.2.2 h1 dL_law_1011 ?_
  refine lv_aload_n hx hb dL_law_1012 rfl (lv_at hl 0 rfl) ?_
  refine lv_iload_n hx hb dL_law_1013 rfl (lv_at hl 3 rfl) ?_
  refine lv_iconst (v := 2) hx hb dL_law_1014 (by decide) ?_
  refine lv_iadd hx hb dL_law_1015 ?_
  refine va_sld hx hb hX hbl hbA h.2.2.2.2.2 h2 dL_law_1016 ?_
  refine lv_aload_n hx hb dL_law_1017 rfl (lv_at hl 0 rfl) ?_
  refine lv_iload_n hx hb dL_law_1018 rfl (lv_at hl 3 rfl) ?_
  refine lv_iconst (v := 3) hx hb dL_law_1019 (by decide) ?_
  refine lv_iadd hx hb dL_law_1020 ?_
  refine va_sld hx hb hX hbl hbA h.2.2.2.2.2 h3 dL_law_1021 ?_
  refine lv_aload_n hx hb dL_law_1022 rfl (lv_at hl 0 rfl) ?_
  refine lv_iload_n hx hb dL_law_1023 rfl (lv_at hl 3 rfl) ?_
  refine lv_iconst (v := 4) hx hb dL_law_1024 (by decide) ?_
  refine lv_iadd hx hb dL_law_1025 ?_
  refine va_sld hx hb hX hbl hbA h.2.2.2.2.2 h4 dL_law_1026 ?_
  refine lv_aload_n hx hb dL_law_1027 rfl (lv_at hl 0 rfl) ?_
  refine lv_iload_n hx hb dL_law_1028 rfl (lv_at hl 3 rfl) ?_
  refine lv_iconst (v := 5) hx hb dL_law_1029 (by decide) ?_
  refine lv_iadd hx hb dL_law_1030 ?_
  refine va_sld hx hb hX hbl hbA h.2.2.2.2.2 h5 dL_law_1031 ?_
  refine y_vi (As := [.int (xs (x3 + 1).toNatClampNeg), .int (xs (x3 + 2).toNatClampNeg), .int (xs (x3 + 3).toNatClampNeg), .int (xs (x3 + 4).toNatClampNeg), .int (xs (x3 + 5).toNatClampNeg)]) (rest := []) C h (gX_BM κ ad σ) rfl (kX6_copy l D κ ad (xs (x3 + 1).toNatClampNeg) (xs (x3 + 2).toNatClampNeg) (xs (x3 + 3).toNatClampNeg) (xs (x3 + 4).toNatClampNeg) (xs (x3 + 5).toNatClampNeg) σ (r := r) (τ := τ) e1) (fun hts => cwV 5 hts gL_law_X6_copy rfl rfl rfl (by decide +kernel) ⟨Nat.le_of_ble_eq_true rfl, Nat.le_of_ble_eq_true rfl⟩) rfl hl.1 (Nat.le_of_ble_eq_true rfl) rfl dL_law_1032 ⟨Nat.le_of_ble_eq_true rfl, Nat.le_of_ble_eq_true rfl⟩ (fun H locs h => ?_)
  refine lv_aload_n hx hb dL_law_1035 rfl (lv_at hl 2 rfl) ?_
  refine lv_aload_n hx hb dL_law_1036 rfl (lv_at hl 0 rfl) ?_
  refine lv_iload_n hx hb dL_law_1037 rfl (lv_at hl 3 rfl) ?_
  refine lv_iconst (v := 1) hx hb dL_law_1038 (by decide) ?_
  refine lv_iadd hx hb dL_law_1039 ?_
  refine va_sld hx hb hX hbl hbA h.2.2.2.2.2 h1 dL_law_1040 ?_
  refine lv_aload_n hx hb dL_law_1041 rfl (lv_at hl 0 rfl) ?_
  refine lv_iload_n hx hb dL_law_1042 rfl (lv_at hl 3 rfl) ?_
  refine lv_iconst (v := 2) hx hb dL_law_1043 (by decide) ?_
  refine lv_iadd hx hb dL_law_1044 ?_
  refine va_sld hx hb hX hbl hbA h.2.2.2.2.2 h2 dL_law_1045 ?_
  refine lv_aload_n hx hb dL_law_1046 rfl (lv_at hl 0 rfl) ?_
  refine lv_iload_n hx hb dL_law_1047 rfl (lv_at hl 3 rfl) ?_
  refine lv_iconst (v := 3) hx hb dL_law_1048 (by decide) ?_
  refine lv_iadd hx hb dL_law_1049 ?_
  refine va_sld hx hb hX hbl hbA h.2.2.2.2.2 h3 dL_law_1050 ?_
  refine lv_aload_n hx hb dL_law_1051 rfl (lv_at hl 0 rfl) ?_
  refine lv_iload_n hx hb dL_law_1052 rfl (lv_at hl 3 rfl) ?_
  refine lv_iconst (v := 4) hx hb dL_law_1053 (by decide) ?_
  refine lv_iadd hx hb dL_law_1054 ?_
  refine va_sld hx hb hX hbl hbA h.2.2.2.2.2 h4 dL_law_1055 ?_
  refine lv_aload_n hx hb dL_law_1056 rfl (lv_at hl 0 rfl) ?_
  refine lv_iload_n hx hb dL_law_1057 rfl (lv_at hl 3 rfl) ?_
  refine lv_iconst (v := 5) hx hb dL_law_1058 (by decide) ?_
  refine lv_iadd hx hb dL_law_1059 ?_
  refine va_sld hx hb hX hbl hbA h.2.2.2.2.2 h5 dL_law_1060 ?_
  refine y_vi (As := [.int (xs (x3 + 1).toNatClampNeg), .int (xs (x3 + 2).toNatClampNeg), .int (xs (x3 + 3).toNatClampNeg), .int (xs (x3 + 4).toNatClampNeg), .int (xs (x3 + 5).toNatClampNeg)]) (rest := [.int r]) C h.swap (gM_Mo κ ad2 μ) rfl (kX7_copy l D κ ad2 (xs (x3 + 1).toNatClampNeg) (xs (x3 + 2).toNatClampNeg) (xs (x3 + 3).toNatClampNeg) (xs (x3 + 4).toNatClampNeg) (xs (x3 + 5).toNatClampNeg) μ (r := r) (τ := ν) e2) (fun hts => cwV 5 hts gL_law_X7_copy rfl rfl rfl (by decide +kernel) ⟨Nat.le_of_ble_eq_true rfl, Nat.le_of_ble_eq_true rfl⟩) rfl hl.1 (Nat.le_of_ble_eq_true rfl) rfl dL_law_1061 ⟨Nat.le_of_ble_eq_true rfl, Nat.le_of_ble_eq_true rfl⟩ (fun H locs h => ?_)
  have h := h.swap
  refine lv_icmp_eq (tgt := 1197) hx hb dL_law_1064 (by decide) (fun c9 => ?_) (fun c9 => absurd rfl c9)
  exact hk τ ν _ _ _ h hI2 hl
set_option maxHeartbeats 4000000 in
set_option maxRecDepth 100000 in
theorem lc_tell {p : Program} {l : Launch} {e : Env} {s : State} {m : MethodId} {below : List Frame} {meth : Method} {c : Code} {b L : Nat} {xs : Nat → Int32} {D : va_G} {κ : Kp} {ad ad2 : Nat → Nat} (C : Mc p s m #[Value.ref b] meth c code 4 ret wsL_law RL D κ (fun q : Nat => s.heap.size ≤ q)) (hX : va_X b L xs s s.heap) (hbl : b < s.heap.size) (Q : State → Prop) (x3 : Int32) (h0 : vp_in x3 L) (h1 : vp_in (x3 + 1) L) (h2 : vp_in (x3 + 2) L) (h3 : vp_in (x3 + 3) L) (h4 : vp_in (x3 + 4) L) (h5 : vp_in (x3 + 5) L) (hk : ∀ (σ μ : Sg) (H : Heap) (locs : List Loc) (ls : Array Slot), W2 D (fun q : Nat => s.heap.size ≤ q) s.heap H locs (wsX κ ad) (wsM κ ad2) σ μ → Inv σ μ → lv_has ls 4 [(0, .ref b), (1, .ref (ad 0)), (2, .ref (ad2 0)), (3, .int x3)] → W p l e room_1 s m #[Value.ref b] below meth c H locs 40 738 Q (F0 m 1197 ls [])) (σ μ : Sg) (H : Heap) (locs : List Loc) (ls : Array Slot) (h : W2 D (fun q : Nat => s.heap.size ≤ q) s.heap H locs (wsX κ ad) (wsM κ ad2) σ μ) (hI : Inv σ μ) (hl : lv_has ls 4 [(0, .ref b), (1, .ref (ad 0)), (2, .ref (ad2 0)), (3, .int x3)]) : W p l e room_1 s m #[Value.ref b] below meth c H locs 40 738 Q (F0 m 1069 ls []) := by
  obtain ⟨hx, hb, hml, hr, hlk, hown, hts, hK, hA, hZ⟩ := id C
  have hbA : ¬ (fun q : Nat => s.heap.size ≤ q) b := Nat.not_le.mpr hbl
  obtain ⟨r, τ, ν, e1, e2, hI2⟩ := E_tell hI (xs (x3 + 1).toNatClampNeg)
  refine lv_aload_n hx hb dL_law_1069 rfl (lv_at hl 1 rfl) ?_
  refine lv_aload_n hx hb dL_law_1070 rfl (lv_at hl 0 rfl) ?_
  refine lv_iload_n hx hb dL_law_1071 rfl (lv_at hl 3 rfl) ?_
  refine lv_iconst (v := 1) hx hb dL_law_1072 (by decide) ?_
  refine lv_iadd hx hb dL_law_1073 ?_
  refine va_sld hx hb hX hbl hbA h.2.2.2.2.2 h1 dL_law_1074 ?_
  refine y_vi (As := [.int (xs (x3 + 1).toNatClampNeg)]) (rest := []) C h (gX_BM κ ad σ) rfl (kX6_tell l D κ ad (xs (x3 + 1).toNatClampNeg) σ (r := r) (τ := τ) e1) (fun hts => cwV 1 hts gL_law_X6_tell rfl rfl rfl (by decide +kernel) ⟨Nat.le_of_ble_eq_true rfl, Nat.le_of_ble_eq_true rfl⟩) rfl hl.1 (Nat.le_of_ble_eq_true rfl) rfl dL_law_1075 ⟨Nat.le_of_ble_eq_true rfl, Nat.le_of_ble_eq_true rfl⟩ (fun H locs h => ?_)
  refine lv_aload_n hx hb dL_law_1078 rfl (lv_at hl 2 rfl) ?_
  refine lv_aload_n hx hb dL_law_1079 rfl (lv_at hl 0 rfl) ?_
  refine lv_iload_n hx hb dL_law_1080 rfl (lv_at hl 3 rfl) ?_
  refine lv_iconst (v := 1) hx hb dL_law_1081 (by decide) ?_
  refine lv_iadd hx hb dL_law_1082 ?_
  refine va_sld hx hb hX hbl hbA h.2.2.2.2.2 h1 dL_law_1083 ?_
  refine y_vi (As := [.int (xs (x3 + 1).toNatClampNeg)]) (rest := [.int r]) C h.swap (gM_Mo κ ad2 μ) rfl (kX7_tell l D κ ad2 (xs (x3 + 1).toNatClampNeg) μ (r := r) (τ := ν) e2) (fun hts => cwV 1 hts gL_law_X7_tell rfl rfl rfl (by decide +kernel) ⟨Nat.le_of_ble_eq_true rfl, Nat.le_of_ble_eq_true rfl⟩) rfl hl.1 (Nat.le_of_ble_eq_true rfl) rfl dL_law_1084 ⟨Nat.le_of_ble_eq_true rfl, Nat.le_of_ble_eq_true rfl⟩ (fun H locs h => ?_)
  have h := h.swap
  refine lv_icmp_eq (tgt := 1197) hx hb dL_law_1087 (by decide) (fun c9 => ?_) (fun c9 => absurd rfl c9)
  exact hk τ ν _ _ _ h hI2 hl
set_option maxHeartbeats 4000000 in
set_option maxRecDepth 100000 in
theorem lc_rattle {p : Program} {l : Launch} {e : Env} {s : State} {m : MethodId} {below : List Frame} {meth : Method} {c : Code} {b L : Nat} {xs : Nat → Int32} {D : va_G} {κ : Kp} {ad ad2 : Nat → Nat} (C : Mc p s m #[Value.ref b] meth c code 4 ret wsL_law RL D κ (fun q : Nat => s.heap.size ≤ q)) (hX : va_X b L xs s s.heap) (hbl : b < s.heap.size) (Q : State → Prop) (x3 : Int32) (h0 : vp_in x3 L) (h1 : vp_in (x3 + 1) L) (h2 : vp_in (x3 + 2) L) (h3 : vp_in (x3 + 3) L) (h4 : vp_in (x3 + 4) L) (h5 : vp_in (x3 + 5) L) (hk : ∀ (σ μ : Sg) (H : Heap) (locs : List Loc) (ls : Array Slot), W2 D (fun q : Nat => s.heap.size ≤ q) s.heap H locs (wsX κ ad) (wsM κ ad2) σ μ → Inv σ μ → lv_has ls 4 [(0, .ref b), (1, .ref (ad 0)), (2, .ref (ad2 0)), (3, .int x3)] → W p l e room_1 s m #[Value.ref b] below meth c H locs 40 738 Q (F0 m 1197 ls [])) (σ μ : Sg) (H : Heap) (locs : List Loc) (ls : Array Slot) (h : W2 D (fun q : Nat => s.heap.size ≤ q) s.heap H locs (wsX κ ad) (wsM κ ad2) σ μ) (hI : Inv σ μ) (hl : lv_has ls 4 [(0, .ref b), (1, .ref (ad 0)), (2, .ref (ad2 0)), (3, .int x3)]) : W p l e room_1 s m #[Value.ref b] below meth c H locs 40 738 Q (F0 m 1092 ls []) := by
  obtain ⟨hx, hb, hml, hr, hlk, hown, hts, hK, hA, hZ⟩ := id C
  have hbA : ¬ (fun q : Nat => s.heap.size ≤ q) b := Nat.not_le.mpr hbl
  obtain ⟨r, τ, ν, e1, e2, hI2⟩ := E_rattle hI (xs (x3 + 1).toNatClampNeg)
  refine lv_aload_n hx hb dL_law_1092 rfl (lv_at hl 1 rfl) ?_
  refine lv_aload_n hx hb dL_law_1093 rfl (lv_at hl 0 rfl) ?_
  refine lv_iload_n hx hb dL_law_1094 rfl (lv_at hl 3 rfl) ?_
  refine lv_iconst (v := 1) hx hb dL_law_1095 (by decide) ?_
  refine lv_iadd hx hb dL_law_1096 ?_
  refine va_sld hx hb hX hbl hbA h.2.2.2.2.2 h1 dL_law_1097 ?_
  refine y_vi (As := [.int (xs (x3 + 1).toNatClampNeg)]) (rest := []) C h (gX_BM κ ad σ) rfl (kX6_rattle l D κ ad (xs (x3 + 1).toNatClampNeg) σ (r := r) (τ := τ) e1) (fun hts => cwV 1 hts gL_law_X6_rattle rfl rfl rfl (by decide +kernel) ⟨Nat.le_of_ble_eq_true rfl, Nat.le_of_ble_eq_true rfl⟩) rfl hl.1 (Nat.le_of_ble_eq_true rfl) rfl dL_law_1098 ⟨Nat.le_of_ble_eq_true rfl, Nat.le_of_ble_eq_true rfl⟩ (fun H locs h => ?_)
  refine lv_aload_n hx hb dL_law_1101 rfl (lv_at hl 2 rfl) ?_
  refine lv_aload_n hx hb dL_law_1102 rfl (lv_at hl 0 rfl) ?_
  refine lv_iload_n hx hb dL_law_1103 rfl (lv_at hl 3 rfl) ?_
  refine lv_iconst (v := 1) hx hb dL_law_1104 (by decide) ?_
  refine lv_iadd hx hb dL_law_1105 ?_
  refine va_sld hx hb hX hbl hbA h.2.2.2.2.2 h1 dL_law_1106 ?_
  refine y_vi (As := [.int (xs (x3 + 1).toNatClampNeg)]) (rest := [.int r]) C h.swap (gM_Mo κ ad2 μ) rfl (kX7_rattle l D κ ad2 (xs (x3 + 1).toNatClampNeg) μ (r := r) (τ := ν) e2) (fun hts => cwV 1 hts gL_law_X7_rattle rfl rfl rfl (by decide +kernel) ⟨Nat.le_of_ble_eq_true rfl, Nat.le_of_ble_eq_true rfl⟩) rfl hl.1 (Nat.le_of_ble_eq_true rfl) rfl dL_law_1107 ⟨Nat.le_of_ble_eq_true rfl, Nat.le_of_ble_eq_true rfl⟩ (fun H locs h => ?_)
  have h := h.swap
  refine lv_icmp_eq (tgt := 1197) hx hb dL_law_1110 (by decide) (fun c9 => ?_) (fun c9 => absurd rfl c9)
  exact hk τ ν _ _ _ h hI2 hl
set_option maxHeartbeats 4000000 in
set_option maxRecDepth 100000 in
theorem lc_as {p : Program} {l : Launch} {e : Env} {s : State} {m : MethodId} {below : List Frame} {meth : Method} {c : Code} {b L : Nat} {xs : Nat → Int32} {D : va_G} {κ : Kp} {ad ad2 : Nat → Nat} (C : Mc p s m #[Value.ref b] meth c code 4 ret wsL_law RL D κ (fun q : Nat => s.heap.size ≤ q)) (hX : va_X b L xs s s.heap) (hbl : b < s.heap.size) (Q : State → Prop) (x3 : Int32) (h0 : vp_in x3 L) (h1 : vp_in (x3 + 1) L) (h2 : vp_in (x3 + 2) L) (h3 : vp_in (x3 + 3) L) (h4 : vp_in (x3 + 4) L) (h5 : vp_in (x3 + 5) L) (hk : ∀ (σ μ : Sg) (H : Heap) (locs : List Loc) (ls : Array Slot), W2 D (fun q : Nat => s.heap.size ≤ q) s.heap H locs (wsX κ ad) (wsM κ ad2) σ μ → Inv σ μ → lv_has ls 4 [(0, .ref b), (1, .ref (ad 0)), (2, .ref (ad2 0)), (3, .int x3)] → W p l e room_1 s m #[Value.ref b] below meth c H locs 40 738 Q (F0 m 1197 ls [])) (σ μ : Sg) (H : Heap) (locs : List Loc) (ls : Array Slot) (h : W2 D (fun q : Nat => s.heap.size ≤ q) s.heap H locs (wsX κ ad) (wsM κ ad2) σ μ) (hI : Inv σ μ) (hl : lv_has ls 4 [(0, .ref b), (1, .ref (ad 0)), (2, .ref (ad2 0)), (3, .int x3)]) : W p l e room_1 s m #[Value.ref b] below meth c H locs 40 738 Q (F0 m 1115 ls []) := by
  obtain ⟨hx, hb, hml, hr, hlk, hown, hts, hK, hA, hZ⟩ := id C
  have hbA : ¬ (fun q : Nat => s.heap.size ≤ q) b := Nat.not_le.mpr hbl
  obtain ⟨r, τ, ν, e1, e2, hI2⟩ := E_as hI (xs (x3 + 1).toNatClampNeg) (xs (x3 + 2).toNatClampNeg)
  refine lv_aload_n hx hb dL_law_1115 rfl (lv_at hl 1 rfl) ?_
  refine lv_aload_n hx hb dL_law_1116 rfl (lv_at hl 0 rfl) ?_
  refine lv_iload_n hx hb dL_law_1117 rfl (lv_at hl 3 rfl) ?_
  refine lv_iconst (v := 1) hx hb dL_law_1118 (by decide) ?_
  refine lv_iadd hx hb dL_law_1119 ?_
  refine va_sld hx hb hX hbl hbA h.2.2.2.2.2 h1 dL_law_1120 ?_
  refine lv_aload_n hx hb dL_law_1121 rfl (lv_at hl 0 rfl) ?_
  refine lv_iload_n hx hb dL_law_1122 rfl (lv_at hl 3 rfl) ?_
  refine lv_iconst (v := 2) hx hb dL_law_1123 (by decide) ?_
  refine lv_iadd hx hb dL_law_1124 ?_
  refine va_sld hx hb hX hbl hbA h.2.2.2.2.2 h2 dL_law_1125 ?_
  refine y_vi (As := [.int (xs (x3 + 1).toNatClampNeg), .int (xs (x3 + 2).toNatClampNeg)]) (rest := []) C h (gX_BM κ ad σ) rfl (kX6_as l D κ ad (xs (x3 + 1).toNatClampNeg) (xs (x3 + 2).toNatClampNeg) σ (r := r) (τ := τ) e1) (fun hts => cwV 2 hts gL_law_X6_as rfl rfl rfl (by decide +kernel) ⟨Nat.le_of_ble_eq_true rfl, Nat.le_of_ble_eq_true rfl⟩) rfl hl.1 (Nat.le_of_ble_eq_true rfl) rfl dL_law_1126 ⟨Nat.le_of_ble_eq_true rfl, Nat.le_of_ble_eq_true rfl⟩ (fun H locs h => ?_)
  refine lv_aload_n hx hb dL_law_1129 rfl (lv_at hl 2 rfl) ?_
  refine lv_aload_n hx hb dL_law_1130 rfl (lv_at hl 0 rfl) ?_
  refine lv_iload_n hx hb dL_law_1131 rfl (lv_at hl 3 rfl) ?_
  refine lv_iconst (v := 1) hx hb dL_law_1132 (by decide) ?_
  refine lv_iadd hx hb dL_law_1133 ?_
  refine va_sld hx hb hX hbl hbA h.2.2.2.2.2 h1 dL_law_1134 ?_
  refine lv_aload_n hx hb dL_law_1135 rfl (lv_at hl 0 rfl) ?_
  refine lv_iload_n hx hb dL_law_1136 rfl (lv_at hl 3 rfl) ?_
  refine lv_iconst (v := 2) hx hb dL_law_1137 (by decide) ?_
  refine lv_iadd hx hb dL_law_1138 ?_
  refine va_sld hx hb hX hbl hbA h.2.2.2.2.2 h2 dL_law_1139 ?_
  refine y_vi (As := [.int (xs (x3 + 1).toNatClampNeg), .int (xs (x3 + 2).toNatClampNeg)]) (rest := [.int r]) C h.swap (gM_Mo κ ad2 μ) rfl (kX7_as l D κ ad2 (xs (x3 + 1).toNatClampNeg) (xs (x3 + 2).toNatClampNeg) μ (r := r) (τ := ν) e2) (fun hts => cwV 2 hts gL_law_X7_as rfl rfl rfl (by decide +kernel) ⟨Nat.le_of_ble_eq_true rfl, Nat.le_of_ble_eq_true rfl⟩) rfl hl.1 (Nat.le_of_ble_eq_true rfl) rfl dL_law_1140 ⟨Nat.le_of_ble_eq_true rfl, Nat.le_of_ble_eq_true rfl⟩ (fun H locs h => ?_)
  have h := h.swap
  refine lv_icmp_eq (tgt := 1197) hx hb dL_law_1143 (by decide) (fun c9 => ?_) (fun c9 => absurd rfl c9)
  exact hk τ ν _ _ _ h hI2 hl
set_option maxHeartbeats 4000000 in
set_option maxRecDepth 100000 in
theorem lc_trace {p : Program} {l : Launch} {e : Env} {s : State} {m : MethodId} {below : List Frame} {meth : Method} {c : Code} {b L : Nat} {xs : Nat → Int32} {D : va_G} {κ : Kp} {ad ad2 : Nat → Nat} (C : Mc p s m #[Value.ref b] meth c code 4 ret wsL_law RL D κ (fun q : Nat => s.heap.size ≤ q)) (hX : va_X b L xs s s.heap) (hbl : b < s.heap.size) (Q : State → Prop) (x3 : Int32) (h0 : vp_in x3 L) (h1 : vp_in (x3 + 1) L) (h2 : vp_in (x3 + 2) L) (h3 : vp_in (x3 + 3) L) (h4 : vp_in (x3 + 4) L) (h5 : vp_in (x3 + 5) L) (hk : ∀ (σ μ : Sg) (H : Heap) (locs : List Loc) (ls : Array Slot), W2 D (fun q : Nat => s.heap.size ≤ q) s.heap H locs (wsX κ ad) (wsM κ ad2) σ μ → Inv σ μ → lv_has ls 4 [(0, .ref b), (1, .ref (ad 0)), (2, .ref (ad2 0)), (3, .int x3)] → W p l e room_1 s m #[Value.ref b] below meth c H locs 40 738 Q (F0 m 1197 ls [])) (σ μ : Sg) (H : Heap) (locs : List Loc) (ls : Array Slot) (h : W2 D (fun q : Nat => s.heap.size ≤ q) s.heap H locs (wsX κ ad) (wsM κ ad2) σ μ) (hI : Inv σ μ) (hl : lv_has ls 4 [(0, .ref b), (1, .ref (ad 0)), (2, .ref (ad2 0)), (3, .int x3)]) : W p l e room_1 s m #[Value.ref b] below meth c H locs 40 738 Q (F0 m 1148 ls []) := by
  obtain ⟨hx, hb, hml, hr, hlk, hown, hts, hK, hA, hZ⟩ := id C
  have hbA : ¬ (fun q : Nat => s.heap.size ≤ q) b := Nat.not_le.mpr hbl
  obtain ⟨r, e1, e2⟩ := E_trace hI 
  refine lv_aload_n hx hb dL_law_1148 rfl (lv_at hl 1 rfl) ?_
  refine y_vi (As := []) (rest := []) C h (gX_BM κ ad σ) rfl (kX6_trace l D κ ad  σ (r := r) e1) (fun hts => cwV 0 hts gL_law_X6_trace rfl rfl rfl (by decide +kernel) ⟨Nat.le_of_ble_eq_true rfl, Nat.le_of_ble_eq_true rfl⟩) rfl hl.1 (Nat.le_of_ble_eq_true rfl) rfl dL_law_1149 ⟨Nat.le_of_ble_eq_true rfl, Nat.le_of_ble_eq_true rfl⟩ (fun H locs h => ?_)
  refine lv_aload_n hx hb dL_law_1152 rfl (lv_at hl 2 rfl) ?_
  refine y_vi (As := []) (rest := [.int r]) C h.swap (gM_Mo κ ad2 μ) rfl (kX7_trace l D κ ad2  μ (r := r) e2) (fun hts => cwV 0 hts gL_law_X7_trace rfl rfl rfl (by decide +kernel) ⟨Nat.le_of_ble_eq_true rfl, Nat.le_of_ble_eq_true rfl⟩) rfl hl.1 (Nat.le_of_ble_eq_true rfl) rfl dL_law_1153 ⟨Nat.le_of_ble_eq_true rfl, Nat.le_of_ble_eq_true rfl⟩ (fun H locs h => ?_)
  have h := h.swap
  refine lv_icmp_eq (tgt := 1197) hx hb dL_law_1156 (by decide) (fun c9 => ?_) (fun c9 => absurd rfl c9)
  exact hk σ μ _ _ _ h hI hl
set_option maxHeartbeats 4000000 in
set_option maxRecDepth 100000 in
theorem lc_fault {p : Program} {l : Launch} {e : Env} {s : State} {m : MethodId} {below : List Frame} {meth : Method} {c : Code} {b L : Nat} {xs : Nat → Int32} {D : va_G} {κ : Kp} {ad ad2 : Nat → Nat} (C : Mc p s m #[Value.ref b] meth c code 4 ret wsL_law RL D κ (fun q : Nat => s.heap.size ≤ q)) (hX : va_X b L xs s s.heap) (hbl : b < s.heap.size) (Q : State → Prop) (x3 : Int32) (h0 : vp_in x3 L) (h1 : vp_in (x3 + 1) L) (h2 : vp_in (x3 + 2) L) (h3 : vp_in (x3 + 3) L) (h4 : vp_in (x3 + 4) L) (h5 : vp_in (x3 + 5) L) (hk : ∀ (σ μ : Sg) (H : Heap) (locs : List Loc) (ls : Array Slot), W2 D (fun q : Nat => s.heap.size ≤ q) s.heap H locs (wsX κ ad) (wsM κ ad2) σ μ → Inv σ μ → lv_has ls 4 [(0, .ref b), (1, .ref (ad 0)), (2, .ref (ad2 0)), (3, .int x3)] → W p l e room_1 s m #[Value.ref b] below meth c H locs 40 738 Q (F0 m 1197 ls [])) (σ μ : Sg) (H : Heap) (locs : List Loc) (ls : Array Slot) (h : W2 D (fun q : Nat => s.heap.size ≤ q) s.heap H locs (wsX κ ad) (wsM κ ad2) σ μ) (hI : Inv σ μ) (hl : lv_has ls 4 [(0, .ref b), (1, .ref (ad 0)), (2, .ref (ad2 0)), (3, .int x3)]) : W p l e room_1 s m #[Value.ref b] below meth c H locs 40 738 Q (F0 m 1161 ls []) := by
  obtain ⟨hx, hb, hml, hr, hlk, hown, hts, hK, hA, hZ⟩ := id C
  have hbA : ¬ (fun q : Nat => s.heap.size ≤ q) b := Nat.not_le.mpr hbl
  obtain ⟨r, e1, e2⟩ := E_fault hI 
  refine lv_aload_n hx hb dL_law_1161 rfl (lv_at hl 1 rfl) ?_
  refine y_vi (As := []) (rest := []) C h (gX_BM κ ad σ) rfl (kX6_fault l D κ ad  σ (r := r) e1) (fun hts => cwV 0 hts gL_law_X6_fault rfl rfl rfl (by decide +kernel) ⟨Nat.le_of_ble_eq_true rfl, Nat.le_of_ble_eq_true rfl⟩) rfl hl.1 (Nat.le_of_ble_eq_true rfl) rfl dL_law_1162 ⟨Nat.le_of_ble_eq_true rfl, Nat.le_of_ble_eq_true rfl⟩ (fun H locs h => ?_)
  refine lv_aload_n hx hb dL_law_1165 rfl (lv_at hl 2 rfl) ?_
  refine y_vi (As := []) (rest := [.int r]) C h.swap (gM_Mo κ ad2 μ) rfl (kX7_fault l D κ ad2  μ (r := r) e2) (fun hts => cwV 0 hts gL_law_X7_fault rfl rfl rfl (by decide +kernel) ⟨Nat.le_of_ble_eq_true rfl, Nat.le_of_ble_eq_true rfl⟩) rfl hl.1 (Nat.le_of_ble_eq_true rfl) rfl dL_law_1166 ⟨Nat.le_of_ble_eq_true rfl, Nat.le_of_ble_eq_true rfl⟩ (fun H locs h => ?_)
  have h := h.swap
  refine lv_icmp_eq (tgt := 1197) hx hb dL_law_1169 (by decide) (fun c9 => ?_) (fun c9 => absurd rfl c9)
  exact hk σ μ _ _ _ h hI hl
set_option maxHeartbeats 4000000 in
set_option maxRecDepth 100000 in
theorem lc_many {p : Program} {l : Launch} {e : Env} {s : State} {m : MethodId} {below : List Frame} {meth : Method} {c : Code} {b L : Nat} {xs : Nat → Int32} {D : va_G} {κ : Kp} {ad ad2 : Nat → Nat} (C : Mc p s m #[Value.ref b] meth c code 4 ret wsL_law RL D κ (fun q : Nat => s.heap.size ≤ q)) (hX : va_X b L xs s s.heap) (hbl : b < s.heap.size) (Q : State → Prop) (x3 : Int32) (h0 : vp_in x3 L) (h1 : vp_in (x3 + 1) L) (h2 : vp_in (x3 + 2) L) (h3 : vp_in (x3 + 3) L) (h4 : vp_in (x3 + 4) L) (h5 : vp_in (x3 + 5) L) (hk : ∀ (σ μ : Sg) (H : Heap) (locs : List Loc) (ls : Array Slot), W2 D (fun q : Nat => s.heap.size ≤ q) s.heap H locs (wsX κ ad) (wsM κ ad2) σ μ → Inv σ μ → lv_has ls 4 [(0, .ref b), (1, .ref (ad 0)), (2, .ref (ad2 0)), (3, .int x3)] → W p l e room_1 s m #[Value.ref b] below meth c H locs 40 738 Q (F0 m 1197 ls [])) (σ μ : Sg) (H : Heap) (locs : List Loc) (ls : Array Slot) (h : W2 D (fun q : Nat => s.heap.size ≤ q) s.heap H locs (wsX κ ad) (wsM κ ad2) σ μ) (hI : Inv σ μ) (hl : lv_has ls 4 [(0, .ref b), (1, .ref (ad 0)), (2, .ref (ad2 0)), (3, .int x3)]) : W p l e room_1 s m #[Value.ref b] below meth c H locs 40 738 Q (F0 m 1174 ls []) := by
  obtain ⟨hx, hb, hml, hr, hlk, hown, hts, hK, hA, hZ⟩ := id C
  have hbA : ¬ (fun q : Nat => s.heap.size ≤ q) b := Nat.not_le.mpr hbl
  obtain ⟨r, e1, e2⟩ := E_many hI (xs (x3 + 1).toNatClampNeg)
  refine lv_aload_n hx hb dL_law_1174 rfl (lv_at hl 1 rfl) ?_
  refine lv_aload_n hx hb dL_law_1175 rfl (lv_at hl 0 rfl) ?_
  refine lv_iload_n hx hb dL_law_1176 rfl (lv_at hl 3 rfl) ?_
  refine lv_iconst (v := 1) hx hb dL_law_1177 (by decide) ?_
  refine lv_iadd hx hb dL_law_1178 ?_
  refine va_sld hx hb hX hbl hbA h.2.2.2.2.2 h1 dL_law_1179 ?_
  refine y_vi (As := [.int (xs (x3 + 1).toNatClampNeg)]) (rest := []) C h (gX_BM κ ad σ) rfl (kX6_many l D κ ad (xs (x3 + 1).toNatClampNeg) σ (r := r) e1) (fun hts => cwV 1 hts gL_law_X6_many rfl rfl rfl (by decide +kernel) ⟨Nat.le_of_ble_eq_true rfl, Nat.le_of_ble_eq_true rfl⟩) rfl hl.1 (Nat.le_of_ble_eq_true rfl) rfl dL_law_1180 ⟨Nat.le_of_ble_eq_true rfl, Nat.le_of_ble_eq_true rfl⟩ (fun H locs h => ?_)
  refine lv_aload_n hx hb dL_law_1183 rfl (lv_at hl 2 rfl) ?_
  refine lv_aload_n hx hb dL_law_1184 rfl (lv_at hl 0 rfl) ?_
  refine lv_iload_n hx hb dL_law_1185 rfl (lv_at hl 3 rfl) ?_
  refine lv_iconst (v := 1) hx hb dL_law_1186 (by decide) ?_
  refine lv_iadd hx hb dL_law_1187 ?_
  refine va_sld hx hb hX hbl hbA h.2.2.2.2.2 h1 dL_law_1188 ?_
  refine y_vi (As := [.int (xs (x3 + 1).toNatClampNeg)]) (rest := [.int r]) C h.swap (gM_Mo κ ad2 μ) rfl (kX7_many l D κ ad2 (xs (x3 + 1).toNatClampNeg) μ (r := r) e2) (fun hts => cwV 1 hts gL_law_X7_many rfl rfl rfl (by decide +kernel) ⟨Nat.le_of_ble_eq_true rfl, Nat.le_of_ble_eq_true rfl⟩) rfl hl.1 (Nat.le_of_ble_eq_true rfl) rfl dL_law_1189 ⟨Nat.le_of_ble_eq_true rfl, Nat.le_of_ble_eq_true rfl⟩ (fun H locs h => ?_)
  have h := h.swap
  refine lv_icmp_eq (tgt := 1197) hx hb dL_law_1192 (by decide) (fun c9 => ?_) (fun c9 => absurd rfl c9)
  exact hk σ μ _ _ _ h hI hl
