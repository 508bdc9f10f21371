/-! String.charAt on the class's two texts -/
def chS (i : Nat) (x : Int32) : Int32 := ((((stB.getD i []).getD x.toNatClampNeg 0) &&& 255).toUInt32 % 65536).toInt32
theorem gIn_lt {x : Int32} {n : Nat} (h : gIn x n) (hn : n < 2 ^ 31) : x < Int32.ofNat n := by
  obtain ⟨j, hj, rfl⟩ := vp_in_of h hn
  exact nI_lt hj hn
theorem gIn_ge {x : Int32} {n : Nat} (h : gIn x n) : ¬ x < 0 := fun q => h (Or.inl q)
theorem stN_small {i : Nat} (hi : i < 2) : ([11, 7] : List Nat).getD i 0 < 2 ^ 31 := by
  match i, hi with
  | 0, _ => decide
  | 1, _ => decide
set_option maxHeartbeats 4000000 in
set_option maxRecDepth 100000 in
theorem kJ3_check (l : Launch) (D : va_G) (κ : Kp) (ad : Nat → Nat) (x0 x1 : Int32) (v : Value) (hv : v = .null ∨ ∃ t, v = .ref t) (h0 : ¬ x0 < 0) (h1 : x0 < x1) (σ : Sg) : Ci l D κ (wsX κ ad) yJ3_checkIndex_8e157 wsJ3_checkIndex_8e157 0 0 [.int x0, .int x1, v] σ x0 σ := by
  rcases hv with rfl | ⟨t, rfl⟩
  · refine Ci.of (cc := cJ3_checkIndex_8e157) (nL := 3) (ret := (some .int)) (by decide) rfl (Nat.le_of_ble_eq_true rfl) ?_
    intro p e s m below meth c A ls C h hl
    obtain ⟨hx, hb, hml, hr, hlk, hown, hts, hK, hA, hZ⟩ := id C
    have hl : lv_has ls 3 [(0, .int x0), (1, .int x1)] := lv_sub hl [0, 1] rfl
    refine lv_iload_n hx hb dJ3_checkIndex_8e157_0 rfl (lv_at hl 0 rfl) ?_
    refine lv_if_lt (tgt := 9) hx hb dJ3_checkIndex_8e157_1 (by decide) (fun c1 => absurd c1 h0) (fun c1 => ?_)
    refine lv_iload_n hx hb dJ3_checkIndex_8e157_4 rfl (lv_at hl 0 rfl) ?_
    refine lv_iload_n hx hb dJ3_checkIndex_8e157_5 rfl (lv_at hl 1 rfl) ?_
    refine lv_icmp_lt (tgt := 16) hx hb dJ3_checkIndex_8e157_6 (by decide) (fun c2 => ?_) (fun c2 => absurd h1 c2)
    refine lv_iload_n hx hb dJ3_checkIndex_8e157_16 rfl (lv_at hl 0 rfl) ?_
    exact x_iret C h dJ3_checkIndex_8e157_17
  · refine Ci.of (cc := cJ3_checkIndex_8e157) (nL := 3) (ret := (some .int)) (by decide) rfl (Nat.le_of_ble_eq_true rfl) ?_
    intro p e s m below meth c A ls C h hl
    obtain ⟨hx, hb, hml, hr, hlk, hown, hts, hK, hA, hZ⟩ := id C
    have hl : lv_has ls 3 [(0, .int x0), (1, .int x1)] := lv_sub hl [0, 1] rfl
    refine lv_iload_n hx hb dJ3_checkIndex_8e157_0 rfl (lv_at hl 0 rfl) ?_
    refine lv_if_lt (tgt := 9) hx hb dJ3_checkIndex_8e157_1 (by decide) (fun c1 => absurd c1 h0) (fun c1 => ?_)
    refine lv_iload_n hx hb dJ3_checkIndex_8e157_4 rfl (lv_at hl 0 rfl) ?_
    refine lv_iload_n hx hb dJ3_checkIndex_8e157_5 rfl (lv_at hl 1 rfl) ?_
    refine lv_icmp_lt (tgt := 16) hx hb dJ3_checkIndex_8e157_6 (by decide) (fun c2 => ?_) (fun c2 => absurd h1 c2)
    refine lv_iload_n hx hb dJ3_checkIndex_8e157_16 rfl (lv_at hl 0 rfl) ?_
    exact x_iret C h dJ3_checkIndex_8e157_17
theorem lkJ0_ck : Cond.fieldLink RJ0 1053 "jdk/internal/util/Preconditions" "SIOOBE_FORMATTER" "Ljava/util/function/BiFunction;" ∈ wsJ0_checkIndex_df160 := by decide +kernel
set_option maxHeartbeats 4000000 in
set_option maxRecDepth 100000 in
theorem kJ0_check (l : Launch) (D : va_G) (κ : Kp) (ad : Nat → Nat) (x0 x1 : Int32) (h0 : ¬ x0 < 0) (h1 : x0 < x1) (σ : Sg) : Cv l D κ (wsX κ ad) yJ0_checkIndex_df160 wsJ0_checkIndex_df160 1 22 [.int x0, .int x1] σ σ := by
  refine Cv.of (cc := cJ0_checkIndex_df160) (nL := 2) (ret := none) (by decide) rfl (Nat.le_of_ble_eq_true rfl) ?_
  intro p e s m below meth c A ls C h hl
  obtain ⟨hx, hb, hml, hr, hlk, hown, hts, hK, hA, hZ⟩ := id C
  have hl : lv_has ls 2 [(0, .int x0), (1, .int x1)] := hl
  refine lv_iload_n hx hb dJ0_checkIndex_df160_0 rfl (lv_at hl 0 rfl) ?_
  refine lv_iload_n hx hb dJ0_checkIndex_df160_1 rfl (lv_at hl 1 rfl) ?_
  rcases hZ.2.2.2.1 with hq | ⟨t, hq⟩
  · refine va_gets hx hb hq h.2.2 hown (hts _ lkJ0_ck) (fun _ h9 => h9) dJ0_checkIndex_df160_2 ?_
    refine x_si (As := [.int x0, .int x1, .null]) (rest := []) C h (kJ3_check l D κ ad x0 x1 .null (Or.inl rfl) h0 h1 σ) (fun hts => va_cwS 3 hts gJ0_checkIndex_df160_J3_checkIndex_8e157 rfl rfl rfl (by decide +kernel) ⟨Nat.le_of_ble_eq_true rfl, Nat.le_of_ble_eq_true rfl⟩) rfl hl.1 (Nat.le_of_ble_eq_true rfl) rfl dJ0_checkIndex_df160_5 (fun H locs h => ?_)
    refine lv_pop hx hb dJ0_checkIndex_df160_8 rfl ?_
    exact x_vret C h dJ0_checkIndex_df160_9
  · refine va_gets hx hb hq h.2.2 hown (hts _ lkJ0_ck) (fun _ h9 => h9) dJ0_checkIndex_df160_2 ?_
    refine x_si (As := [.int x0, .int x1, .ref t]) (rest := []) C h (kJ3_check l D κ ad x0 x1 (.ref t) (Or.inr ⟨t, rfl⟩) h0 h1 σ) (fun hts => va_cwS 3 hts gJ0_checkIndex_df160_J3_checkIndex_8e157 rfl rfl rfl (by decide +kernel) ⟨Nat.le_of_ble_eq_true rfl, Nat.le_of_ble_eq_true rfl⟩) rfl hl.1 (Nat.le_of_ble_eq_true rfl) rfl dJ0_checkIndex_df160_5 (fun H locs h => ?_)
    refine lv_pop hx hb dJ0_checkIndex_df160_8 rfl ?_
    exact x_vret C h dJ0_checkIndex_df160_9
set_option maxHeartbeats 4000000 in
set_option maxRecDepth 100000 in
theorem kJ1_chr (l : Launch) (D : va_G) (κ : Kp) (ad : Nat → Nat) (i : Nat) (hi : i < 2) (x1 : Int32) (hg : gIn x1 (([11, 7] : List Nat).getD i 0)) (σ : Sg) : Ci l D κ (wsX κ ad) yJ1_charAt_3b067 wsJ1_charAt_3b067 2 43 [.ref (κ.2 (3 + i)), .int x1] σ (chS i x1) σ := by
  refine Ci.of (cc := cJ1_charAt_3b067) (nL := 2) (ret := (some .char)) (by decide) rfl (Nat.le_of_ble_eq_true rfl) ?_
  intro p e s m below meth c A ls C h hl
  obtain ⟨hx, hb, hml, hr, hlk, hown, hts, hK, hA, hZ⟩ := id C
  have hl : lv_has ls 2 [(0, .ref (κ.2 (3 + i))), (1, .int x1)] := hl
  have hT : va_T .byte (κ.2 (3 + i)) (([11, 7] : List Nat).getD i 0) (fun j => .int ((stB.getD i []).getD j 0)) A s s.heap := (hZ.2.2.2.2.2.2.1.1 i hi).2.2.2
  refine lv_iload_n hx hb dJ1_charAt_3b067_0 rfl (lv_at hl 1 rfl) ?_
  refine lv_aload_n hx hb dJ1_charAt_3b067_1 rfl (lv_at hl 0 rfl) ?_
  refine va_tlen (v := Int32.ofNat (([11, 7] : List Nat).getD i 0)) hx hb hT h.2.2 rfl dJ1_charAt_3b067_2 ?_
  refine x_sv (As := [.int x1, .int (Int32.ofNat (([11, 7] : List Nat).getD i 0))]) (rest := []) C h (kJ0_check l D κ ad x1 _ (gIn_ge hg) (gIn_lt hg (stN_small hi)) σ) (fun hts => va_cwS 2 hts gJ1_charAt_3b067_J0_checkIndex_df160 rfl rfl rfl (by decide +kernel) ⟨Nat.le_of_ble_eq_true rfl, Nat.le_of_ble_eq_true rfl⟩) rfl hl.1 (Nat.le_of_ble_eq_true rfl) rfl dJ1_charAt_3b067_3 (fun H locs h => ?_)
  refine lv_aload_n hx hb dJ1_charAt_3b067_6 rfl (lv_at hl 0 rfl) ?_
  refine lv_iload_n hx hb dJ1_charAt_3b067_7 rfl (lv_at hl 1 rfl) ?_
  refine va_tb (v := .int ((stB.getD i []).getD x1.toNatClampNeg 0)) hx hb hT h.2.2 hg rfl dJ1_charAt_3b067_8 ?_
  refine lv_sipush (v := 255) hx hb dJ1_charAt_3b067_9 (by decide) ?_
  refine lv_iand hx hb dJ1_charAt_3b067_12 ?_
  refine lv_i2c (v := chS i x1) hx hb dJ1_charAt_3b067_13 rfl ?_
  exact x_zret C (pk_nc _) h dJ1_charAt_3b067_14
theorem lkJ0_cs : Cond.fieldLink RJ0 38 "java/lang/String" "COMPACT_STRINGS" "Z" ∈ wsJ0_isLatin1_aae02 := by decide +kernel
theorem lkJ0_cd : Cond.fieldLink RJ0 15 "java/lang/String" "coder" "B" ∈ wsJ0_isLatin1_aae02 := by decide +kernel
set_option maxHeartbeats 4000000 in
set_option maxRecDepth 100000 in
theorem kJ0_lat (l : Launch) (D : va_G) (κ : Kp) (ad : Nat → Nat) (i : Nat) (hi : i < 2) (σ : Sg) : Ci l D κ (wsX κ ad) yJ0_isLatin1_aae02 wsJ0_isLatin1_aae02 0 0 [.ref (κ.2 (1 + i))] σ 1 σ := by
  refine Ci.of (cc := cJ0_isLatin1_aae02) (nL := 1) (ret := (some .boolean)) (by decide) rfl (Nat.le_of_ble_eq_true rfl) ?_
  intro p e s m below meth c A ls C h hl
  obtain ⟨hx, hb, hml, hr, hlk, hown, hts, hK, hA, hZ⟩ := id C
  have hl : lv_has ls 1 [(0, .ref (κ.2 (1 + i)))] := hl
  refine va_gets hx hb hZ.2.2.1 h.2.2 hown (hts _ lkJ0_cs) (fun _ h9 => h9) dJ0_isLatin1_aae02_0 ?_
  refine lv_if_eq (tgt := 17) hx hb dJ0_isLatin1_aae02_3 (by decide) (fun c1 => absurd c1 (by decide)) (fun c1 => ?_)
  refine lv_aload_n hx hb dJ0_isLatin1_aae02_6 rfl (lv_at hl 0 rfl) ?_
  refine vk_getf hx hb (hZ.2.2.2.2.2.2.1.1 i hi).2.1 h.2.2 hown (hts _ lkJ0_cd) (fun _ h9 => h9) dJ0_isLatin1_aae02_7 ?_
  refine lv_if_ne (tgt := 17) hx hb dJ0_isLatin1_aae02_10 (by decide) (fun c2 => absurd rfl c2) (fun c2 => ?_)
  refine lv_iconst (v := 1) hx hb dJ0_isLatin1_aae02_13 (by decide) ?_
  refine lv_goto (tgt := 18) hx hb dJ0_isLatin1_aae02_14 (by decide) ?_
  exact x_zret C rfl h dJ0_isLatin1_aae02_18
theorem lkJ0_va : Cond.fieldLink RJ0 9 "java/lang/String" "value" "[B" ∈ wsJ0_charAt_5068e := by decide +kernel
set_option maxHeartbeats 4000000 in
set_option maxRecDepth 100000 in
theorem kJ0_chr (l : Launch) (D : va_G) (κ : Kp) (ad : Nat → Nat) (i : Nat) (hi : i < 2) (x1 : Int32) (hg : gIn x1 (([11, 7] : List Nat).getD i 0)) (σ : Sg) : Ci l D κ (wsX κ ad) yJ0_charAt_5068e wsJ0_charAt_5068e 3 64 [.ref (κ.2 (1 + i)), .int x1] σ (chS i x1) σ := by
  refine Ci.of (cc := cJ0_charAt_5068e) (nL := 2) (ret := (some .char)) (by decide) rfl (Nat.le_of_ble_eq_true rfl) ?_
  intro p e s m below meth c A ls C h hl
  obtain ⟨hx, hb, hml, hr, hlk, hown, hts, hK, hA, hZ⟩ := id C
  have hl : lv_has ls 2 [(0, .ref (κ.2 (1 + i))), (1, .int x1)] := hl
  refine lv_aload_n hx hb dJ0_charAt_5068e_0 rfl (lv_at hl 0 rfl) ?_
  refine x_viR (cn := RJ0) (As := []) (rest := []) C h (vk_recv hZ.2.2.2.2.2.2.1 hi h.2.2) (kJ0_lat l D κ ad i hi σ) (fun hts => cwV 0 hts gJ0_charAt_5068e_J0_isLatin1_aae02 rfl rfl rfl (by decide +kernel) ⟨Nat.le_of_ble_eq_true rfl, Nat.le_of_ble_eq_true rfl⟩) rfl hl.1 (Nat.le_of_ble_eq_true rfl) rfl dJ0_charAt_5068e_1 (fun H locs h => ?_)
  refine lv_if_eq (tgt := 16) hx hb dJ0_charAt_5068e_4 (by decide) (fun c1 => absurd c1 (by decide)) (fun c1 => ?_)
  refine lv_aload_n hx hb dJ0_charAt_5068e_7 rfl (lv_at hl 0 rfl) ?_
  refine vk_getf hx hb (hZ.2.2.2.2.2.2.1.1 i hi).2.2.1 h.2.2 hown (hts _ lkJ0_va) (fun _ h9 => h9) dJ0_charAt_5068e_8 ?_
  refine lv_iload_n hx hb dJ0_charAt_5068e_11 rfl (lv_at hl 1 rfl) ?_
  refine x_si (As := [.ref (κ.2 (3 + i)), .int x1]) (rest := []) C h (kJ1_chr l D κ ad i hi x1 hg σ) (fun hts => va_cwS 2 hts gJ0_charAt_5068e_J1_charAt_3b067 rfl rfl rfl (by decide +kernel) ⟨Nat.le_of_ble_eq_true rfl, Nat.le_of_ble_eq_true rfl⟩) rfl hl.1 (Nat.le_of_ble_eq_true rfl) rfl dJ0_charAt_5068e_12 (fun H locs h => ?_)
  exact x_zret C (pk_nc _) h dJ0_charAt_5068e_15
