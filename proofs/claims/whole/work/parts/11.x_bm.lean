-- ===== X6_wanted: ButtonMatch.wanted(I)I
theorem lkX6_wanted_20 : Cond.fieldLink RX6 20 "ButtonMatch" "shop" "LButtonMatch$Shop;" ∈ wsX6_wanted := by decide +kernel
theorem inX6_wanted_X6 : ∀ w ∈ wsX60, w ∈ wsX6_wanted := fun _ h => List.mem_cons_of_mem _ (List.mem_append_left _ (List.mem_append_right _ h))
def fX6_wanted (x1 : Int32) (σ : Sg) : Int32 :=
  (if x1 < 0 then (-2) else (if x1 ≤ 3 then (if (fX2_isOpen σ) = 0 then (-3) else (fX2_wantedPart x1 σ)) else (-2)))
set_option maxHeartbeats 4000000 in
set_option maxRecDepth 100000 in
theorem kX6_wanted (l : Launch) (D : va_G) (κ : Kp) (ad : Nat → Nat) (x1 : Int32) (σ : Sg) {r : Int32} (hf : fX6_wanted x1 σ = r) : Ci l D κ (wsX κ ad) yX6_wanted wsX6_wanted 1 21 [.ref (ad 0), .int x1] σ r σ := by
  refine Ci.of (cc := cX6_wanted) (nL := 2) (ret := (some .int)) (by decide) rfl (Nat.le_of_ble_eq_true rfl) ?_
  intro p e s m below meth c A ls C h hl
  obtain ⟨hx, hb, hml, hr, hlk, hown, hts, hK, hA, hZ⟩ := id C
  have hl : lv_has ls 2 [(0, .ref (ad 0)), (1, .int x1)] := hl
  unfold fX6_wanted at hf
  refine lv_iload_n hx hb dX6_wanted_0 rfl (lv_at hl 1 rfl) ?_
  refine lv_if_lt (tgt := 9) hx hb dX6_wanted_1 (by decide) (fun c1 => ?_) (fun c1 => ?_)
  · have hf := tk_t c1 hf
    refine lv_bipush (v := (-2)) hx hb dX6_wanted_9 (by decide) ?_
    subst hf
    exact x_iret C h dX6_wanted_11
  · have hf := tk_f c1 hf
    refine lv_iload_n hx hb dX6_wanted_4 rfl (lv_at hl 1 rfl) ?_
    refine lv_iconst (v := 3) hx hb dX6_wanted_5 (by decide) ?_
    refine lv_icmp_le (tgt := 12) hx hb dX6_wanted_6 (by decide) (fun c2 => ?_) (fun c2 => ?_)
    · have hf := tk_t c2 hf
      refine lv_aload_n hx hb dX6_wanted_12 rfl (lv_at hl 0 rfl) ?_
      refine x_get (v := .ref (ad 10)) C h (gX_BM κ ad σ) rfl inX6_wanted_X6 1 (by decide) (hts _ lkX6_wanted_20) rfl dX6_wanted_13 ?_
      refine x_vi (As := []) (rest := []) C h (gX_Sp κ ad σ) rfl (kX2_isOpen l D κ ad σ (r := (fX2_isOpen σ)) rfl) (fun hts => cwV 0 hts gX6_wanted_X2_isOpen rfl rfl rfl (by decide +kernel) ⟨Nat.le_of_ble_eq_true rfl, Nat.le_of_ble_eq_true rfl⟩) rfl hl.1 (Nat.le_of_ble_eq_true rfl) rfl dX6_wanted_16 (fun H locs h => ?_)
      refine lv_if_eq (tgt := 33) hx hb dX6_wanted_19 (by decide) (fun c3 => ?_) (fun c3 => ?_)
      · have hf := tk_t c3 hf
        refine lv_bipush (v := (-3)) hx hb dX6_wanted_33 (by decide) ?_
        subst hf
        exact x_iret C h dX6_wanted_35
      · have hf := tk_f c3 hf
        refine lv_aload_n hx hb dX6_wanted_22 rfl (lv_at hl 0 rfl) ?_
        refine x_get (v := .ref (ad 10)) C h (gX_BM κ ad σ) rfl inX6_wanted_X6 1 (by decide) (hts _ lkX6_wanted_20) rfl dX6_wanted_23 ?_
        refine lv_iload_n hx hb dX6_wanted_26 rfl (lv_at hl 1 rfl) ?_
        refine x_vi (As := [.int x1]) (rest := []) C h (gX_Sp κ ad σ) rfl (kX2_wantedPart l D κ ad x1 σ (r := (fX2_wantedPart x1 σ)) rfl) (fun hts => cwV 1 hts gX6_wanted_X2_wantedPart rfl rfl rfl (by decide +kernel) ⟨Nat.le_of_ble_eq_true rfl, Nat.le_of_ble_eq_true rfl⟩) rfl hl.1 (Nat.le_of_ble_eq_true rfl) rfl dX6_wanted_27 (fun H locs h => ?_)
        refine lv_goto (tgt := 35) hx hb dX6_wanted_30 (by decide) ?_
        subst hf
        exact x_iret C h dX6_wanted_35
    · have hf := tk_f c2 hf
      refine lv_bipush (v := (-2)) hx hb dX6_wanted_9 (by decide) ?_
      subst hf
      exact x_iret C h dX6_wanted_11

-- ===== X6_isPlace: ButtonMatch.isPlace(I)Z
def fX6_isPlace (x0 : Int32) (σ : Sg) : Int32 :=
  (if x0 < 0 then 0 else (if 6 ≤ x0 then 0 else 1))
set_option maxHeartbeats 4000000 in
set_option maxRecDepth 100000 in
theorem kX6_isPlace (l : Launch) (D : va_G) (κ : Kp) (ad : Nat → Nat) (x0 : Int32) (σ : Sg) {r : Int32} (hf : fX6_isPlace x0 σ = r) : Ci l D κ (wsX κ ad) yX6_isPlace wsX6_isPlace 0 0 [.int x0] σ r σ := by
  refine Ci.of (cc := cX6_isPlace) (nL := 1) (ret := (some .boolean)) (by decide) rfl (Nat.le_of_ble_eq_true rfl) ?_
  intro p e s m below meth c A ls C h hl
  obtain ⟨hx, hb, hml, hr, hlk, hown, hts, hK, hA, hZ⟩ := id C
  have hl : lv_has ls 1 [(0, .int x0)] := hl
  unfold fX6_isPlace at hf
  refine lv_iload_n hx hb dX6_isPlace_0 rfl (lv_at hl 0 rfl) ?_
  refine lv_if_lt (tgt := 14) hx hb dX6_isPlace_1 (by decide) (fun c1 => ?_) (fun c1 => ?_)
  · have hf := tk_t c1 hf
    refine lv_iconst (v := 0) hx hb dX6_isPlace_14 (by decide) ?_
    subst hf
    exact x_zret C rfl h dX6_isPlace_15
  · have hf := tk_f c1 hf
    refine lv_iload_n hx hb dX6_isPlace_4 rfl (lv_at hl 0 rfl) ?_
    refine lv_bipush (v := 6) hx hb dX6_isPlace_5 (by decide) ?_
    refine lv_icmp_ge (tgt := 14) hx hb dX6_isPlace_7 (by decide) (fun c2 => ?_) (fun c2 => ?_)
    · have hf := tk_t c2 hf
      refine lv_iconst (v := 0) hx hb dX6_isPlace_14 (by decide) ?_
      subst hf
      exact x_zret C rfl h dX6_isPlace_15
    · have hf := tk_f c2 hf
      refine lv_iconst (v := 1) hx hb dX6_isPlace_10 (by decide) ?_
      refine lv_goto (tgt := 15) hx hb dX6_isPlace_11 (by decide) ?_
      subst hf
      exact x_zret C rfl h dX6_isPlace_15
theorem nzX6_isPlace (x0 : Int32) (σ : Sg) : narrow .boolean (.int (fX6_isPlace x0 σ)) = .int (fX6_isPlace x0 σ) := by
  unfold fX6_isPlace
  repeat' split
  all_goals rfl

-- ===== X6_seen: ButtonMatch.seen(I)I
theorem lkX6_seen_20 : Cond.fieldLink RX6 20 "ButtonMatch" "shop" "LButtonMatch$Shop;" ∈ wsX6_seen := by decide +kernel
theorem inX6_seen_X6 : ∀ w ∈ wsX60, w ∈ wsX6_seen := fun _ h => List.mem_cons_of_mem _ (List.mem_append_left _ (List.mem_append_right _ h))
theorem nkRX6_71 : ("ButtonMatch", 71, "ButtonMatch$Shop", "seen", "[I") ∈ nestL := by decide
theorem inX6_seen_X2 : ∀ w ∈ wsX20, w ∈ wsX6_seen := fun _ h => List.mem_cons_of_mem _ (List.mem_append_right _ h)
def fX6_seen (x1 : Int32) (σ : Sg) : Option (Int32) :=
  (if (fX6_isPlace x1 σ) = 0 then some (-1) else (if (fX2_isOpen σ) = 0 then some (-3) else (if gIn x1 6 then some (σ 12 x1.toNatClampNeg) else none)))
set_option maxHeartbeats 4000000 in
set_option maxRecDepth 100000 in
theorem kX6_seen (l : Launch) (D : va_G) (κ : Kp) (ad : Nat → Nat) (x1 : Int32) (σ : Sg) {r : Int32} (hf : fX6_seen x1 σ = some r) : Ci l D κ (wsX κ ad) yX6_seen wsX6_seen 1 20 [.ref (ad 0), .int x1] σ r σ := by
  refine Ci.of (cc := cX6_seen) (nL := 2) (ret := (some .int)) (by decide) rfl (Nat.le_of_ble_eq_true rfl) ?_
  intro p e s m below meth c A ls C h hl
  obtain ⟨hx, hb, hml, hr, hlk, hown, hts, hK, hA, hZ⟩ := id C
  have hl : lv_has ls 2 [(0, .ref (ad 0)), (1, .int x1)] := hl
  unfold fX6_seen at hf
  refine lv_iload_n hx hb dX6_seen_0 rfl (lv_at hl 1 rfl) ?_
  refine x_si (As := [.int x1]) (rest := []) C h (kX6_isPlace l D κ ad x1 σ (r := (fX6_isPlace x1 σ)) rfl) (fun hts => va_cwS 1 hts gX6_seen_X6_isPlace rfl rfl rfl (by decide +kernel) ⟨Nat.le_of_ble_eq_true rfl, Nat.le_of_ble_eq_true rfl⟩) rfl hl.1 (Nat.le_of_ble_eq_true rfl) rfl dX6_seen_1 (fun H locs h => ?_)
  refine lv_if_ne (tgt := 9) hx hb dX6_seen_4 (by decide) (fun c1 => ?_) (fun c1 => ?_)
  · have hf := tk_f c1 hf
    refine lv_aload_n hx hb dX6_seen_9 rfl (lv_at hl 0 rfl) ?_
    refine x_get (v := .ref (ad 10)) C h (gX_BM κ ad σ) rfl inX6_seen_X6 1 (by decide) (hts _ lkX6_seen_20) rfl dX6_seen_10 ?_
    refine x_vi (As := []) (rest := []) C h (gX_Sp κ ad σ) rfl (kX2_isOpen l D κ ad σ (r := (fX2_isOpen σ)) rfl) (fun hts => cwV 0 hts gX6_seen_X2_isOpen rfl rfl rfl (by decide +kernel) ⟨Nat.le_of_ble_eq_true rfl, Nat.le_of_ble_eq_true rfl⟩) rfl hl.1 (Nat.le_of_ble_eq_true rfl) rfl dX6_seen_13 (fun H locs h => ?_)
    refine lv_if_eq (tgt := 31) hx hb dX6_seen_16 (by decide) (fun c2 => ?_) (fun c2 => ?_)
    · have hf := tk_t c2 hf
      refine lv_bipush (v := (-3)) hx hb dX6_seen_31 (by decide) ?_
      obtain rfl := so_ok hf
      exact x_iret C h dX6_seen_33
    · have hf := tk_f c2 hf
      refine lv_aload_n hx hb dX6_seen_19 rfl (lv_at hl 0 rfl) ?_
      refine x_get (v := .ref (ad 10)) C h (gX_BM κ ad σ) rfl inX6_seen_X6 1 (by decide) (hts _ lkX6_seen_20) rfl dX6_seen_20 ?_
      refine x_getN (v := .ref (ad 12)) C h (gX_Sp κ ad σ) rfl inX6_seen_X2 1 (by decide) ((hZ.2.2.2.2.2.2.2.1 _ nkRX6_71).use rfl) rfl dX6_seen_23 ?_
      refine lv_iload_n hx hb dX6_seen_26 rfl (lv_at hl 1 rfl) ?_
      obtain ⟨g3, hf⟩ := gd_ok hf
      refine x_iald (v := (σ 12 x1.toNatClampNeg)) C h (gX_se κ ad σ) g3 rfl dX6_seen_27 ?_
      refine lv_goto (tgt := 33) hx hb dX6_seen_28 (by decide) ?_
      obtain rfl := so_ok hf
      exact x_iret C h dX6_seen_33
  · have hf := tk_t c1 hf
    refine lv_iconst (v := (-1)) hx hb dX6_seen_7 (by decide) ?_
    obtain rfl := so_ok hf
    exact x_iret C h dX6_seen_8

-- ===== X6_ofTube: ButtonMatch.ofTube(II)I
theorem lkX6_ofTube_20 : Cond.fieldLink RX6 20 "ButtonMatch" "shop" "LButtonMatch$Shop;" ∈ wsX6_ofTube := by decide +kernel
theorem inX6_ofTube_X6 : ∀ w ∈ wsX60, w ∈ wsX6_ofTube := fun _ h => List.mem_cons_of_mem _ (List.mem_append_left _ (List.mem_append_left _ (List.mem_append_right _ h)))
theorem nkRX6_78 : ("ButtonMatch", 78, "ButtonMatch$Shop", "tubes", "[LButtonMatch$Tube;") ∈ nestL := by decide
theorem inX6_ofTube_X2 : ∀ w ∈ wsX20, w ∈ wsX6_ofTube := fun _ h => List.mem_cons_of_mem _ (List.mem_append_left _ (List.mem_append_right _ h))
def fX6_ofTube (x1 : Int32) (x2 : Int32) (σ : Sg) : Option (Int32) :=
  (if (fX2_hasTube x1 σ) = 0 then some (-1) else (if x2 < 0 then some (-2) else (if x2 ≤ 7 then (if gIn x1 6 then some (fX5_part x1.toNatClampNeg x2 σ) else none) else some (-2))))
set_option maxHeartbeats 4000000 in
set_option maxRecDepth 100000 in
theorem kX6_ofTube (l : Launch) (D : va_G) (κ : Kp) (ad : Nat → Nat) (x1 : Int32) (x2 : Int32) (σ : Sg) {r : Int32} (hf : fX6_ofTube x1 x2 σ = some r) : Ci l D κ (wsX κ ad) yX6_ofTube wsX6_ofTube 3 64 [.ref (ad 0), .int x1, .int x2] σ r σ := by
  refine Ci.of (cc := cX6_ofTube) (nL := 3) (ret := (some .int)) (by decide) rfl (Nat.le_of_ble_eq_true rfl) ?_
  intro p e s m below meth c A ls C h hl
  obtain ⟨hx, hb, hml, hr, hlk, hown, hts, hK, hA, hZ⟩ := id C
  have hl : lv_has ls 3 [(0, .ref (ad 0)), (1, .int x1), (2, .int x2)] := hl
  unfold fX6_ofTube at hf
  refine lv_aload_n hx hb dX6_ofTube_0 rfl (lv_at hl 0 rfl) ?_
  refine x_get (v := .ref (ad 10)) C h (gX_BM κ ad σ) rfl inX6_ofTube_X6 1 (by decide) (hts _ lkX6_ofTube_20) rfl dX6_ofTube_1 ?_
  refine lv_iload_n hx hb dX6_ofTube_4 rfl (lv_at hl 1 rfl) ?_
  refine x_vi (As := [.int x1]) (rest := []) C h (gX_Sp κ ad σ) rfl (kX2_hasTube l D κ ad x1 σ (r := (fX2_hasTube x1 σ)) rfl) (fun hts => cwV 1 hts gX6_ofTube_X2_hasTube rfl rfl rfl (by decide +kernel) ⟨Nat.le_of_ble_eq_true rfl, Nat.le_of_ble_eq_true rfl⟩) rfl hl.1 (Nat.le_of_ble_eq_true rfl) rfl dX6_ofTube_5 (fun H locs h => ?_)
  refine lv_if_ne (tgt := 13) hx hb dX6_ofTube_8 (by decide) (fun c1 => ?_) (fun c1 => ?_)
  · have hf := tk_f c1 hf
    refine lv_iload_n hx hb dX6_ofTube_13 rfl (lv_at hl 2 rfl) ?_
    refine lv_if_lt (tgt := 23) hx hb dX6_ofTube_14 (by decide) (fun c2 => ?_) (fun c2 => ?_)
    · have hf := tk_t c2 hf
      refine lv_bipush (v := (-2)) hx hb dX6_ofTube_23 (by decide) ?_
      refine lv_goto (tgt := 41) hx hb dX6_ofTube_25 (by decide) ?_
      obtain rfl := so_ok hf
      exact x_iret C h dX6_ofTube_41
    · have hf := tk_f c2 hf
      refine lv_iload_n hx hb dX6_ofTube_17 rfl (lv_at hl 2 rfl) ?_
      refine lv_bipush (v := 7) hx hb dX6_ofTube_18 (by decide) ?_
      refine lv_icmp_le (tgt := 28) hx hb dX6_ofTube_20 (by decide) (fun c3 => ?_) (fun c3 => ?_)
      · have hf := tk_t c3 hf
        refine lv_aload_n hx hb dX6_ofTube_28 rfl (lv_at hl 0 rfl) ?_
        refine x_get (v := .ref (ad 10)) C h (gX_BM κ ad σ) rfl inX6_ofTube_X6 1 (by decide) (hts _ lkX6_ofTube_20) rfl dX6_ofTube_29 ?_
        refine x_getN (v := .ref (ad 11)) C h (gX_Sp κ ad σ) rfl inX6_ofTube_X2 0 (by decide) ((hZ.2.2.2.2.2.2.2.1 _ nkRX6_78).use rfl) rfl dX6_ofTube_32 ?_
        refine lv_iload_n hx hb dX6_ofTube_35 rfl (lv_at hl 1 rfl) ?_
        obtain ⟨g4, hf⟩ := gd_ok hf
        have b5 : x1.toNatClampNeg < 6 := vp_lt g4
        refine x_aald (t0 := 3) (cn := "ButtonMatch$Tube") (b := ad (13 + x1.toNatClampNeg)) C h (gX_arT κ ad σ) rfl g4 rfl dX6_ofTube_36 ?_
        refine lv_iload_n hx hb dX6_ofTube_37 rfl (lv_at hl 2 rfl) ?_
        refine x_vi (As := [.int x2]) (rest := []) C h (gX_Tu κ ad σ b5) rfl (kX5_part l D κ ad x1.toNatClampNeg b5 x2 σ (r := (fX5_part x1.toNatClampNeg x2 σ)) rfl) (fun hts => cwV 1 hts gX6_ofTube_X5_part rfl rfl rfl (by decide +kernel) ⟨Nat.le_of_ble_eq_true rfl, Nat.le_of_ble_eq_true rfl⟩) rfl hl.1 (Nat.le_of_ble_eq_true rfl) rfl dX6_ofTube_38 (fun H locs h => ?_)
        obtain rfl := so_ok hf
        exact x_iret C h dX6_ofTube_41
      · have hf := tk_f c3 hf
        refine lv_bipush (v := (-2)) hx hb dX6_ofTube_23 (by decide) ?_
        refine lv_goto (tgt := 41) hx hb dX6_ofTube_25 (by decide) ?_
        obtain rfl := so_ok hf
        exact x_iret C h dX6_ofTube_41
  · have hf := tk_t c1 hf
    refine lv_iconst (v := (-1)) hx hb dX6_ofTube_11 (by decide) ?_
    obtain rfl := so_ok hf
    exact x_iret C h dX6_ofTube_12

-- ===== X6_memory: ButtonMatch.memory(II)I
def fX6_memory (x0 : Int32) (x1 : Int32) (σ : Sg) : Int32 :=
  ((10 * x0) + x1)
set_option maxHeartbeats 4000000 in
set_option maxRecDepth 100000 in
theorem kX6_memory (l : Launch) (D : va_G) (κ : Kp) (ad : Nat → Nat) (x0 : Int32) (x1 : Int32) (σ : Sg) {r : Int32} (hf : fX6_memory x0 x1 σ = r) : Ci l D κ (wsX κ ad) yX6_memory wsX6_memory 0 0 [.int x0, .int x1] σ r σ := by
  refine Ci.of (cc := cX6_memory) (nL := 2) (ret := (some .int)) (by decide) rfl (Nat.le_of_ble_eq_true rfl) ?_
  intro p e s m below meth c A ls C h hl
  obtain ⟨hx, hb, hml, hr, hlk, hown, hts, hK, hA, hZ⟩ := id C
  have hl : lv_has ls 2 [(0, .int x0), (1, .int x1)] := hl
  unfold fX6_memory at hf
  refine lv_bipush (v := 10) hx hb dX6_memory_0 (by decide) ?_
  refine lv_iload_n hx hb dX6_memory_2 rfl (lv_at hl 0 rfl) ?_
  refine lv_imul hx hb dX6_memory_3 ?_
  refine lv_iload_n hx hb dX6_memory_4 rfl (lv_at hl 1 rfl) ?_
  refine lv_iadd hx hb dX6_memory_5 ?_
  subst hf
  exact x_iret C h dX6_memory_6

-- ===== X6_remember: ButtonMatch.remember(II)I
theorem lkX6_remember_20 : Cond.fieldLink RX6 20 "ButtonMatch" "shop" "LButtonMatch$Shop;" ∈ wsX6_remember := by decide +kernel
theorem inX6_remember_X6 : ∀ w ∈ wsX60, w ∈ wsX6_remember := fun _ h => List.mem_cons_of_mem _ (List.mem_append_left _ (List.mem_append_right _ h))
theorem nkRX6_87 : ("ButtonMatch", 87, "ButtonMatch$Shop", "redder", "I") ∈ nestL := by decide
theorem inX6_remember_X2 : ∀ w ∈ wsX20, w ∈ wsX6_remember := fun _ h => List.mem_cons_of_mem _ (List.mem_append_right _ h)
theorem nkRX6_90 : ("ButtonMatch", 90, "ButtonMatch$Shop", "larger", "I") ∈ nestL := by decide
def fX6_remember (x1 : Int32) (x2 : Int32) (σ : Sg) : Int32 × Sg :=
  (if x1 < 0 then ((-2), σ) else (if 3 < x1 then ((-2), σ) else (if x2 < 0 then ((-2), σ) else (if x2 ≤ 3 then (if (fX2_isOpen σ) = 0 then ((-3), σ) else ((fX6_memory (σ 10 7) (σ 10 8) σ), (up2 (up2 σ 10 7 x1) 10 8 x2))) else ((-2), σ)))))
set_option maxHeartbeats 4000000 in
set_option maxRecDepth 100000 in
theorem kX6_remember (l : Launch) (D : va_G) (κ : Kp) (ad : Nat → Nat) (x1 : Int32) (x2 : Int32) (σ : Sg) {r : Int32} {τ : Sg} (hf : fX6_remember x1 x2 σ = (r, τ)) : Ci l D κ (wsX κ ad) yX6_remember wsX6_remember 1 21 [.ref (ad 0), .int x1, .int x2] σ r τ := by
  refine Ci.of (cc := cX6_remember) (nL := 4) (ret := (some .int)) (by decide) rfl (Nat.le_of_ble_eq_true rfl) ?_
  intro p e s m below meth c A ls C h hl
  obtain ⟨hx, hb, hml, hr, hlk, hown, hts, hK, hA, hZ⟩ := id C
  have hl : lv_has ls 4 [(0, .ref (ad 0)), (1, .int x1), (2, .int x2)] := hl
  unfold fX6_remember at hf
  refine lv_iload_n hx hb dX6_remember_0 rfl (lv_at hl 1 rfl) ?_
  refine lv_if_lt (tgt := 18) hx hb dX6_remember_1 (by decide) (fun c1 => ?_) (fun c1 => ?_)
  · have hf := tk_t c1 hf
    refine lv_bipush (v := (-2)) hx hb dX6_remember_18 (by decide) ?_
    obtain ⟨rfl, rfl⟩ := pr_tot hf
    exact x_iret C h dX6_remember_20
  · have hf := tk_f c1 hf
    refine lv_iload_n hx hb dX6_remember_4 rfl (lv_at hl 1 rfl) ?_
    refine lv_iconst (v := 3) hx hb dX6_remember_5 (by decide) ?_
    refine lv_icmp_gt (tgt := 18) hx hb dX6_remember_6 (by decide) (fun c2 => ?_) (fun c2 => ?_)
    · have hf := tk_t c2 hf
      refine lv_bipush (v := (-2)) hx hb dX6_remember_18 (by decide) ?_
      obtain ⟨rfl, rfl⟩ := pr_tot hf
      exact x_iret C h dX6_remember_20
    · have hf := tk_f c2 hf
      refine lv_iload_n hx hb dX6_remember_9 rfl (lv_at hl 2 rfl) ?_
      refine lv_if_lt (tgt := 18) hx hb dX6_remember_10 (by decide) (fun c3 => ?_) (fun c3 => ?_)
      · have hf := tk_t c3 hf
        refine lv_bipush (v := (-2)) hx hb dX6_remember_18 (by decide) ?_
        obtain ⟨rfl, rfl⟩ := pr_tot hf
        exact x_iret C h dX6_remember_20
      · have hf := tk_f c3 hf
        refine lv_iload_n hx hb dX6_remember_13 rfl (lv_at hl 2 rfl) ?_
        refine lv_iconst (v := 3) hx hb dX6_remember_14 (by decide) ?_
        refine lv_icmp_le (tgt := 21) hx hb dX6_remember_15 (by decide) (fun c4 => ?_) (fun c4 => ?_)
        · have hf := tk_t c4 hf
          refine lv_aload_n hx hb dX6_remember_21 rfl (lv_at hl 0 rfl) ?_
          refine x_get (v := .ref (ad 10)) C h (gX_BM κ ad σ) rfl inX6_remember_X6 1 (by decide) (hts _ lkX6_remember_20) rfl dX6_remember_22 ?_
          refine x_vi (As := []) (rest := []) C h (gX_Sp κ ad σ) rfl (kX2_isOpen l D κ ad σ (r := (fX2_isOpen σ)) rfl) (fun hts => cwV 0 hts gX6_remember_X2_isOpen rfl rfl rfl (by decide +kernel) ⟨Nat.le_of_ble_eq_true rfl, Nat.le_of_ble_eq_true rfl⟩) rfl hl.1 (Nat.le_of_ble_eq_true rfl) rfl dX6_remember_25 (fun H locs h => ?_)
          refine lv_if_ne (tgt := 34) hx hb dX6_remember_28 (by decide) (fun c5 => ?_) (fun c5 => ?_)
          · have hf := tk_f c5 hf
            refine lv_aload_n hx hb dX6_remember_34 rfl (lv_at hl 0 rfl) ?_
            refine x_get (v := .ref (ad 10)) C h (gX_BM κ ad σ) rfl inX6_remember_X6 1 (by decide) (hts _ lkX6_remember_20) rfl dX6_remember_35 ?_
            refine x_getN (v := .int (σ 10 7)) C h (gX_Sp κ ad σ) rfl inX6_remember_X2 7 (by decide) ((hZ.2.2.2.2.2.2.2.1 _ nkRX6_87).use rfl) rfl dX6_remember_38 ?_
            refine lv_aload_n hx hb dX6_remember_41 rfl (lv_at hl 0 rfl) ?_
            refine x_get (v := .ref (ad 10)) C h (gX_BM κ ad σ) rfl inX6_remember_X6 1 (by decide) (hts _ lkX6_remember_20) rfl dX6_remember_42 ?_
            refine x_getN (v := .int (σ 10 8)) C h (gX_Sp κ ad σ) rfl inX6_remember_X2 8 (by decide) ((hZ.2.2.2.2.2.2.2.1 _ nkRX6_90).use rfl) rfl dX6_remember_45 ?_
            refine x_si (As := [.int (σ 10 7), .int (σ 10 8)]) (rest := []) C h (kX6_memory l D κ ad (σ 10 7) (σ 10 8) σ (r := (fX6_memory (σ 10 7) (σ 10 8) σ)) rfl) (fun hts => va_cwS 2 hts gX6_remember_X6_memory rfl rfl rfl (by decide +kernel) ⟨Nat.le_of_ble_eq_true rfl, Nat.le_of_ble_eq_true rfl⟩) rfl hl.1 (Nat.le_of_ble_eq_true rfl) rfl dX6_remember_48 (fun H locs h => ?_)
            refine lv_istore_n (lv' := [(3, .int (fX6_memory (σ 10 7) (σ 10 8) σ)), (0, .ref (ad 0)), (1, .int x1), (2, .int x2)]) hx hb dX6_remember_51 rfl hl (by decide) rfl (fun ls hl => ?_)
            refine lv_aload_n hx hb dX6_remember_52 rfl (lv_at hl 1 rfl) ?_
            refine x_get (v := .ref (ad 10)) C h (gX_BM κ ad σ) rfl inX6_remember_X6 1 (by decide) (hts _ lkX6_remember_20) rfl dX6_remember_53 ?_
            refine lv_iload_n hx hb dX6_remember_56 rfl (lv_at hl 2 rfl) ?_
            refine x_putN C h (gX_Sp κ ad σ) rfl inX6_remember_X2 tyX2 tyX2_ok nmX2 7 (by decide) ((hZ.2.2.2.2.2.2.2.1 _ nkRX6_87).use rfl) rfl (tyX2_ok 7 (by decide)) (Nat.le_of_ble_eq_true rfl) (sX_Sp_7 κ ad σ x1) dX6_remember_57 (fun H locs h => ?_)
            refine lv_aload_n hx hb dX6_remember_60 rfl (lv_at hl 1 rfl) ?_
            refine x_get (v := .ref (ad 10)) C h (gX_BM κ ad (up2 σ 10 7 x1)) rfl inX6_remember_X6 1 (by decide) (hts _ lkX6_remember_20) rfl dX6_remember_61 ?_
            refine lv_iload_n hx hb dX6_remember_64 rfl (lv_at hl 3 rfl) ?_
            refine x_putN C h (gX_Sp κ ad (up2 σ 10 7 x1)) rfl inX6_remember_X2 tyX2 tyX2_ok nmX2 8 (by decide) ((hZ.2.2.2.2.2.2.2.1 _ nkRX6_90).use rfl) rfl (tyX2_ok 8 (by decide)) (Nat.le_of_ble_eq_true rfl) (sX_Sp_8 κ ad (up2 σ 10 7 x1) x2) dX6_remember_65 (fun H locs h => ?_)
            refine lv_iload_n hx hb dX6_remember_68 rfl (lv_at hl 0 rfl) ?_
            obtain ⟨rfl, rfl⟩ := pr_tot hf
            exact x_iret C h dX6_remember_69
          · have hf := tk_t c5 hf
            refine lv_bipush (v := (-3)) hx hb dX6_remember_31 (by decide) ?_
            obtain ⟨rfl, rfl⟩ := pr_tot hf
            exact x_iret C h dX6_remember_33
        · have hf := tk_f c4 hf
          refine lv_bipush (v := (-2)) hx hb dX6_remember_18 (by decide) ?_
          obtain ⟨rfl, rfl⟩ := pr_tot hf
          exact x_iret C h dX6_remember_20

-- ===== X6_near: ButtonMatch.near(I)I
theorem lkX6_near_20 : Cond.fieldLink RX6 20 "ButtonMatch" "shop" "LButtonMatch$Shop;" ∈ wsX6_near := by decide +kernel
theorem inX6_near_X6 : ∀ w ∈ wsX60, w ∈ wsX6_near := fun _ h => List.mem_cons_of_mem _ (List.mem_append_left _ (List.mem_append_right _ h))
theorem nkRX6_97 : ("ButtonMatch", 97, "ButtonMatch$Shop", "near", "I") ∈ nestL := by decide
theorem inX6_near_X2 : ∀ w ∈ wsX20, w ∈ wsX6_near := fun _ h => List.mem_cons_of_mem _ (List.mem_append_right _ h)
def fX6_near (x1 : Int32) (σ : Sg) : Int32 × Sg :=
  (if x1 < 0 then ((-2), σ) else (if x1 ≤ 20 then (if (fX2_isOpen σ) = 0 then ((-3), σ) else ((σ 10 9), (up2 σ 10 9 x1))) else ((-2), σ)))
set_option maxHeartbeats 4000000 in
set_option maxRecDepth 100000 in
theorem kX6_near (l : Launch) (D : va_G) (κ : Kp) (ad : Nat → Nat) (x1 : Int32) (σ : Sg) {r : Int32} {τ : Sg} (hf : fX6_near x1 σ = (r, τ)) : Ci l D κ (wsX κ ad) yX6_near wsX6_near 1 20 [.ref (ad 0), .int x1] σ r τ := by
  refine Ci.of (cc := cX6_near) (nL := 3) (ret := (some .int)) (by decide) rfl (Nat.le_of_ble_eq_true rfl) ?_
  intro p e s m below meth c A ls C h hl
  obtain ⟨hx, hb, hml, hr, hlk, hown, hts, hK, hA, hZ⟩ := id C
  have hl : lv_has ls 3 [(0, .ref (ad 0)), (1, .int x1)] := hl
  unfold fX6_near at hf
  refine lv_iload_n hx hb dX6_near_0 rfl (lv_at hl 1 rfl) ?_
  refine lv_if_lt (tgt := 10) hx hb dX6_near_1 (by decide) (fun c1 => ?_) (fun c1 => ?_)
  · have hf := tk_t c1 hf
    refine lv_bipush (v := (-2)) hx hb dX6_near_10 (by decide) ?_
    obtain ⟨rfl, rfl⟩ := pr_tot hf
    exact x_iret C h dX6_near_12
  · have hf := tk_f c1 hf
    refine lv_iload_n hx hb dX6_near_4 rfl (lv_at hl 1 rfl) ?_
    refine lv_bipush (v := 20) hx hb dX6_near_5 (by decide) ?_
    refine lv_icmp_le (tgt := 13) hx hb dX6_near_7 (by decide) (fun c2 => ?_) (fun c2 => ?_)
    · have hf := tk_t c2 hf
      refine lv_aload_n hx hb dX6_near_13 rfl (lv_at hl 0 rfl) ?_
      refine x_get (v := .ref (ad 10)) C h (gX_BM κ ad σ) rfl inX6_near_X6 1 (by decide) (hts _ lkX6_near_20) rfl dX6_near_14 ?_
      refine x_vi (As := []) (rest := []) C h (gX_Sp κ ad σ) rfl (kX2_isOpen l D κ ad σ (r := (fX2_isOpen σ)) rfl) (fun hts => cwV 0 hts gX6_near_X2_isOpen rfl rfl rfl (by decide +kernel) ⟨Nat.le_of_ble_eq_true rfl, Nat.le_of_ble_eq_true rfl⟩) rfl hl.1 (Nat.le_of_ble_eq_true rfl) rfl dX6_near_17 (fun H locs h => ?_)
      refine lv_if_ne (tgt := 26) hx hb dX6_near_20 (by decide) (fun c3 => ?_) (fun c3 => ?_)
      · have hf := tk_f c3 hf
        refine lv_aload_n hx hb dX6_near_26 rfl (lv_at hl 0 rfl) ?_
        refine x_get (v := .ref (ad 10)) C h (gX_BM κ ad σ) rfl inX6_near_X6 1 (by decide) (hts _ lkX6_near_20) rfl dX6_near_27 ?_
        refine x_getN (v := .int (σ 10 9)) C h (gX_Sp κ ad σ) rfl inX6_near_X2 9 (by decide) ((hZ.2.2.2.2.2.2.2.1 _ nkRX6_97).use rfl) rfl dX6_near_30 ?_
        refine lv_istore_n (lv' := [(2, .int (σ 10 9)), (0, .ref (ad 0)), (1, .int x1)]) hx hb dX6_near_33 rfl hl (by decide) rfl (fun ls hl => ?_)
        refine lv_aload_n hx hb dX6_near_34 rfl (lv_at hl 1 rfl) ?_
        refine x_get (v := .ref (ad 10)) C h (gX_BM κ ad σ) rfl inX6_near_X6 1 (by decide) (hts _ lkX6_near_20) rfl dX6_near_35 ?_
        refine lv_iload_n hx hb dX6_near_38 rfl (lv_at hl 2 rfl) ?_
        refine x_putN C h (gX_Sp κ ad σ) rfl inX6_near_X2 tyX2 tyX2_ok nmX2 9 (by decide) ((hZ.2.2.2.2.2.2.2.1 _ nkRX6_97).use rfl) rfl (tyX2_ok 9 (by decide)) (Nat.le_of_ble_eq_true rfl) (sX_Sp_9 κ ad σ x1) dX6_near_39 (fun H locs h => ?_)
        refine lv_iload_n hx hb dX6_near_42 rfl (lv_at hl 0 rfl) ?_
        obtain ⟨rfl, rfl⟩ := pr_tot hf
        exact x_iret C h dX6_near_43
      · have hf := tk_t c3 hf
        refine lv_bipush (v := (-3)) hx hb dX6_near_23 (by decide) ?_
        obtain ⟨rfl, rfl⟩ := pr_tot hf
        exact x_iret C h dX6_near_25
    · have hf := tk_f c2 hf
      refine lv_bipush (v := (-2)) hx hb dX6_near_10 (by decide) ?_
      obtain ⟨rfl, rfl⟩ := pr_tot hf
      exact x_iret C h dX6_near_12

-- ===== X6_stock: ButtonMatch.stock(II)I
theorem lkX6_stock_20 : Cond.fieldLink RX6 20 "ButtonMatch" "shop" "LButtonMatch$Shop;" ∈ wsX6_stock := by decide +kernel
theorem inX6_stock_X6 : ∀ w ∈ wsX60, w ∈ wsX6_stock := fun _ h => List.mem_cons_of_mem _ (List.mem_append_left _ (List.mem_append_left _ (List.mem_append_right _ h)))
theorem inX6_stock_X2 : ∀ w ∈ wsX20, w ∈ wsX6_stock := fun _ h => List.mem_cons_of_mem _ (List.mem_append_left _ (List.mem_append_right _ h))
theorem nkRX6_100 : ("ButtonMatch", 100, "ButtonMatch$Tube", "count", "I") ∈ nestL := by decide
theorem inX6_stock_X5 : ∀ w ∈ wsX50, w ∈ wsX6_stock := fun _ h => List.mem_cons_of_mem _ (List.mem_append_right _ h)
def fX6_stock (x1 : Int32) (x2 : Int32) (σ : Sg) : Option (Int32 × Sg) :=
  (if (fX2_hasTube x1 σ) = 0 then some ((-1), σ) else (if x2 < 0 then some ((-2), σ) else (if x2 ≤ 9 then (if gIn x1 6 then some ((σ (13 + x1.toNatClampNeg) 4), (up2 σ (13 + x1.toNatClampNeg) 4 x2)) else none) else some ((-2), σ))))
set_option maxHeartbeats 4000000 in
set_option maxRecDepth 100000 in
theorem kX6_stock (l : Launch) (D : va_G) (κ : Kp) (ad : Nat → Nat) (x1 : Int32) (x2 : Int32) (σ : Sg) {r : Int32} {τ : Sg} (hf : fX6_stock x1 x2 σ = some (r, τ)) : Ci l D κ (wsX κ ad) yX6_stock wsX6_stock 1 21 [.ref (ad 0), .int x1, .int x2] σ r τ := by
  refine Ci.of (cc := cX6_stock) (nL := 4) (ret := (some .int)) (by decide) rfl (Nat.le_of_ble_eq_true rfl) ?_
  intro p e s m below meth c A ls C h hl
  obtain ⟨hx, hb, hml, hr, hlk, hown, hts, hK, hA, hZ⟩ := id C
  have hl : lv_has ls 4 [(0, .ref (ad 0)), (1, .int x1), (2, .int x2)] := hl
  unfold fX6_stock at hf
  refine lv_aload_n hx hb dX6_stock_0 rfl (lv_at hl 0 rfl) ?_
  refine x_get (v := .ref (ad 10)) C h (gX_BM κ ad σ) rfl inX6_stock_X6 1 (by decide) (hts _ lkX6_stock_20) rfl dX6_stock_1 ?_
  refine lv_iload_n hx hb dX6_stock_4 rfl (lv_at hl 1 rfl) ?_
  refine x_vi (As := [.int x1]) (rest := []) C h (gX_Sp κ ad σ) rfl (kX2_hasTube l D κ ad x1 σ (r := (fX2_hasTube x1 σ)) rfl) (fun hts => cwV 1 hts gX6_stock_X2_hasTube rfl rfl rfl (by decide +kernel) ⟨Nat.le_of_ble_eq_true rfl, Nat.le_of_ble_eq_true rfl⟩) rfl hl.1 (Nat.le_of_ble_eq_true rfl) rfl dX6_stock_5 (fun H locs h => ?_)
  refine lv_if_ne (tgt := 13) hx hb dX6_stock_8 (by decide) (fun c1 => ?_) (fun c1 => ?_)
  · have hf := tk_f c1 hf
    refine lv_iload_n hx hb dX6_stock_13 rfl (lv_at hl 2 rfl) ?_
    refine lv_if_lt (tgt := 23) hx hb dX6_stock_14 (by decide) (fun c2 => ?_) (fun c2 => ?_)
    · have hf := tk_t c2 hf
      refine lv_bipush (v := (-2)) hx hb dX6_stock_23 (by decide) ?_
      obtain ⟨rfl, rfl⟩ := pr_ok hf
      exact x_iret C h dX6_stock_25
    · have hf := tk_f c2 hf
      refine lv_iload_n hx hb dX6_stock_17 rfl (lv_at hl 2 rfl) ?_
      refine lv_bipush (v := 9) hx hb dX6_stock_18 (by decide) ?_
      refine lv_icmp_le (tgt := 26) hx hb dX6_stock_20 (by decide) (fun c3 => ?_) (fun c3 => ?_)
      · have hf := tk_t c3 hf
        refine lv_aload_n hx hb dX6_stock_26 rfl (lv_at hl 0 rfl) ?_
        refine x_get (v := .ref (ad 10)) C h (gX_BM κ ad σ) rfl inX6_stock_X6 1 (by decide) (hts _ lkX6_stock_20) rfl dX6_stock_27 ?_
        refine x_getN (v := .ref (ad 11)) C h (gX_Sp κ ad σ) rfl inX6_stock_X2 0 (by decide) ((hZ.2.2.2.2.2.2.2.1 _ nkRX6_78).use rfl) rfl dX6_stock_30 ?_
        refine lv_iload_n hx hb dX6_stock_33 rfl (lv_at hl 1 rfl) ?_
        obtain ⟨g4, hf⟩ := gd_ok hf
        have b5 : x1.toNatClampNeg < 6 := vp_lt g4
        refine x_aald (t0 := 3) (cn := "ButtonMatch$Tube") (b := ad (13 + x1.toNatClampNeg)) C h (gX_arT κ ad σ) rfl g4 rfl dX6_stock_34 ?_
        refine x_getN (v := .int (σ (13 + x1.toNatClampNeg) 4)) C h (gX_Tu κ ad σ b5) rfl inX6_stock_X5 4 (by decide) ((hZ.2.2.2.2.2.2.2.1 _ nkRX6_100).use rfl) rfl dX6_stock_35 ?_
        refine lv_istore_n (lv' := [(3, .int (σ (13 + x1.toNatClampNeg) 4)), (0, .ref (ad 0)), (1, .int x1), (2, .int x2)]) hx hb dX6_stock_38 rfl hl (by decide) rfl (fun ls hl => ?_)
        refine lv_aload_n hx hb dX6_stock_39 rfl (lv_at hl 1 rfl) ?_
        refine x_get (v := .ref (ad 10)) C h (gX_BM κ ad σ) rfl inX6_stock_X6 1 (by decide) (hts _ lkX6_stock_20) rfl dX6_stock_40 ?_
        refine x_getN (v := .ref (ad 11)) C h (gX_Sp κ ad σ) rfl inX6_stock_X2 0 (by decide) ((hZ.2.2.2.2.2.2.2.1 _ nkRX6_78).use rfl) rfl dX6_stock_43 ?_
        refine lv_iload_n hx hb dX6_stock_46 rfl (lv_at hl 2 rfl) ?_
        refine x_aald (t0 := 3) (cn := "ButtonMatch$Tube") (b := ad (13 + x1.toNatClampNeg)) C h (gX_arT κ ad σ) rfl g4 rfl dX6_stock_47 ?_
        refine lv_iload_n hx hb dX6_stock_48 rfl (lv_at hl 3 rfl) ?_
        refine x_putN C h (gX_Tu κ ad σ b5) rfl inX6_stock_X5 tyX5 tyX5_ok nmX5 4 (by decide) ((hZ.2.2.2.2.2.2.2.1 _ nkRX6_100).use rfl) rfl (tyX5_ok 4 (by decide)) (Nat.le_of_ble_eq_true rfl) (sX_Tu_4 κ ad σ x2 b5) dX6_stock_49 (fun H locs h => ?_)
        refine lv_iload_n hx hb dX6_stock_52 rfl (lv_at hl 0 rfl) ?_
        obtain ⟨rfl, rfl⟩ := pr_ok hf
        exact x_iret C h dX6_stock_53
      · have hf := tk_f c3 hf
        refine lv_bipush (v := (-2)) hx hb dX6_stock_23 (by decide) ?_
        obtain ⟨rfl, rfl⟩ := pr_ok hf
        exact x_iret C h dX6_stock_25
  · have hf := tk_t c1 hf
    refine lv_iconst (v := (-1)) hx hb dX6_stock_11 (by decide) ?_
    obtain ⟨rfl, rfl⟩ := pr_ok hf
    exact x_iret C h dX6_stock_12

-- ===== X6_far: ButtonMatch.far(I)I
theorem lkX6_far_20 : Cond.fieldLink RX6 20 "ButtonMatch" "shop" "LButtonMatch$Shop;" ∈ wsX6_far := by decide +kernel
theorem inX6_far_X6 : ∀ w ∈ wsX60, w ∈ wsX6_far := fun _ h => List.mem_cons_of_mem _ (List.mem_append_left _ (List.mem_append_left _ (List.mem_append_right _ h)))
def fX6_far (x1 : Int32) (σ : Sg) : Option (Int32) :=
  (if (fX2_hasTube x1 σ) = 0 then some (-1) else ((fX2_farFromRemembered x1 σ).bind fun r3 => some r3))
set_option maxHeartbeats 4000000 in
set_option maxRecDepth 100000 in
theorem kX6_far (l : Launch) (D : va_G) (κ : Kp) (ad : Nat → Nat) (x1 : Int32) (σ : Sg) {r : Int32} (hf : fX6_far x1 σ = some r) : Ci l D κ (wsX κ ad) yX6_far wsX6_far 4 88 [.ref (ad 0), .int x1] σ r σ := by
  refine Ci.of (cc := cX6_far) (nL := 2) (ret := (some .int)) (by decide) rfl (Nat.le_of_ble_eq_true rfl) ?_
  intro p e s m below meth c A ls C h hl
  obtain ⟨hx, hb, hml, hr, hlk, hown, hts, hK, hA, hZ⟩ := id C
  have hl : lv_has ls 2 [(0, .ref (ad 0)), (1, .int x1)] := hl
  unfold fX6_far at hf
  refine lv_aload_n hx hb dX6_far_0 rfl (lv_at hl 0 rfl) ?_
  refine x_get (v := .ref (ad 10)) C h (gX_BM κ ad σ) rfl inX6_far_X6 1 (by decide) (hts _ lkX6_far_20) rfl dX6_far_1 ?_
  refine lv_iload_n hx hb dX6_far_4 rfl (lv_at hl 1 rfl) ?_
  refine x_vi (As := [.int x1]) (rest := []) C h (gX_Sp κ ad σ) rfl (kX2_hasTube l D κ ad x1 σ (r := (fX2_hasTube x1 σ)) rfl) (fun hts => cwV 1 hts gX6_far_X2_hasTube rfl rfl rfl (by decide +kernel) ⟨Nat.le_of_ble_eq_true rfl, Nat.le_of_ble_eq_true rfl⟩) rfl hl.1 (Nat.le_of_ble_eq_true rfl) rfl dX6_far_5 (fun H locs h => ?_)
  refine lv_if_eq (tgt := 22) hx hb dX6_far_8 (by decide) (fun c1 => ?_) (fun c1 => ?_)
  · have hf := tk_t c1 hf
    refine lv_iconst (v := (-1)) hx hb dX6_far_22 (by decide) ?_
    obtain rfl := so_ok hf
    exact x_iret C h dX6_far_23
  · have hf := tk_f c1 hf
    refine lv_aload_n hx hb dX6_far_11 rfl (lv_at hl 0 rfl) ?_
    refine x_get (v := .ref (ad 10)) C h (gX_BM κ ad σ) rfl inX6_far_X6 1 (by decide) (hts _ lkX6_far_20) rfl dX6_far_12 ?_
    refine lv_iload_n hx hb dX6_far_15 rfl (lv_at hl 1 rfl) ?_
    obtain ⟨r3, hg2, hf⟩ := bd_ok hf
    refine x_vi (As := [.int x1]) (rest := []) C h (gX_Sp κ ad σ) rfl (kX2_farFromRemembered l D κ ad x1 σ (r := r3) hg2) (fun hts => cwV 1 hts gX6_far_X2_farFromRemembered rfl rfl rfl (by decide +kernel) ⟨Nat.le_of_ble_eq_true rfl, Nat.le_of_ble_eq_true rfl⟩) rfl hl.1 (Nat.le_of_ble_eq_true rfl) rfl dX6_far_16 (fun H locs h => ?_)
    refine lv_goto (tgt := 23) hx hb dX6_far_19 (by decide) ?_
    obtain rfl := so_ok hf
    exact x_iret C h dX6_far_23

-- ===== X6_isSheet: ButtonMatch.isSheet(I)Z
def fX6_isSheet (x0 : Int32) (σ : Sg) : Int32 :=
  (if x0 < 0 then 0 else (if 4 ≤ x0 then 0 else 1))
set_option maxHeartbeats 4000000 in
set_option maxRecDepth 100000 in
theorem kX6_isSheet (l : Launch) (D : va_G) (κ : Kp) (ad : Nat → Nat) (x0 : Int32) (σ : Sg) {r : Int32} (hf : fX6_isSheet x0 σ = r) : Ci l D κ (wsX κ ad) yX6_isSheet wsX6_isSheet 0 0 [.int x0] σ r σ := by
  refine Ci.of (cc := cX6_isSheet) (nL := 1) (ret := (some .boolean)) (by decide) rfl (Nat.le_of_ble_eq_true rfl) ?_
  intro p e s m below meth c A ls C h hl
  obtain ⟨hx, hb, hml, hr, hlk, hown, hts, hK, hA, hZ⟩ := id C
  have hl : lv_has ls 1 [(0, .int x0)] := hl
  unfold fX6_isSheet at hf
  refine lv_iload_n hx hb dX6_isSheet_0 rfl (lv_at hl 0 rfl) ?_
  refine lv_if_lt (tgt := 13) hx hb dX6_isSheet_1 (by decide) (fun c1 => ?_) (fun c1 => ?_)
  · have hf := tk_t c1 hf
    refine lv_iconst (v := 0) hx hb dX6_isSheet_13 (by decide) ?_
    subst hf
    exact x_zret C rfl h dX6_isSheet_14
  · have hf := tk_f c1 hf
    refine lv_iload_n hx hb dX6_isSheet_4 rfl (lv_at hl 0 rfl) ?_
    refine lv_iconst (v := 4) hx hb dX6_isSheet_5 (by decide) ?_
    refine lv_icmp_ge (tgt := 13) hx hb dX6_isSheet_6 (by decide) (fun c2 => ?_) (fun c2 => ?_)
    · have hf := tk_t c2 hf
      refine lv_iconst (v := 0) hx hb dX6_isSheet_13 (by decide) ?_
      subst hf
      exact x_zret C rfl h dX6_isSheet_14
    · have hf := tk_f c2 hf
      refine lv_iconst (v := 1) hx hb dX6_isSheet_9 (by decide) ?_
      refine lv_goto (tgt := 14) hx hb dX6_isSheet_10 (by decide) ?_
      subst hf
      exact x_zret C rfl h dX6_isSheet_14
theorem nzX6_isSheet (x0 : Int32) (σ : Sg) : narrow .boolean (.int (fX6_isSheet x0 σ)) = .int (fX6_isSheet x0 σ) := by
  unfold fX6_isSheet
  repeat' split
  all_goals rfl

-- ===== X6_isLane: ButtonMatch.isLane(I)Z
def fX6_isLane (x0 : Int32) (σ : Sg) : Int32 :=
  (if x0 < 0 then 0 else (if 3 ≤ x0 then 0 else 1))
set_option maxHeartbeats 4000000 in
set_option maxRecDepth 100000 in
theorem kX6_isLane (l : Launch) (D : va_G) (κ : Kp) (ad : Nat → Nat) (x0 : Int32) (σ : Sg) {r : Int32} (hf : fX6_isLane x0 σ = r) : Ci l D κ (wsX κ ad) yX6_isLane wsX6_isLane 0 0 [.int x0] σ r σ := by
  refine Ci.of (cc := cX6_isLane) (nL := 1) (ret := (some .boolean)) (by decide) rfl (Nat.le_of_ble_eq_true rfl) ?_
  intro p e s m below meth c A ls C h hl
  obtain ⟨hx, hb, hml, hr, hlk, hown, hts, hK, hA, hZ⟩ := id C
  have hl : lv_has ls 1 [(0, .int x0)] := hl
  unfold fX6_isLane at hf
  refine lv_iload_n hx hb dX6_isLane_0 rfl (lv_at hl 0 rfl) ?_
  refine lv_if_lt (tgt := 13) hx hb dX6_isLane_1 (by decide) (fun c1 => ?_) (fun c1 => ?_)
  · have hf := tk_t c1 hf
    refine lv_iconst (v := 0) hx hb dX6_isLane_13 (by decide) ?_
    subst hf
    exact x_zret C rfl h dX6_isLane_14
  · have hf := tk_f c1 hf
    refine lv_iload_n hx hb dX6_isLane_4 rfl (lv_at hl 0 rfl) ?_
    refine lv_iconst (v := 3) hx hb dX6_isLane_5 (by decide) ?_
    refine lv_icmp_ge (tgt := 13) hx hb dX6_isLane_6 (by decide) (fun c2 => ?_) (fun c2 => ?_)
    · have hf := tk_t c2 hf
      refine lv_iconst (v := 0) hx hb dX6_isLane_13 (by decide) ?_
      subst hf
      exact x_zret C rfl h dX6_isLane_14
    · have hf := tk_f c2 hf
      refine lv_iconst (v := 1) hx hb dX6_isLane_9 (by decide) ?_
      refine lv_goto (tgt := 14) hx hb dX6_isLane_10 (by decide) ?_
      subst hf
      exact x_zret C rfl h dX6_isLane_14
theorem nzX6_isLane (x0 : Int32) (σ : Sg) : narrow .boolean (.int (fX6_isLane x0 σ)) = .int (fX6_isLane x0 σ) := by
  unfold fX6_isLane
  repeat' split
  all_goals rfl

-- ===== X6_faulted: ButtonMatch.faulted(I)I
theorem lkX6_faulted_35 : Cond.fieldLink RX6 35 "ButtonMatch" "fault" "I" ∈ wsX6_faulted := by decide +kernel
theorem inX6_faulted_X6 : ∀ w ∈ wsX60, w ∈ wsX6_faulted := fun _ h => List.mem_cons_of_mem _ (List.mem_append_right _ h)
def fX6_faulted (x1 : Int32) (σ : Sg) : Int32 × Sg :=
  (((-10) - x1), (up2 σ 0 4 x1))
set_option maxHeartbeats 4000000 in
set_option maxRecDepth 100000 in
theorem kX6_faulted (l : Launch) (D : va_G) (κ : Kp) (ad : Nat → Nat) (x1 : Int32) (σ : Sg) {r : Int32} {τ : Sg} (hf : fX6_faulted x1 σ = (r, τ)) : Ci l D κ (wsX κ ad) yX6_faulted wsX6_faulted 0 0 [.ref (ad 0), .int x1] σ r τ := by
  refine Ci.of (cc := cX6_faulted) (nL := 2) (ret := (some .int)) (by decide) rfl (Nat.le_of_ble_eq_true rfl) ?_
  intro p e s m below meth c A ls C h hl
  obtain ⟨hx, hb, hml, hr, hlk, hown, hts, hK, hA, hZ⟩ := id C
  have hl : lv_has ls 2 [(0, .ref (ad 0)), (1, .int x1)] := hl
  unfold fX6_faulted at hf
  refine lv_aload_n hx hb dX6_faulted_0 rfl (lv_at hl 0 rfl) ?_
  refine lv_iload_n hx hb dX6_faulted_1 rfl (lv_at hl 1 rfl) ?_
  refine x_put C h (gX_BM κ ad σ) rfl inX6_faulted_X6 tyX6 tyX6_ok nmX6 4 (by decide) (hts _ lkX6_faulted_35) rfl (tyX6_ok 4 (by decide)) (Nat.le_of_ble_eq_true rfl) (sX_BM_4 κ ad σ x1) dX6_faulted_2 (fun H locs h => ?_)
  refine lv_bipush (v := (-10)) hx hb dX6_faulted_5 (by decide) ?_
  refine lv_iload_n hx hb dX6_faulted_7 rfl (lv_at hl 1 rfl) ?_
  refine lv_isub hx hb dX6_faulted_8 ?_
  obtain ⟨rfl, rfl⟩ := pr_tot hf
  exact x_iret C h dX6_faulted_9

-- ===== X6_refusalOfRow: ButtonMatch.refusalOfRow(IIIIZ)I
theorem lkX6_refusalOfRow_35 : Cond.fieldLink RX6 35 "ButtonMatch" "fault" "I" ∈ wsX6_refusalOfRow := by decide +kernel
theorem inX6_refusalOfRow_X6 : ∀ w ∈ wsX60, w ∈ wsX6_refusalOfRow := fun _ h => List.mem_cons_of_mem _ (List.mem_append_left _ (List.mem_append_right _ h))
theorem lkX6_refusalOfRow_13 : Cond.fieldLink RX6 13 "ButtonMatch" "sheets" "[LButtonMatch$Sheet;" ∈ wsX6_refusalOfRow := by decide +kernel
def fX6_refusalOfRow (x1 : Int32) (x2 : Int32) (x3 : Int32) (x4 : Int32) (x5 : Int32) (σ : Sg) : Option (Int32 × Sg) :=
  (if (fX6_isSheet x1 (up2 σ 0 4 0)) = 0 then some ((-1), (up2 σ 0 4 0)) else (if (fX6_isLane x2 (up2 σ 0 4 0)) = 0 then some ((-2), (up2 σ 0 4 0)) else (if x5 = 0 then some ((-2), (up2 σ 0 4 0)) else (if gIn x1 4 then (if (fX1_faultOfTaking x1.toNatClampNeg x2 x3 x4 (up2 σ 0 4 0)) = 0 then some (0, (up2 σ 0 4 0)) else some ((fX6_faulted (fX1_faultOfTaking x1.toNatClampNeg x2 x3 x4 (up2 σ 0 4 0)) (up2 σ 0 4 0)).1, (fX6_faulted (fX1_faultOfTaking x1.toNatClampNeg x2 x3 x4 (up2 σ 0 4 0)) (up2 σ 0 4 0)).2)) else none))))
set_option maxHeartbeats 4000000 in
set_option maxRecDepth 100000 in
theorem kX6_refusalOfRow (l : Launch) (D : va_G) (κ : Kp) (ad : Nat → Nat) (x1 : Int32) (x2 : Int32) (x3 : Int32) (x4 : Int32) (x5 : Int32) (σ : Sg) {r : Int32} {τ : Sg} (hf : fX6_refusalOfRow x1 x2 x3 x4 x5 σ = some (r, τ)) : Ci l D κ (wsX κ ad) yX6_refusalOfRow wsX6_refusalOfRow 2 45 [.ref (ad 0), .int x1, .int x2, .int x3, .int x4, .int x5] σ r τ := by
  refine Ci.of (cc := cX6_refusalOfRow) (nL := 7) (ret := (some .int)) (by decide) rfl (Nat.le_of_ble_eq_true rfl) ?_
  intro p e s m below meth c A ls C h hl
  obtain ⟨hx, hb, hml, hr, hlk, hown, hts, hK, hA, hZ⟩ := id C
  have hl : lv_has ls 7 [(0, .ref (ad 0)), (1, .int x1), (2, .int x2), (3, .int x3), (4, .int x4), (5, .int x5)] := hl
  unfold fX6_refusalOfRow at hf
  refine lv_aload_n hx hb dX6_refusalOfRow_0 rfl (lv_at hl 0 rfl) ?_
  refine lv_iconst (v := 0) hx hb dX6_refusalOfRow_1 (by decide) ?_
  refine x_put C h (gX_BM κ ad σ) rfl inX6_refusalOfRow_X6 tyX6 tyX6_ok nmX6 4 (by decide) (hts _ lkX6_refusalOfRow_35) rfl (tyX6_ok 4 (by decide)) (Nat.le_of_ble_eq_true rfl) (sX_BM_4 κ ad σ 0) dX6_refusalOfRow_2 (fun H locs h => ?_)
  refine lv_iload_n hx hb dX6_refusalOfRow_5 rfl (lv_at hl 1 rfl) ?_
  refine x_si (As := [.int x1]) (rest := []) C h (kX6_isSheet l D κ ad x1 (up2 σ 0 4 0) (r := (fX6_isSheet x1 (up2 σ 0 4 0))) rfl) (fun hts => va_cwS 1 hts gX6_refusalOfRow_X6_isSheet rfl rfl rfl (by decide +kernel) ⟨Nat.le_of_ble_eq_true rfl, Nat.le_of_ble_eq_true rfl⟩) rfl hl.1 (Nat.le_of_ble_eq_true rfl) rfl dX6_refusalOfRow_6 (fun H locs h => ?_)
  refine lv_if_ne (tgt := 14) hx hb dX6_refusalOfRow_9 (by decide) (fun c1 => ?_) (fun c1 => ?_)
  · have hf := tk_f c1 hf
    refine lv_iload_n hx hb dX6_refusalOfRow_14 rfl (lv_at hl 2 rfl) ?_
    refine x_si (As := [.int x2]) (rest := []) C h (kX6_isLane l D κ ad x2 (up2 σ 0 4 0) (r := (fX6_isLane x2 (up2 σ 0 4 0))) rfl) (fun hts => va_cwS 1 hts gX6_refusalOfRow_X6_isLane rfl rfl rfl (by decide +kernel) ⟨Nat.le_of_ble_eq_true rfl, Nat.le_of_ble_eq_true rfl⟩) rfl hl.1 (Nat.le_of_ble_eq_true rfl) rfl dX6_refusalOfRow_15 (fun H locs h => ?_)
    refine lv_if_eq (tgt := 26) hx hb dX6_refusalOfRow_18 (by decide) (fun c2 => ?_) (fun c2 => ?_)
    · have hf := tk_t c2 hf
      refine lv_bipush (v := (-2)) hx hb dX6_refusalOfRow_26 (by decide) ?_
      obtain ⟨rfl, rfl⟩ := pr_ok hf
      exact x_iret C h dX6_refusalOfRow_28
    · have hf := tk_f c2 hf
      refine lv_iload hx hb dX6_refusalOfRow_21 (lv_at hl 5 rfl) ?_
      refine lv_if_ne (tgt := 29) hx hb dX6_refusalOfRow_23 (by decide) (fun c3 => ?_) (fun c3 => ?_)
      · have hf := tk_f c3 hf
        refine lv_aload_n hx hb dX6_refusalOfRow_29 rfl (lv_at hl 0 rfl) ?_
        refine x_get (v := .ref (ad 1)) C h (gX_BM κ ad (up2 σ 0 4 0)) rfl inX6_refusalOfRow_X6 0 (by decide) (hts _ lkX6_refusalOfRow_13) rfl dX6_refusalOfRow_30 ?_
        refine lv_iload_n hx hb dX6_refusalOfRow_33 rfl (lv_at hl 1 rfl) ?_
        obtain ⟨g4, hf⟩ := gd_ok hf
        have b5 : x1.toNatClampNeg < 4 := vp_lt g4
        refine x_aald (t0 := 2) (cn := "ButtonMatch$Sheet") (b := ad (2 + x1.toNatClampNeg)) C h (gX_arS κ ad (up2 σ 0 4 0)) rfl g4 rfl dX6_refusalOfRow_34 ?_
        refine lv_iload_n hx hb dX6_refusalOfRow_35 rfl (lv_at hl 2 rfl) ?_
        refine lv_iload_n hx hb dX6_refusalOfRow_36 rfl (lv_at hl 3 rfl) ?_
        refine lv_iload hx hb dX6_refusalOfRow_37 (lv_at hl 4 rfl) ?_
        refine x_vi (As := [.int x2, .int x3, .int x4]) (rest := []) C h (gX_Sh κ ad (up2 σ 0 4 0) b5) rfl (kX1_faultOfTaking l D κ ad x1.toNatClampNeg b5 x2 x3 x4 (up2 σ 0 4 0) (r := (fX1_faultOfTaking x1.toNatClampNeg x2 x3 x4 (up2 σ 0 4 0))) rfl) (fun hts => cwV 3 hts gX6_refusalOfRow_X1_faultOfTaking rfl rfl rfl (by decide +kernel) ⟨Nat.le_of_ble_eq_true rfl, Nat.le_of_ble_eq_true rfl⟩) rfl hl.1 (Nat.le_of_ble_eq_true rfl) rfl dX6_refusalOfRow_39 (fun H locs h => ?_)
        refine lv_istore (lv' := [(6, .int (fX1_faultOfTaking x1.toNatClampNeg x2 x3 x4 (up2 σ 0 4 0))), (0, .ref (ad 0)), (1, .int x1), (2, .int x2), (3, .int x3), (4, .int x4), (5, .int x5)]) hx hb dX6_refusalOfRow_42 hl (by decide) rfl (fun ls hl => ?_)
        refine lv_iload hx hb dX6_refusalOfRow_44 (lv_at hl 0 rfl) ?_
        refine lv_if_ne (tgt := 53) hx hb dX6_refusalOfRow_46 (by decide) (fun c6 => ?_) (fun c6 => ?_)
        · have hf := tk_f c6 hf
          refine lv_aload_n hx hb dX6_refusalOfRow_53 rfl (lv_at hl 1 rfl) ?_
          refine lv_iload hx hb dX6_refusalOfRow_54 (lv_at hl 0 rfl) ?_
          refine x_vi (As := [.int (fX1_faultOfTaking x1.toNatClampNeg x2 x3 x4 (up2 σ 0 4 0))]) (rest := []) C h (gX_BM κ ad (up2 σ 0 4 0)) rfl (kX6_faulted l D κ ad (fX1_faultOfTaking x1.toNatClampNeg x2 x3 x4 (up2 σ 0 4 0)) (up2 σ 0 4 0) (r := (fX6_faulted (fX1_faultOfTaking x1.toNatClampNeg x2 x3 x4 (up2 σ 0 4 0)) (up2 σ 0 4 0)).1) (τ := (fX6_faulted (fX1_faultOfTaking x1.toNatClampNeg x2 x3 x4 (up2 σ 0 4 0)) (up2 σ 0 4 0)).2) rfl) (fun hts => cwV 1 hts gX6_refusalOfRow_X6_faulted rfl rfl rfl (by decide +kernel) ⟨Nat.le_of_ble_eq_true rfl, Nat.le_of_ble_eq_true rfl⟩) rfl hl.1 (Nat.le_of_ble_eq_true rfl) rfl dX6_refusalOfRow_56 (fun H locs h => ?_)
          obtain ⟨rfl, rfl⟩ := pr_ok hf
          exact x_iret C h dX6_refusalOfRow_59
        · have hf := tk_t c6 hf
          refine lv_iconst (v := 0) hx hb dX6_refusalOfRow_49 (by decide) ?_
          refine lv_goto (tgt := 59) hx hb dX6_refusalOfRow_50 (by decide) ?_
          obtain ⟨rfl, rfl⟩ := pr_ok hf
          exact x_iret C h dX6_refusalOfRow_59
      · have hf := tk_t c3 hf
        refine lv_bipush (v := (-2)) hx hb dX6_refusalOfRow_26 (by decide) ?_
        obtain ⟨rfl, rfl⟩ := pr_ok hf
        exact x_iret C h dX6_refusalOfRow_28
  · have hf := tk_t c1 hf
    refine lv_iconst (v := (-1)) hx hb dX6_refusalOfRow_12 (by decide) ?_
    obtain ⟨rfl, rfl⟩ := pr_ok hf
    exact x_iret C h dX6_refusalOfRow_13

-- ===== X6_search: ButtonMatch.search(IIIII)I
theorem lkX6_search_20 : Cond.fieldLink RX6 20 "ButtonMatch" "shop" "LButtonMatch$Shop;" ∈ wsX6_search := by decide +kernel
theorem inX6_search_X6 : ∀ w ∈ wsX60, w ∈ wsX6_search := fun _ h => List.mem_cons_of_mem _ (List.mem_append_left _ (List.mem_append_left _ (List.mem_append_left _ (List.mem_append_right _ h))))
theorem lkX6_search_13 : Cond.fieldLink RX6 13 "ButtonMatch" "sheets" "[LButtonMatch$Sheet;" ∈ wsX6_search := by decide +kernel
def fX6_search_28 (x1 : Int32) (x2 : Int32) (x3 : Int32) (x4 : Int32) (x5 : Int32) (z0 : Int32) (σ : Sg) : Option (Int32 × Sg) :=
  ((fX6_refusalOfRow x1 x2 x3 x4 z0 σ).bind fun q2 => (if q2.1 = 0 then (if (fX2_isOpen q2.2) = 0 then some ((-3), q2.2) else (if gIn x1 4 then ((fX2_hasAllTubes x1.toNatClampNeg x3 x4 q2.2).bind fun r8 => (if r8 = 0 then some ((-1), q2.2) else ((fX2_searched x1.toNatClampNeg x3 x4 x5 q2.2).bind fun r11 => some (r11, q2.2)))) else none)) else some (q2.1, q2.2)))
set_option maxHeartbeats 4000000 in
set_option maxRecDepth 100000 in
theorem jX6_search_28 {p : Program} {l : Launch} {e : Env} {s : State} {m : MethodId} {args : Array Value} {below : List Frame} {meth : Method} {c : Code} {D : va_G} {κ : Kp} {ad : Nat → Nat} {A : Nat → Prop} {r : Int32} {τ : Sg} (C : Mc p s m args meth c cX6_search 9 (some .int) wsX6_search RX6 D κ A) (x1 : Int32) (x2 : Int32) (x3 : Int32) (x4 : Int32) (x5 : Int32) (z0 : Int32) (σ : Sg) (H : Heap) (locs : List Loc) (ls : Array Slot) (h : Wd D (wsX κ ad) A s.heap H locs σ) (hl : lv_has ls 9 [(0, .ref (ad 0)), (1, .int x1), (2, .int x2), (3, .int x3), (4, .int x4), (5, .int x5)]) (hf : fX6_search_28  x1 x2 x3 x4 x5 z0 σ = some (r, τ)) : W p l e { frames := 6, cells := 0, slots := 0, locals := 139 } s m args below meth c H locs 0 0 (Qi below args s D (wsX κ ad) A r τ) (F0 m 28 ls [.int z0]) := by
  obtain ⟨hx, hb, hml, hr, hlk, hown, hts, hK, hA, hZ⟩ := id C
  unfold fX6_search_28 at hf
  refine lv_istore (lv' := [(6, .int z0), (0, .ref (ad 0)), (1, .int x1), (2, .int x2), (3, .int x3), (4, .int x4), (5, .int x5)]) hx hb dX6_search_28 hl (by decide) rfl (fun ls hl => ?_)
  refine lv_aload_n hx hb dX6_search_30 rfl (lv_at hl 1 rfl) ?_
  refine lv_iload_n hx hb dX6_search_31 rfl (lv_at hl 2 rfl) ?_
  refine lv_iload_n hx hb dX6_search_32 rfl (lv_at hl 3 rfl) ?_
  refine lv_iload_n hx hb dX6_search_33 rfl (lv_at hl 4 rfl) ?_
  refine lv_iload hx hb dX6_search_34 (lv_at hl 5 rfl) ?_
  refine lv_iload hx hb dX6_search_36 (lv_at hl 0 rfl) ?_
  obtain ⟨q2, hg1, hf⟩ := bd_ok hf
  refine x_vi (As := [.int x1, .int x2, .int x3, .int x4, .int z0]) (rest := []) C h (gX_BM κ ad σ) rfl (kX6_refusalOfRow l D κ ad x1 x2 x3 x4 z0 σ (r := q2.1) (τ := q2.2) hg1) (fun hts => cwV 5 hts gX6_search_X6_refusalOfRow rfl rfl rfl (by decide +kernel) ⟨Nat.le_of_ble_eq_true rfl, Nat.le_of_ble_eq_true rfl⟩) rfl hl.1 (Nat.le_of_ble_eq_true rfl) rfl dX6_search_38 (fun H locs h => ?_)
  refine lv_istore (lv' := [(7, .int q2.1), (6, .int z0), (0, .ref (ad 0)), (1, .int x1), (2, .int x2), (3, .int x3), (4, .int x4), (5, .int x5)]) hx hb dX6_search_41 hl (by decide) rfl (fun ls hl => ?_)
  refine lv_iload hx hb dX6_search_43 (lv_at hl 0 rfl) ?_
  refine lv_if_eq (tgt := 51) hx hb dX6_search_45 (by decide) (fun c3 => ?_) (fun c3 => ?_)
  · have hf := tk_t c3 hf
    refine lv_aload_n hx hb dX6_search_51 rfl (lv_at hl 2 rfl) ?_
    refine x_get (v := .ref (ad 10)) C h (gX_BM κ ad q2.2) rfl inX6_search_X6 1 (by decide) (hts _ lkX6_search_20) rfl dX6_search_52 ?_
    refine x_vi (As := []) (rest := []) C h (gX_Sp κ ad q2.2) rfl (kX2_isOpen l D κ ad q2.2 (r := (fX2_isOpen q2.2)) rfl) (fun hts => cwV 0 hts gX6_search_X2_isOpen rfl rfl rfl (by decide +kernel) ⟨Nat.le_of_ble_eq_true rfl, Nat.le_of_ble_eq_true rfl⟩) rfl hl.1 (Nat.le_of_ble_eq_true rfl) rfl dX6_search_55 (fun H locs h => ?_)
    refine lv_if_ne (tgt := 64) hx hb dX6_search_58 (by decide) (fun c4 => ?_) (fun c4 => ?_)
    · have hf := tk_f c4 hf
      refine lv_aload_n hx hb dX6_search_64 rfl (lv_at hl 2 rfl) ?_
      refine x_get (v := .ref (ad 1)) C h (gX_BM κ ad q2.2) rfl inX6_search_X6 0 (by decide) (hts _ lkX6_search_13) rfl dX6_search_65 ?_
      refine lv_iload_n hx hb dX6_search_68 rfl (lv_at hl 3 rfl) ?_
      obtain ⟨g5, hf⟩ := gd_ok hf
      have b6 : x1.toNatClampNeg < 4 := vp_lt g5
      refine x_aald (t0 := 2) (cn := "ButtonMatch$Sheet") (b := ad (2 + x1.toNatClampNeg)) C h (gX_arS κ ad q2.2) rfl g5 rfl dX6_search_69 ?_
      refine lv_astore (lv' := [(8, .ref (ad (2 + x1.toNatClampNeg))), (7, .int q2.1), (6, .int z0), (0, .ref (ad 0)), (1, .int x1), (2, .int x2), (3, .int x3), (4, .int x4), (5, .int x5)]) hx hb dX6_search_70 hl (by decide) rfl (fun ls hl => ?_)
      refine lv_aload_n hx hb dX6_search_72 rfl (lv_at hl 3 rfl) ?_
      refine x_get (v := .ref (ad 10)) C h (gX_BM κ ad q2.2) rfl inX6_search_X6 1 (by decide) (hts _ lkX6_search_20) rfl dX6_search_73 ?_
      refine lv_aload hx hb dX6_search_76 (lv_at hl 0 rfl) ?_
      refine lv_iload_n hx hb dX6_search_78 rfl (lv_at hl 6 rfl) ?_
      refine lv_iload hx hb dX6_search_79 (lv_at hl 7 rfl) ?_
      obtain ⟨r8, hg7, hf⟩ := bd_ok hf
      refine x_vi (As := [.ref (ad (2 + x1.toNatClampNeg)), .int x3, .int x4]) (rest := []) C h (gX_Sp κ ad q2.2) rfl (kX2_hasAllTubes l D κ ad x1.toNatClampNeg b6 x3 x4 q2.2 (r := r8) hg7) (fun hts => cwV 3 hts gX6_search_X2_hasAllTubes rfl rfl rfl (by decide +kernel) ⟨Nat.le_of_ble_eq_true rfl, Nat.le_of_ble_eq_true rfl⟩) rfl hl.1 (Nat.le_of_ble_eq_true rfl) rfl dX6_search_81 (fun H locs h => ?_)
      refine lv_if_eq (tgt := 104) hx hb dX6_search_84 (by decide) (fun c9 => ?_) (fun c9 => ?_)
      · have hf := tk_t c9 hf
        refine lv_iconst (v := (-1)) hx hb dX6_search_104 (by decide) ?_
        obtain ⟨rfl, rfl⟩ := pr_ok hf
        exact x_iret C h dX6_search_105
      · have hf := tk_f c9 hf
        refine lv_aload_n hx hb dX6_search_87 rfl (lv_at hl 3 rfl) ?_
        refine x_get (v := .ref (ad 10)) C h (gX_BM κ ad q2.2) rfl inX6_search_X6 1 (by decide) (hts _ lkX6_search_20) rfl dX6_search_88 ?_
        refine lv_aload hx hb dX6_search_91 (lv_at hl 0 rfl) ?_
        refine lv_iload_n hx hb dX6_search_93 rfl (lv_at hl 6 rfl) ?_
        refine lv_iload hx hb dX6_search_94 (lv_at hl 7 rfl) ?_
        refine lv_iload hx hb dX6_search_96 (lv_at hl 8 rfl) ?_
        obtain ⟨r11, hg10, hf⟩ := bd_ok hf
        refine x_vi (As := [.ref (ad (2 + x1.toNatClampNeg)), .int x3, .int x4, .int x5]) (rest := []) C h (gX_Sp κ ad q2.2) rfl (kX2_searched l D κ ad x1.toNatClampNeg b6 x3 x4 x5 q2.2 (r := r11) hg10) (fun hts => cwV 4 hts gX6_search_X2_searched rfl rfl rfl (by decide +kernel) ⟨Nat.le_of_ble_eq_true rfl, Nat.le_of_ble_eq_true rfl⟩) rfl hl.1 (Nat.le_of_ble_eq_true rfl) rfl dX6_search_98 (fun H locs h => ?_)
        refine lv_goto (tgt := 105) hx hb dX6_search_101 (by decide) ?_
        obtain ⟨rfl, rfl⟩ := pr_ok hf
        exact x_iret C h dX6_search_105
    · have hf := tk_t c4 hf
      refine lv_bipush (v := (-3)) hx hb dX6_search_61 (by decide) ?_
      obtain ⟨rfl, rfl⟩ := pr_ok hf
      exact x_iret C h dX6_search_63
  · have hf := tk_f c3 hf
    refine lv_iload hx hb dX6_search_48 (lv_at hl 0 rfl) ?_
    obtain ⟨rfl, rfl⟩ := pr_ok hf
    exact x_iret C h dX6_search_50
def fX6_search (x1 : Int32) (x2 : Int32) (x3 : Int32) (x4 : Int32) (x5 : Int32) (σ : Sg) : Option (Int32 × Sg) :=
  (if x4 < 0 then fX6_search_28 x1 x2 x3 x4 x5 0 σ else (if 20 < x4 then fX6_search_28 x1 x2 x3 x4 x5 0 σ else (if x5 < 0 then fX6_search_28 x1 x2 x3 x4 x5 0 σ else (if 2 < x5 then fX6_search_28 x1 x2 x3 x4 x5 0 σ else fX6_search_28 x1 x2 x3 x4 x5 1 σ))))
set_option maxHeartbeats 4000000 in
set_option maxRecDepth 100000 in
theorem kX6_search (l : Launch) (D : va_G) (κ : Kp) (ad : Nat → Nat) (x1 : Int32) (x2 : Int32) (x3 : Int32) (x4 : Int32) (x5 : Int32) (σ : Sg) {r : Int32} {τ : Sg} (hf : fX6_search x1 x2 x3 x4 x5 σ = some (r, τ)) : Ci l D κ (wsX κ ad) yX6_search wsX6_search 6 139 [.ref (ad 0), .int x1, .int x2, .int x3, .int x4, .int x5] σ r τ := by
  refine Ci.of (cc := cX6_search) (nL := 9) (ret := (some .int)) (by decide) rfl (Nat.le_of_ble_eq_true rfl) ?_
  intro p e s m below meth c A ls C h hl
  obtain ⟨hx, hb, hml, hr, hlk, hown, hts, hK, hA, hZ⟩ := id C
  have hl : lv_has ls 9 [(0, .ref (ad 0)), (1, .int x1), (2, .int x2), (3, .int x3), (4, .int x4), (5, .int x5)] := hl
  unfold fX6_search at hf
  refine lv_iload hx hb dX6_search_0 (lv_at hl 4 rfl) ?_
  refine lv_if_lt (tgt := 27) hx hb dX6_search_2 (by decide) (fun c12 => ?_) (fun c12 => ?_)
  · have hf := tk_t c12 hf
    refine lv_iconst (v := 0) hx hb dX6_search_27 (by decide) ?_
    exact jX6_search_28 C x1 x2 x3 x4 x5 0 σ _ _ _ h (lv_sub hl [0, 1, 2, 3, 4, 5] rfl) hf
  · have hf := tk_f c12 hf
    refine lv_iload hx hb dX6_search_5 (lv_at hl 4 rfl) ?_
    refine lv_bipush (v := 20) hx hb dX6_search_7 (by decide) ?_
    refine lv_icmp_gt (tgt := 27) hx hb dX6_search_9 (by decide) (fun c13 => ?_) (fun c13 => ?_)
    · have hf := tk_t c13 hf
      refine lv_iconst (v := 0) hx hb dX6_search_27 (by decide) ?_
      exact jX6_search_28 C x1 x2 x3 x4 x5 0 σ _ _ _ h (lv_sub hl [0, 1, 2, 3, 4, 5] rfl) hf
    · have hf := tk_f c13 hf
      refine lv_iload hx hb dX6_search_12 (lv_at hl 5 rfl) ?_
      refine lv_if_lt (tgt := 27) hx hb dX6_search_14 (by decide) (fun c14 => ?_) (fun c14 => ?_)
      · have hf := tk_t c14 hf
        refine lv_iconst (v := 0) hx hb dX6_search_27 (by decide) ?_
        exact jX6_search_28 C x1 x2 x3 x4 x5 0 σ _ _ _ h (lv_sub hl [0, 1, 2, 3, 4, 5] rfl) hf
      · have hf := tk_f c14 hf
        refine lv_iload hx hb dX6_search_17 (lv_at hl 5 rfl) ?_
        refine lv_iconst (v := 2) hx hb dX6_search_19 (by decide) ?_
        refine lv_icmp_gt (tgt := 27) hx hb dX6_search_20 (by decide) (fun c15 => ?_) (fun c15 => ?_)
        · have hf := tk_t c15 hf
          refine lv_iconst (v := 0) hx hb dX6_search_27 (by decide) ?_
          exact jX6_search_28 C x1 x2 x3 x4 x5 0 σ _ _ _ h (lv_sub hl [0, 1, 2, 3, 4, 5] rfl) hf
        · have hf := tk_f c15 hf
          refine lv_iconst (v := 1) hx hb dX6_search_23 (by decide) ?_
          refine lv_goto (tgt := 28) hx hb dX6_search_24 (by decide) ?_
          exact jX6_search_28 C x1 x2 x3 x4 x5 1 σ _ _ _ h (lv_sub hl [0, 1, 2, 3, 4, 5] rfl) hf

-- ===== X6_areSigns: ButtonMatch.areSigns(LButtonMatch$Sheet;II)Z
def fX6_areSigns_5 (σ : Sg) (k0 : Nat) (x1 : Int32) (x2 : Int32) : Nat → Int32 → Int32 → Option (Int32)
  | 0, _, _ => none
  | n + 1, x3, x4 => (if x2 ≤ x4 then some 1 else ((fX1_read k0 (x1 + x4) σ).bind fun r3 => (if r3 < 0 then some 0 else (if 3 ≤ r3 then some 0 else (if ((x3 >>> (r3 &&& 31)) &&& 1) = 0 then fX6_areSigns_5 σ k0 x1 x2 n (x3 ||| (1 <<< (r3 &&& 31))) (x4 + 1) else some 0)))))
set_option maxHeartbeats 4000000 in
set_option maxRecDepth 100000 in
theorem jX6_areSigns_5 {p : Program} {l : Launch} {e : Env} {s : State} {m : MethodId} {args : Array Value} {below : List Frame} {meth : Method} {c : Code} {D : va_G} {κ : Kp} {ad : Nat → Nat} {A : Nat → Prop} {r : Int32} (C : Mc p s m args meth c cX6_areSigns 6 (some .boolean) wsX6_areSigns RX6 D κ A) (σ : Sg) (k0 : Nat) (hk0 : k0 < 4) (x1 : Int32) (x2 : Int32) : ∀ (n : Nat) (x3 : Int32) (x4 : Int32) (H : Heap) (locs : List Loc) (ls : Array Slot), Wd D (wsX κ ad) A s.heap H locs σ → lv_has ls 6 [(0, .ref (ad (2 + k0))), (1, .int x1), (2, .int x2), (3, .int x3), (4, .int x4)] → fX6_areSigns_5 σ k0 x1 x2 n x3 x4 = some r → W p l e { frames := 2, cells := 0, slots := 0, locals := 43 } s m args below meth c H locs 0 0 (Qi below args s D (wsX κ ad) A r σ) (F0 m 5 ls []) := by
  obtain ⟨hx, hb, hml, hr, hlk, hown, hts, hK, hA, hZ⟩ := id C
  intro n
  induction n with
  | zero =>
    intro x3 x4 H locs ls h hl hf
    rw [fX6_areSigns_5] at hf
    cases hf
  | succ n ih =>
    intro x3 x4 H locs ls h hl hf
    rw [fX6_areSigns_5] at hf
    refine lv_iload hx hb dX6_areSigns_5 (lv_at hl 4 rfl) ?_
    refine lv_iload_n hx hb dX6_areSigns_7 rfl (lv_at hl 2 rfl) ?_
    refine lv_icmp_ge (tgt := 56) hx hb dX6_areSigns_8 (by decide) (fun c1 => ?_) (fun c1 => ?_)
    · have hf := tk_t c1 hf
      refine lv_iconst (v := 1) hx hb dX6_areSigns_56 (by decide) ?_
      obtain rfl := so_ok hf
      exact x_zret C rfl h dX6_areSigns_57
    · have hf := tk_f c1 hf
      refine lv_aload_n hx hb dX6_areSigns_11 rfl (lv_at hl 0 rfl) ?_
      refine lv_iload_n hx hb dX6_areSigns_12 rfl (lv_at hl 1 rfl) ?_
      refine lv_iload hx hb dX6_areSigns_13 (lv_at hl 4 rfl) ?_
      refine lv_iadd hx hb dX6_areSigns_15 ?_
      obtain ⟨r3, hg2, hf⟩ := bd_ok hf
      refine x_vi (As := [.int (x1 + x4)]) (rest := []) C h (gX_Sh κ ad σ hk0) rfl (kX1_read l D κ ad k0 hk0 (x1 + x4) σ (r := r3) hg2) (fun hts => cwV 1 hts gX6_areSigns_X1_read rfl rfl rfl (by decide +kernel) ⟨Nat.le_of_ble_eq_true rfl, Nat.le_of_ble_eq_true rfl⟩) rfl hl.1 (Nat.le_of_ble_eq_true rfl) rfl dX6_areSigns_16 (fun H locs h => ?_)
      refine lv_istore (lv' := [(5, .int r3), (0, .ref (ad (2 + k0))), (1, .int x1), (2, .int x2), (3, .int x3), (4, .int x4)]) hx hb dX6_areSigns_19 hl (by decide) rfl (fun ls hl => ?_)
      refine lv_iload hx hb dX6_areSigns_21 (lv_at hl 0 rfl) ?_
      refine lv_if_lt (tgt := 41) hx hb dX6_areSigns_23 (by decide) (fun c4 => ?_) (fun c4 => ?_)
      · have hf := tk_t c4 hf
        refine lv_iconst (v := 0) hx hb dX6_areSigns_41 (by decide) ?_
        obtain rfl := so_ok hf
        exact x_zret C rfl h dX6_areSigns_42
      · have hf := tk_f c4 hf
        refine lv_iload hx hb dX6_areSigns_26 (lv_at hl 0 rfl) ?_
        refine lv_iconst (v := 3) hx hb dX6_areSigns_28 (by decide) ?_
        refine lv_icmp_ge (tgt := 41) hx hb dX6_areSigns_29 (by decide) (fun c5 => ?_) (fun c5 => ?_)
        · have hf := tk_t c5 hf
          refine lv_iconst (v := 0) hx hb dX6_areSigns_41 (by decide) ?_
          obtain rfl := so_ok hf
          exact x_zret C rfl h dX6_areSigns_42
        · have hf := tk_f c5 hf
          refine lv_iload_n hx hb dX6_areSigns_32 rfl (lv_at hl 4 rfl) ?_
          refine lv_iload hx hb dX6_areSigns_33 (lv_at hl 0 rfl) ?_
          refine lv_ishr hx hb dX6_areSigns_35 ?_
          refine lv_iconst (v := 1) hx hb dX6_areSigns_36 (by decide) ?_
          refine lv_iand hx hb dX6_areSigns_37 ?_
          refine lv_if_eq (tgt := 43) hx hb dX6_areSigns_38 (by decide) (fun c6 => ?_) (fun c6 => ?_)
          · have hf := tk_t c6 hf
            refine lv_iload_n hx hb dX6_areSigns_43 rfl (lv_at hl 4 rfl) ?_
            refine lv_iconst (v := 1) hx hb dX6_areSigns_44 (by decide) ?_
            refine lv_iload hx hb dX6_areSigns_45 (lv_at hl 0 rfl) ?_
            refine lv_ishl hx hb dX6_areSigns_47 ?_
            refine lv_ior hx hb dX6_areSigns_48 ?_
            refine lv_istore_n (lv' := [(3, .int (x3 ||| (1 <<< (r3 &&& 31)))), (5, .int r3), (0, .ref (ad (2 + k0))), (1, .int x1), (2, .int x2), (4, .int x4)]) hx hb dX6_areSigns_49 rfl hl (by decide) rfl (fun ls hl => ?_)
            refine lv_iinc (v := (x4 + 1)) (lv' := [(4, .int (x4 + 1)), (3, .int (x3 ||| (1 <<< (r3 &&& 31)))), (5, .int r3), (0, .ref (ad (2 + k0))), (1, .int x1), (2, .int x2)]) hx hb dX6_areSigns_50 hl (k := 5) rfl rfl (by decide) rfl (fun ls hl => ?_)
            refine lv_goto (tgt := 5) hx hb dX6_areSigns_53 (by decide) ?_
            exact ih (x3 ||| (1 <<< (r3 &&& 31))) (x4 + 1) _ _ _ h (lv_sub hl [3, 4, 5, 1, 0] rfl) hf
          · have hf := tk_f c6 hf
            refine lv_iconst (v := 0) hx hb dX6_areSigns_41 (by decide) ?_
            obtain rfl := so_ok hf
            exact x_zret C rfl h dX6_areSigns_42
def fX6_areSigns (k0 : Nat) (x1 : Int32) (x2 : Int32) (σ : Sg) : Option (Int32) :=
  fX6_areSigns_5 σ k0 x1 x2 1000 0 0
set_option maxHeartbeats 4000000 in
set_option maxRecDepth 100000 in
theorem kX6_areSigns (l : Launch) (D : va_G) (κ : Kp) (ad : Nat → Nat) (k0 : Nat) (hk0 : k0 < 4) (x1 : Int32) (x2 : Int32) (σ : Sg) {r : Int32} (hf : fX6_areSigns k0 x1 x2 σ = some r) : Ci l D κ (wsX κ ad) yX6_areSigns wsX6_areSigns 2 43 [.ref (ad (2 + k0)), .int x1, .int x2] σ r σ := by
  refine Ci.of (cc := cX6_areSigns) (nL := 6) (ret := (some .boolean)) (by decide) rfl (Nat.le_of_ble_eq_true rfl) ?_
  intro p e s m below meth c A ls C h hl
  obtain ⟨hx, hb, hml, hr, hlk, hown, hts, hK, hA, hZ⟩ := id C
  have hl : lv_has ls 6 [(0, .ref (ad (2 + k0))), (1, .int x1), (2, .int x2)] := hl
  unfold fX6_areSigns at hf
  refine lv_iconst (v := 0) hx hb dX6_areSigns_0 (by decide) ?_
  refine lv_istore_n (lv' := [(3, .int 0), (0, .ref (ad (2 + k0))), (1, .int x1), (2, .int x2)]) hx hb dX6_areSigns_1 rfl hl (by decide) rfl (fun ls hl => ?_)
  refine lv_iconst (v := 0) hx hb dX6_areSigns_2 (by decide) ?_
  refine lv_istore (lv' := [(4, .int 0), (3, .int 0), (0, .ref (ad (2 + k0))), (1, .int x1), (2, .int x2)]) hx hb dX6_areSigns_3 hl (by decide) rfl (fun ls hl => ?_)
  exact jX6_areSigns_5 C σ k0 hk0 x1 x2 1000 0 0 _ _ _ h (lv_sub hl [2, 3, 4, 1, 0] rfl) hf

-- ===== X6_sieve: ButtonMatch.sieve(IIIII)I
theorem lkX6_sieve_20 : Cond.fieldLink RX6 20 "ButtonMatch" "shop" "LButtonMatch$Shop;" ∈ wsX6_sieve := by decide +kernel
theorem inX6_sieve_X6 : ∀ w ∈ wsX60, w ∈ wsX6_sieve := fun _ h => List.mem_cons_of_mem _ (List.mem_append_left _ (List.mem_append_left _ (List.mem_append_left _ (List.mem_append_right _ h))))
theorem lkX6_sieve_13 : Cond.fieldLink RX6 13 "ButtonMatch" "sheets" "[LButtonMatch$Sheet;" ∈ wsX6_sieve := by decide +kernel
theorem nkRX6_115 : ("ButtonMatch", 115, "ButtonMatch$Sheet", "cells", "[I") ∈ nestL := by decide
theorem inX6_sieve_X1 : ∀ w ∈ wsX10, w ∈ wsX6_sieve := fun _ h => List.mem_cons_of_mem _ (List.mem_append_left _ (List.mem_append_left _ (List.mem_append_right _ h)))
def fX6_sieve_27 (x1 : Int32) (x2 : Int32) (x3 : Int32) (x4 : Int32) (x5 : Int32) (z0 : Int32) (σ : Sg) : Option (Int32 × Sg) :=
  ((fX6_refusalOfRow x1 x2 x3 x4 z0 σ).bind fun q2 => (if q2.1 = 0 then (if (fX2_isOpen q2.2) = 0 then some ((-3), q2.2) else (if gIn x1 4 then ((fX6_areSigns x1.toNatClampNeg x3 x4 q2.2).bind fun r8 => (if r8 = 0 then some ((-2), q2.2) else ((fX2_sieved x1.toNatClampNeg x3 x4 x5 q2.2).bind fun r11 => some (r11, q2.2)))) else none)) else some (q2.1, q2.2)))
set_option maxHeartbeats 4000000 in
set_option maxRecDepth 100000 in
theorem jX6_sieve_27 {p : Program} {l : Launch} {e : Env} {s : State} {m : MethodId} {args : Array Value} {below : List Frame} {meth : Method} {c : Code} {D : va_G} {κ : Kp} {ad : Nat → Nat} {A : Nat → Prop} {r : Int32} {τ : Sg} (C : Mc p s m args meth c cX6_sieve 9 (some .int) wsX6_sieve RX6 D κ A) (x1 : Int32) (x2 : Int32) (x3 : Int32) (x4 : Int32) (x5 : Int32) (z0 : Int32) (σ : Sg) (H : Heap) (locs : List Loc) (ls : Array Slot) (h : Wd D (wsX κ ad) A s.heap H locs σ) (hl : lv_has ls 9 [(0, .ref (ad 0)), (1, .int x1), (2, .int x2), (3, .int x3), (4, .int x4), (5, .int x5)]) (hf : fX6_sieve_27  x1 x2 x3 x4 x5 z0 σ = some (r, τ)) : W p l e { frames := 5, cells := 0, slots := 0, locals := 116 } s m args below meth c H locs 0 0 (Qi below args s D (wsX κ ad) A r τ) (F0 m 27 ls [.int z0]) := by
  obtain ⟨hx, hb, hml, hr, hlk, hown, hts, hK, hA, hZ⟩ := id C
  unfold fX6_sieve_27 at hf
  refine lv_istore (lv' := [(6, .int z0), (0, .ref (ad 0)), (1, .int x1), (2, .int x2), (3, .int x3), (4, .int x4), (5, .int x5)]) hx hb dX6_sieve_27 hl (by decide) rfl (fun ls hl => ?_)
  refine lv_aload_n hx hb dX6_sieve_29 rfl (lv_at hl 1 rfl) ?_
  refine lv_iload_n hx hb dX6_sieve_30 rfl (lv_at hl 2 rfl) ?_
  refine lv_iload_n hx hb dX6_sieve_31 rfl (lv_at hl 3 rfl) ?_
  refine lv_iload_n hx hb dX6_sieve_32 rfl (lv_at hl 4 rfl) ?_
  refine lv_iload hx hb dX6_sieve_33 (lv_at hl 5 rfl) ?_
  refine lv_iload hx hb dX6_sieve_35 (lv_at hl 0 rfl) ?_
  obtain ⟨q2, hg1, hf⟩ := bd_ok hf
  refine x_vi (As := [.int x1, .int x2, .int x3, .int x4, .int z0]) (rest := []) C h (gX_BM κ ad σ) rfl (kX6_refusalOfRow l D κ ad x1 x2 x3 x4 z0 σ (r := q2.1) (τ := q2.2) hg1) (fun hts => cwV 5 hts gX6_sieve_X6_refusalOfRow rfl rfl rfl (by decide +kernel) ⟨Nat.le_of_ble_eq_true rfl, Nat.le_of_ble_eq_true rfl⟩) rfl hl.1 (Nat.le_of_ble_eq_true rfl) rfl dX6_sieve_37 (fun H locs h => ?_)
  refine lv_istore (lv' := [(7, .int q2.1), (6, .int z0), (0, .ref (ad 0)), (1, .int x1), (2, .int x2), (3, .int x3), (4, .int x4), (5, .int x5)]) hx hb dX6_sieve_40 hl (by decide) rfl (fun ls hl => ?_)
  refine lv_iload hx hb dX6_sieve_42 (lv_at hl 0 rfl) ?_
  refine lv_if_eq (tgt := 50) hx hb dX6_sieve_44 (by decide) (fun c3 => ?_) (fun c3 => ?_)
  · have hf := tk_t c3 hf
    refine lv_aload_n hx hb dX6_sieve_50 rfl (lv_at hl 2 rfl) ?_
    refine x_get (v := .ref (ad 10)) C h (gX_BM κ ad q2.2) rfl inX6_sieve_X6 1 (by decide) (hts _ lkX6_sieve_20) rfl dX6_sieve_51 ?_
    refine x_vi (As := []) (rest := []) C h (gX_Sp κ ad q2.2) rfl (kX2_isOpen l D κ ad q2.2 (r := (fX2_isOpen q2.2)) rfl) (fun hts => cwV 0 hts gX6_sieve_X2_isOpen rfl rfl rfl (by decide +kernel) ⟨Nat.le_of_ble_eq_true rfl, Nat.le_of_ble_eq_true rfl⟩) rfl hl.1 (Nat.le_of_ble_eq_true rfl) rfl dX6_sieve_54 (fun H locs h => ?_)
    refine lv_if_ne (tgt := 63) hx hb dX6_sieve_57 (by decide) (fun c4 => ?_) (fun c4 => ?_)
    · have hf := tk_f c4 hf
      refine lv_aload_n hx hb dX6_sieve_63 rfl (lv_at hl 2 rfl) ?_
      refine x_get (v := .ref (ad 1)) C h (gX_BM κ ad q2.2) rfl inX6_sieve_X6 0 (by decide) (hts _ lkX6_sieve_13) rfl dX6_sieve_64 ?_
      refine lv_iload_n hx hb dX6_sieve_67 rfl (lv_at hl 3 rfl) ?_
      obtain ⟨g5, hf⟩ := gd_ok hf
      have b6 : x1.toNatClampNeg < 4 := vp_lt g5
      refine x_aald (t0 := 2) (cn := "ButtonMatch$Sheet") (b := ad (2 + x1.toNatClampNeg)) C h (gX_arS κ ad q2.2) rfl g5 rfl dX6_sieve_68 ?_
      refine lv_astore (lv' := [(8, .ref (ad (2 + x1.toNatClampNeg))), (7, .int q2.1), (6, .int z0), (0, .ref (ad 0)), (1, .int x1), (2, .int x2), (3, .int x3), (4, .int x4), (5, .int x5)]) hx hb dX6_sieve_69 hl (by decide) rfl (fun ls hl => ?_)
      refine lv_aload hx hb dX6_sieve_71 (lv_at hl 0 rfl) ?_
      refine lv_iload_n hx hb dX6_sieve_73 rfl (lv_at hl 6 rfl) ?_
      refine lv_iload hx hb dX6_sieve_74 (lv_at hl 7 rfl) ?_
      obtain ⟨r8, hg7, hf⟩ := bd_ok hf
      refine x_si (As := [.ref (ad (2 + x1.toNatClampNeg)), .int x3, .int x4]) (rest := []) C h (kX6_areSigns l D κ ad x1.toNatClampNeg b6 x3 x4 q2.2 (r := r8) hg7) (fun hts => va_cwS 3 hts gX6_sieve_X6_areSigns rfl rfl rfl (by decide +kernel) ⟨Nat.le_of_ble_eq_true rfl, Nat.le_of_ble_eq_true rfl⟩) rfl hl.1 (Nat.le_of_ble_eq_true rfl) rfl dX6_sieve_76 (fun H locs h => ?_)
      refine lv_if_eq (tgt := 102) hx hb dX6_sieve_79 (by decide) (fun c9 => ?_) (fun c9 => ?_)
      · have hf := tk_t c9 hf
        refine lv_bipush (v := (-2)) hx hb dX6_sieve_102 (by decide) ?_
        obtain ⟨rfl, rfl⟩ := pr_ok hf
        exact x_iret C h dX6_sieve_104
      · have hf := tk_f c9 hf
        refine lv_aload_n hx hb dX6_sieve_82 rfl (lv_at hl 3 rfl) ?_
        refine x_get (v := .ref (ad 10)) C h (gX_BM κ ad q2.2) rfl inX6_sieve_X6 1 (by decide) (hts _ lkX6_sieve_20) rfl dX6_sieve_83 ?_
        refine lv_aload hx hb dX6_sieve_86 (lv_at hl 0 rfl) ?_
        refine x_getN (v := .ref (ad (6 + x1.toNatClampNeg))) C h (gX_Sh κ ad q2.2 b6) rfl inX6_sieve_X1 0 (by decide) ((hZ.2.2.2.2.2.2.2.1 _ nkRX6_115).use rfl) rfl dX6_sieve_88 ?_
        refine lv_iload_n hx hb dX6_sieve_91 rfl (lv_at hl 6 rfl) ?_
        refine lv_iload hx hb dX6_sieve_92 (lv_at hl 7 rfl) ?_
        refine lv_iload hx hb dX6_sieve_94 (lv_at hl 8 rfl) ?_
        obtain ⟨r11, hg10, hf⟩ := bd_ok hf
        refine x_vi (As := [.ref (ad (6 + x1.toNatClampNeg)), .int x3, .int x4, .int x5]) (rest := []) C h (gX_Sp κ ad q2.2) rfl (kX2_sieved l D κ ad x1.toNatClampNeg b6 x3 x4 x5 q2.2 (r := r11) hg10) (fun hts => cwV 4 hts gX6_sieve_X2_sieved rfl rfl rfl (by decide +kernel) ⟨Nat.le_of_ble_eq_true rfl, Nat.le_of_ble_eq_true rfl⟩) rfl hl.1 (Nat.le_of_ble_eq_true rfl) rfl dX6_sieve_96 (fun H locs h => ?_)
        refine lv_goto (tgt := 104) hx hb dX6_sieve_99 (by decide) ?_
        obtain ⟨rfl, rfl⟩ := pr_ok hf
        exact x_iret C h dX6_sieve_104
    · have hf := tk_t c4 hf
      refine lv_bipush (v := (-3)) hx hb dX6_sieve_60 (by decide) ?_
      obtain ⟨rfl, rfl⟩ := pr_ok hf
      exact x_iret C h dX6_sieve_62
  · have hf := tk_f c3 hf
    refine lv_iload hx hb dX6_sieve_47 (lv_at hl 0 rfl) ?_
    obtain ⟨rfl, rfl⟩ := pr_ok hf
    exact x_iret C h dX6_sieve_49
def fX6_sieve (x1 : Int32) (x2 : Int32) (x3 : Int32) (x4 : Int32) (x5 : Int32) (σ : Sg) : Option (Int32 × Sg) :=
  (if x4 < 0 then fX6_sieve_27 x1 x2 x3 x4 x5 0 σ else (if 3 < x4 then fX6_sieve_27 x1 x2 x3 x4 x5 0 σ else (if x5 < 0 then fX6_sieve_27 x1 x2 x3 x4 x5 0 σ else (if 1 < x5 then fX6_sieve_27 x1 x2 x3 x4 x5 0 σ else fX6_sieve_27 x1 x2 x3 x4 x5 1 σ))))
set_option maxHeartbeats 4000000 in
set_option maxRecDepth 100000 in
theorem kX6_sieve (l : Launch) (D : va_G) (κ : Kp) (ad : Nat → Nat) (x1 : Int32) (x2 : Int32) (x3 : Int32) (x4 : Int32) (x5 : Int32) (σ : Sg) {r : Int32} {τ : Sg} (hf : fX6_sieve x1 x2 x3 x4 x5 σ = some (r, τ)) : Ci l D κ (wsX κ ad) yX6_sieve wsX6_sieve 5 116 [.ref (ad 0), .int x1, .int x2, .int x3, .int x4, .int x5] σ r τ := by
  refine Ci.of (cc := cX6_sieve) (nL := 9) (ret := (some .int)) (by decide) rfl (Nat.le_of_ble_eq_true rfl) ?_
  intro p e s m below meth c A ls C h hl
  obtain ⟨hx, hb, hml, hr, hlk, hown, hts, hK, hA, hZ⟩ := id C
  have hl : lv_has ls 9 [(0, .ref (ad 0)), (1, .int x1), (2, .int x2), (3, .int x3), (4, .int x4), (5, .int x5)] := hl
  unfold fX6_sieve at hf
  refine lv_iload hx hb dX6_sieve_0 (lv_at hl 4 rfl) ?_
  refine lv_if_lt (tgt := 26) hx hb dX6_sieve_2 (by decide) (fun c12 => ?_) (fun c12 => ?_)
  · have hf := tk_t c12 hf
    refine lv_iconst (v := 0) hx hb dX6_sieve_26 (by decide) ?_
    exact jX6_sieve_27 C x1 x2 x3 x4 x5 0 σ _ _ _ h (lv_sub hl [0, 1, 2, 3, 4, 5] rfl) hf
  · have hf := tk_f c12 hf
    refine lv_iload hx hb dX6_sieve_5 (lv_at hl 4 rfl) ?_
    refine lv_iconst (v := 3) hx hb dX6_sieve_7 (by decide) ?_
    refine lv_icmp_gt (tgt := 26) hx hb dX6_sieve_8 (by decide) (fun c13 => ?_) (fun c13 => ?_)
    · have hf := tk_t c13 hf
      refine lv_iconst (v := 0) hx hb dX6_sieve_26 (by decide) ?_
      exact jX6_sieve_27 C x1 x2 x3 x4 x5 0 σ _ _ _ h (lv_sub hl [0, 1, 2, 3, 4, 5] rfl) hf
    · have hf := tk_f c13 hf
      refine lv_iload hx hb dX6_sieve_11 (lv_at hl 5 rfl) ?_
      refine lv_if_lt (tgt := 26) hx hb dX6_sieve_13 (by decide) (fun c14 => ?_) (fun c14 => ?_)
      · have hf := tk_t c14 hf
        refine lv_iconst (v := 0) hx hb dX6_sieve_26 (by decide) ?_
        exact jX6_sieve_27 C x1 x2 x3 x4 x5 0 σ _ _ _ h (lv_sub hl [0, 1, 2, 3, 4, 5] rfl) hf
      · have hf := tk_f c14 hf
        refine lv_iload hx hb dX6_sieve_16 (lv_at hl 5 rfl) ?_
        refine lv_iconst (v := 1) hx hb dX6_sieve_18 (by decide) ?_
        refine lv_icmp_gt (tgt := 26) hx hb dX6_sieve_19 (by decide) (fun c15 => ?_) (fun c15 => ?_)
        · have hf := tk_t c15 hf
          refine lv_iconst (v := 0) hx hb dX6_sieve_26 (by decide) ?_
          exact jX6_sieve_27 C x1 x2 x3 x4 x5 0 σ _ _ _ h (lv_sub hl [0, 1, 2, 3, 4, 5] rfl) hf
        · have hf := tk_f c15 hf
          refine lv_iconst (v := 1) hx hb dX6_sieve_22 (by decide) ?_
          refine lv_goto (tgt := 27) hx hb dX6_sieve_23 (by decide) ?_
          exact jX6_sieve_27 C x1 x2 x3 x4 x5 1 σ _ _ _ h (lv_sub hl [0, 1, 2, 3, 4, 5] rfl) hf

-- ===== X6_quick: ButtonMatch.quick(I)I
theorem lkX6_quick_20 : Cond.fieldLink RX6 20 "ButtonMatch" "shop" "LButtonMatch$Shop;" ∈ wsX6_quick := by decide +kernel
theorem inX6_quick_X6 : ∀ w ∈ wsX60, w ∈ wsX6_quick := fun _ h => List.mem_cons_of_mem _ (List.mem_append_left _ (List.mem_append_right _ h))
theorem nkRX6_56 : ("ButtonMatch", 56, "ButtonMatch$Shop", "tubeCount", "I") ∈ nestL := by decide
theorem inX6_quick_X2 : ∀ w ∈ wsX20, w ∈ wsX6_quick := fun _ h => List.mem_cons_of_mem _ (List.mem_append_right _ h)
def fX6_quick (x1 : Int32) (σ : Sg) : Int32 :=
  (if (-1) ≤ x1 then (if (fX2_isOpen σ) = 0 then (-3) else (if x1 = (-1) then ((σ 10 2) * (σ 10 2)) else (if (σ 10 2) ≤ x1 then (-9) else x1))) else (-1))
set_option maxHeartbeats 4000000 in
set_option maxRecDepth 100000 in
theorem kX6_quick (l : Launch) (D : va_G) (κ : Kp) (ad : Nat → Nat) (x1 : Int32) (σ : Sg) {r : Int32} (hf : fX6_quick x1 σ = r) : Ci l D κ (wsX κ ad) yX6_quick wsX6_quick 1 20 [.ref (ad 0), .int x1] σ r σ := by
  refine Ci.of (cc := cX6_quick) (nL := 2) (ret := (some .int)) (by decide) rfl (Nat.le_of_ble_eq_true rfl) ?_
  intro p e s m below meth c A ls C h hl
  obtain ⟨hx, hb, hml, hr, hlk, hown, hts, hK, hA, hZ⟩ := id C
  have hl : lv_has ls 2 [(0, .ref (ad 0)), (1, .int x1)] := hl
  unfold fX6_quick at hf
  refine lv_iload_n hx hb dX6_quick_0 rfl (lv_at hl 1 rfl) ?_
  refine lv_iconst (v := (-1)) hx hb dX6_quick_1 (by decide) ?_
  refine lv_icmp_ge (tgt := 7) hx hb dX6_quick_2 (by decide) (fun c1 => ?_) (fun c1 => ?_)
  · have hf := tk_t c1 hf
    refine lv_aload_n hx hb dX6_quick_7 rfl (lv_at hl 0 rfl) ?_
    refine x_get (v := .ref (ad 10)) C h (gX_BM κ ad σ) rfl inX6_quick_X6 1 (by decide) (hts _ lkX6_quick_20) rfl dX6_quick_8 ?_
    refine x_vi (As := []) (rest := []) C h (gX_Sp κ ad σ) rfl (kX2_isOpen l D κ ad σ (r := (fX2_isOpen σ)) rfl) (fun hts => cwV 0 hts gX6_quick_X2_isOpen rfl rfl rfl (by decide +kernel) ⟨Nat.le_of_ble_eq_true rfl, Nat.le_of_ble_eq_true rfl⟩) rfl hl.1 (Nat.le_of_ble_eq_true rfl) rfl dX6_quick_11 (fun H locs h => ?_)
    refine lv_if_ne (tgt := 20) hx hb dX6_quick_14 (by decide) (fun c2 => ?_) (fun c2 => ?_)
    · have hf := tk_f c2 hf
      refine lv_iload_n hx hb dX6_quick_20 rfl (lv_at hl 1 rfl) ?_
      refine lv_iconst (v := (-1)) hx hb dX6_quick_21 (by decide) ?_
      refine lv_icmp_ne (tgt := 41) hx hb dX6_quick_22 (by decide) (fun c3 => ?_) (fun c3 => ?_)
      · have hf := tk_f c3 hf
        refine lv_iload_n hx hb dX6_quick_41 rfl (lv_at hl 1 rfl) ?_
        refine lv_aload_n hx hb dX6_quick_42 rfl (lv_at hl 0 rfl) ?_
        refine x_get (v := .ref (ad 10)) C h (gX_BM κ ad σ) rfl inX6_quick_X6 1 (by decide) (hts _ lkX6_quick_20) rfl dX6_quick_43 ?_
        refine x_getN (v := .int (σ 10 2)) C h (gX_Sp κ ad σ) rfl inX6_quick_X2 2 (by decide) ((hZ.2.2.2.2.2.2.2.1 _ nkRX6_56).use rfl) rfl dX6_quick_46 ?_
        refine lv_icmp_ge (tgt := 56) hx hb dX6_quick_49 (by decide) (fun c4 => ?_) (fun c4 => ?_)
        · have hf := tk_t c4 hf
          refine lv_bipush (v := (-9)) hx hb dX6_quick_56 (by decide) ?_
          subst hf
          exact x_iret C h dX6_quick_58
        · have hf := tk_f c4 hf
          refine lv_iload_n hx hb dX6_quick_52 rfl (lv_at hl 1 rfl) ?_
          refine lv_goto (tgt := 58) hx hb dX6_quick_53 (by decide) ?_
          subst hf
          exact x_iret C h dX6_quick_58
      · have hf := tk_t c3 hf
        refine lv_aload_n hx hb dX6_quick_25 rfl (lv_at hl 0 rfl) ?_
        refine x_get (v := .ref (ad 10)) C h (gX_BM κ ad σ) rfl inX6_quick_X6 1 (by decide) (hts _ lkX6_quick_20) rfl dX6_quick_26 ?_
        refine x_getN (v := .int (σ 10 2)) C h (gX_Sp κ ad σ) rfl inX6_quick_X2 2 (by decide) ((hZ.2.2.2.2.2.2.2.1 _ nkRX6_56).use rfl) rfl dX6_quick_29 ?_
        refine lv_aload_n hx hb dX6_quick_32 rfl (lv_at hl 0 rfl) ?_
        refine x_get (v := .ref (ad 10)) C h (gX_BM κ ad σ) rfl inX6_quick_X6 1 (by decide) (hts _ lkX6_quick_20) rfl dX6_quick_33 ?_
        refine x_getN (v := .int (σ 10 2)) C h (gX_Sp κ ad σ) rfl inX6_quick_X2 2 (by decide) ((hZ.2.2.2.2.2.2.2.1 _ nkRX6_56).use rfl) rfl dX6_quick_36 ?_
        refine lv_imul hx hb dX6_quick_39 ?_
        subst hf
        exact x_iret C h dX6_quick_40
    · have hf := tk_t c2 hf
      refine lv_bipush (v := (-3)) hx hb dX6_quick_17 (by decide) ?_
      subst hf
      exact x_iret C h dX6_quick_19
  · have hf := tk_f c1 hf
    refine lv_iconst (v := (-1)) hx hb dX6_quick_5 (by decide) ?_
    subst hf
    exact x_iret C h dX6_quick_6

-- ===== X6_signs: ButtonMatch.signs(I)I
theorem lkX6_signs_125 : Cond.fieldLink RX6 125 "ButtonMatch" "SIGN_ORDERS" "[I" ∈ wsX6_signs := by decide +kernel
theorem lkX6_signs_20 : Cond.fieldLink RX6 20 "ButtonMatch" "shop" "LButtonMatch$Shop;" ∈ wsX6_signs := by decide +kernel
theorem inX6_signs_X6 : ∀ w ∈ wsX60, w ∈ wsX6_signs := fun _ h => List.mem_cons_of_mem _ (List.mem_append_left _ (List.mem_append_left _ (List.mem_append_right _ h)))
def fX6_signs_40 (σ : Sg) (x1 : Int32) : Nat → Int32 → Int32 → Int32 → Option (Int32)
  | 0, _, _, _ => none
  | n + 1, x2, x3, x4 => (if 18 < (x4 + 3) then (if x1 = (-1) then some x3 else (if gIn (x2 + x1) 18 then some (soT (x2 + x1).toNatClampNeg) else none)) else ((fX2_secondsBySigns x4 σ).bind fun r5 => (if x3 ≤ r5 then fX6_signs_40 σ x1 n x2 x3 (x4 + 3) else fX6_signs_40 σ x1 n x4 r5 (x4 + 3))))
set_option maxHeartbeats 4000000 in
set_option maxRecDepth 100000 in
theorem jX6_signs_40 {p : Program} {l : Launch} {e : Env} {s : State} {m : MethodId} {args : Array Value} {below : List Frame} {meth : Method} {c : Code} {D : va_G} {κ : Kp} {ad : Nat → Nat} {A : Nat → Prop} {r : Int32} (C : Mc p s m args meth c cX6_signs 6 (some .int) wsX6_signs RX6 D κ A) (σ : Sg) (x1 : Int32) : ∀ (n : Nat) (x2 : Int32) (x3 : Int32) (x4 : Int32) (H : Heap) (locs : List Loc) (ls : Array Slot), Wd D (wsX κ ad) A s.heap H locs σ → lv_has ls 6 [(0, .ref (ad 0)), (1, .int x1), (2, .int x2), (3, .int x3), (4, .int x4)] → fX6_signs_40 σ x1 n x2 x3 x4 = some r → W p l e { frames := 6, cells := 0, slots := 0, locals := 137 } s m args below meth c H locs 0 0 (Qi below args s D (wsX κ ad) A r σ) (F0 m 40 ls []) := by
  obtain ⟨hx, hb, hml, hr, hlk, hown, hts, hK, hA, hZ⟩ := id C
  intro n
  induction n with
  | zero =>
    intro x2 x3 x4 H locs ls h hl hf
    rw [fX6_signs_40] at hf
    cases hf
  | succ n ih =>
    intro x2 x3 x4 H locs ls h hl hf
    rw [fX6_signs_40] at hf
    refine lv_iload hx hb dX6_signs_40 (lv_at hl 4 rfl) ?_
    refine lv_iconst (v := 3) hx hb dX6_signs_42 (by decide) ?_
    refine lv_iadd hx hb dX6_signs_43 ?_
    refine va_gets hx hb hZ.1 h.2.2 hown (hts _ lkX6_signs_125) (fun _ h9 => h9) dX6_signs_44 ?_
    refine va_tlen (v := 18) hx hb hZ.2.1 h.2.2 rfl dX6_signs_47 ?_
    refine lv_icmp_gt (tgt := 80) hx hb dX6_signs_48 (by decide) (fun c1 => ?_) (fun c1 => ?_)
    · have hf := tk_t c1 hf
      refine lv_iload_n hx hb dX6_signs_80 rfl (lv_at hl 1 rfl) ?_
      refine lv_iconst (v := (-1)) hx hb dX6_signs_81 (by decide) ?_
      refine lv_icmp_ne (tgt := 89) hx hb dX6_signs_82 (by decide) (fun c2 => ?_) (fun c2 => ?_)
      · have hf := tk_f c2 hf
        refine va_gets hx hb hZ.1 h.2.2 hown (hts _ lkX6_signs_125) (fun _ h9 => h9) dX6_signs_89 ?_
        refine lv_iload_n hx hb dX6_signs_92 rfl (lv_at hl 2 rfl) ?_
        refine lv_iload_n hx hb dX6_signs_93 rfl (lv_at hl 1 rfl) ?_
        refine lv_iadd hx hb dX6_signs_94 ?_
        obtain ⟨g3, hf⟩ := gd_ok hf
        refine va_ti (v := .int (soT (x2 + x1).toNatClampNeg)) hx hb hZ.2.1 h.2.2 g3 rfl dX6_signs_95 ?_
        obtain rfl := so_ok hf
        exact x_iret C h dX6_signs_96
      · have hf := tk_t c2 hf
        refine lv_iload_n hx hb dX6_signs_85 rfl (lv_at hl 3 rfl) ?_
        refine lv_goto (tgt := 96) hx hb dX6_signs_86 (by decide) ?_
        obtain rfl := so_ok hf
        exact x_iret C h dX6_signs_96
    · have hf := tk_f c1 hf
      refine lv_aload_n hx hb dX6_signs_51 rfl (lv_at hl 0 rfl) ?_
      refine x_get (v := .ref (ad 10)) C h (gX_BM κ ad σ) rfl inX6_signs_X6 1 (by decide) (hts _ lkX6_signs_20) rfl dX6_signs_52 ?_
      refine lv_iload hx hb dX6_signs_55 (lv_at hl 4 rfl) ?_
      obtain ⟨r5, hg4, hf⟩ := bd_ok hf
      refine x_vi (As := [.int x4]) (rest := []) C h (gX_Sp κ ad σ) rfl (kX2_secondsBySigns l D κ ad x4 σ (r := r5) hg4) (fun hts => cwV 1 hts gX6_signs_X2_secondsBySigns rfl rfl rfl (by decide +kernel) ⟨Nat.le_of_ble_eq_true rfl, Nat.le_of_ble_eq_true rfl⟩) rfl hl.1 (Nat.le_of_ble_eq_true rfl) rfl dX6_signs_57 (fun H locs h => ?_)
      refine lv_istore (lv' := [(5, .int r5), (0, .ref (ad 0)), (1, .int x1), (2, .int x2), (3, .int x3), (4, .int x4)]) hx hb dX6_signs_60 hl (by decide) rfl (fun ls hl => ?_)
      refine lv_iload hx hb dX6_signs_62 (lv_at hl 0 rfl) ?_
      refine lv_iload_n hx hb dX6_signs_64 rfl (lv_at hl 4 rfl) ?_
      refine lv_icmp_ge (tgt := 74) hx hb dX6_signs_65 (by decide) (fun c6 => ?_) (fun c6 => ?_)
      · have hf := tk_t c6 hf
        refine lv_iinc (v := (x4 + 3)) (lv' := [(4, .int (x4 + 3)), (5, .int r5), (0, .ref (ad 0)), (1, .int x1), (2, .int x2), (3, .int x3)]) hx hb dX6_signs_74 hl (k := 5) rfl rfl (by decide) rfl (fun ls hl => ?_)
        refine lv_goto (tgt := 40) hx hb dX6_signs_77 (by decide) ?_
        exact ih x2 x3 (x4 + 3) _ _ _ h (lv_sub hl [2, 3, 4, 5, 0] rfl) hf
      · have hf := tk_f c6 hf
        refine lv_iload hx hb dX6_signs_68 (lv_at hl 5 rfl) ?_
        refine lv_istore_n (lv' := [(2, .int x4), (5, .int r5), (0, .ref (ad 0)), (1, .int x1), (3, .int x3), (4, .int x4)]) hx hb dX6_signs_70 rfl hl (by decide) rfl (fun ls hl => ?_)
        refine lv_iload hx hb dX6_signs_71 (lv_at hl 1 rfl) ?_
        refine lv_istore_n (lv' := [(3, .int r5), (2, .int x4), (5, .int r5), (0, .ref (ad 0)), (1, .int x1), (4, .int x4)]) hx hb dX6_signs_73 rfl hl (by decide) rfl (fun ls hl => ?_)
        refine lv_iinc (v := (x4 + 3)) (lv' := [(4, .int (x4 + 3)), (3, .int r5), (2, .int x4), (5, .int r5), (0, .ref (ad 0)), (1, .int x1)]) hx hb dX6_signs_74 hl (k := 5) rfl rfl (by decide) rfl (fun ls hl => ?_)
        refine lv_goto (tgt := 40) hx hb dX6_signs_77 (by decide) ?_
        exact ih x4 r5 (x4 + 3) _ _ _ h (lv_sub hl [4, 5, 2, 1, 0] rfl) hf
def fX6_signs (x1 : Int32) (σ : Sg) : Option (Int32) :=
  (if x1 < (-1) then some (-2) else (if x1 < 3 then (if (fX2_isOpen σ) = 0 then some (-3) else ((fX2_secondsBySigns 0 σ).bind fun r11 => fX6_signs_40 σ x1 1000 0 r11 3)) else some (-2)))
set_option maxHeartbeats 4000000 in
set_option maxRecDepth 100000 in
theorem kX6_signs (l : Launch) (D : va_G) (κ : Kp) (ad : Nat → Nat) (x1 : Int32) (σ : Sg) {r : Int32} (hf : fX6_signs x1 σ = some r) : Ci l D κ (wsX κ ad) yX6_signs wsX6_signs 6 137 [.ref (ad 0), .int x1] σ r σ := by
  refine Ci.of (cc := cX6_signs) (nL := 6) (ret := (some .int)) (by decide) rfl (Nat.le_of_ble_eq_true rfl) ?_
  intro p e s m below meth c A ls C h hl
  obtain ⟨hx, hb, hml, hr, hlk, hown, hts, hK, hA, hZ⟩ := id C
  have hl : lv_has ls 6 [(0, .ref (ad 0)), (1, .int x1)] := hl
  unfold fX6_signs at hf
  refine lv_iload_n hx hb dX6_signs_0 rfl (lv_at hl 1 rfl) ?_
  refine lv_iconst (v := (-1)) hx hb dX6_signs_1 (by decide) ?_
  refine lv_icmp_lt (tgt := 10) hx hb dX6_signs_2 (by decide) (fun c7 => ?_) (fun c7 => ?_)
  · have hf := tk_t c7 hf
    refine lv_bipush (v := (-2)) hx hb dX6_signs_10 (by decide) ?_
    obtain rfl := so_ok hf
    exact x_iret C h dX6_signs_12
  · have hf := tk_f c7 hf
    refine lv_iload_n hx hb dX6_signs_5 rfl (lv_at hl 1 rfl) ?_
    refine lv_iconst (v := 3) hx hb dX6_signs_6 (by decide) ?_
    refine lv_icmp_lt (tgt := 13) hx hb dX6_signs_7 (by decide) (fun c8 => ?_) (fun c8 => ?_)
    · have hf := tk_t c8 hf
      refine lv_aload_n hx hb dX6_signs_13 rfl (lv_at hl 0 rfl) ?_
      refine x_get (v := .ref (ad 10)) C h (gX_BM κ ad σ) rfl inX6_signs_X6 1 (by decide) (hts _ lkX6_signs_20) rfl dX6_signs_14 ?_
      refine x_vi (As := []) (rest := []) C h (gX_Sp κ ad σ) rfl (kX2_isOpen l D κ ad σ (r := (fX2_isOpen σ)) rfl) (fun hts => cwV 0 hts gX6_signs_X2_isOpen rfl rfl rfl (by decide +kernel) ⟨Nat.le_of_ble_eq_true rfl, Nat.le_of_ble_eq_true rfl⟩) rfl hl.1 (Nat.le_of_ble_eq_true rfl) rfl dX6_signs_17 (fun H locs h => ?_)
      refine lv_if_ne (tgt := 26) hx hb dX6_signs_20 (by decide) (fun c9 => ?_) (fun c9 => ?_)
      · have hf := tk_f c9 hf
        refine lv_iconst (v := 0) hx hb dX6_signs_26 (by decide) ?_
        refine lv_istore_n (lv' := [(2, .int 0), (0, .ref (ad 0)), (1, .int x1)]) hx hb dX6_signs_27 rfl hl (by decide) rfl (fun ls hl => ?_)
        refine lv_aload_n hx hb dX6_signs_28 rfl (lv_at hl 1 rfl) ?_
        refine x_get (v := .ref (ad 10)) C h (gX_BM κ ad σ) rfl inX6_signs_X6 1 (by decide) (hts _ lkX6_signs_20) rfl dX6_signs_29 ?_
        refine lv_iload_n hx hb dX6_signs_32 rfl (lv_at hl 0 rfl) ?_
        obtain ⟨r11, hg10, hf⟩ := bd_ok hf
        refine x_vi (As := [.int 0]) (rest := []) C h (gX_Sp κ ad σ) rfl (kX2_secondsBySigns l D κ ad 0 σ (r := r11) hg10) (fun hts => cwV 1 hts gX6_signs_X2_secondsBySigns rfl rfl rfl (by decide +kernel) ⟨Nat.le_of_ble_eq_true rfl, Nat.le_of_ble_eq_true rfl⟩) rfl hl.1 (Nat.le_of_ble_eq_true rfl) rfl dX6_signs_33 (fun H locs h => ?_)
        refine lv_istore_n (lv' := [(3, .int r11), (2, .int 0), (0, .ref (ad 0)), (1, .int x1)]) hx hb dX6_signs_36 rfl hl (by decide) rfl (fun ls hl => ?_)
        refine lv_iconst (v := 3) hx hb dX6_signs_37 (by decide) ?_
        refine lv_istore (lv' := [(4, .int 3), (3, .int r11), (2, .int 0), (0, .ref (ad 0)), (1, .int x1)]) hx hb dX6_signs_38 hl (by decide) rfl (fun ls hl => ?_)
        exact jX6_signs_40 C σ x1 1000 0 r11 3 _ _ _ h (lv_sub hl [3, 4, 2, 1, 0] rfl) hf
      · have hf := tk_t c9 hf
        refine lv_bipush (v := (-3)) hx hb dX6_signs_23 (by decide) ?_
        obtain rfl := so_ok hf
        exact x_iret C h dX6_signs_25
    · have hf := tk_f c8 hf
      refine lv_bipush (v := (-2)) hx hb dX6_signs_10 (by decide) ?_
      obtain rfl := so_ok hf
      exact x_iret C h dX6_signs_12

-- ===== X6_sew: ButtonMatch.sew(II)I
theorem lkX6_sew_20 : Cond.fieldLink RX6 20 "ButtonMatch" "shop" "LButtonMatch$Shop;" ∈ wsX6_sew := by decide +kernel
theorem inX6_sew_X6 : ∀ w ∈ wsX60, w ∈ wsX6_sew := fun _ h => List.mem_cons_of_mem _ (List.mem_append_left _ (List.mem_append_left _ (List.mem_append_right _ h)))
def fX6_sew (x1 : Int32) (x2 : Int32) (σ : Sg) : Option (Int32) :=
  (if (fX6_isPlace x1 σ) = 0 then some (-1) else (if x2 < 0 then some (-2) else (if x2 ≤ 2 then (if (fX2_isOpen σ) = 0 then some (-3) else ((fX2_leastHarm x1 x2 σ).bind fun r6 => some r6)) else some (-2))))
set_option maxHeartbeats 4000000 in
set_option maxRecDepth 100000 in
theorem kX6_sew (l : Launch) (D : va_G) (κ : Kp) (ad : Nat → Nat) (x1 : Int32) (x2 : Int32) (σ : Sg) {r : Int32} (hf : fX6_sew x1 x2 σ = some r) : Ci l D κ (wsX κ ad) yX6_sew wsX6_sew 5 119 [.ref (ad 0), .int x1, .int x2] σ r σ := by
  refine Ci.of (cc := cX6_sew) (nL := 3) (ret := (some .int)) (by decide) rfl (Nat.le_of_ble_eq_true rfl) ?_
  intro p e s m below meth c A ls C h hl
  obtain ⟨hx, hb, hml, hr, hlk, hown, hts, hK, hA, hZ⟩ := id C
  have hl : lv_has ls 3 [(0, .ref (ad 0)), (1, .int x1), (2, .int x2)] := hl
  unfold fX6_sew at hf
  refine lv_iload_n hx hb dX6_sew_0 rfl (lv_at hl 1 rfl) ?_
  refine x_si (As := [.int x1]) (rest := []) C h (kX6_isPlace l D κ ad x1 σ (r := (fX6_isPlace x1 σ)) rfl) (fun hts => va_cwS 1 hts gX6_sew_X6_isPlace rfl rfl rfl (by decide +kernel) ⟨Nat.le_of_ble_eq_true rfl, Nat.le_of_ble_eq_true rfl⟩) rfl hl.1 (Nat.le_of_ble_eq_true rfl) rfl dX6_sew_1 (fun H locs h => ?_)
  refine lv_if_ne (tgt := 9) hx hb dX6_sew_4 (by decide) (fun c1 => ?_) (fun c1 => ?_)
  · have hf := tk_f c1 hf
    refine lv_iload_n hx hb dX6_sew_9 rfl (lv_at hl 2 rfl) ?_
    refine lv_if_lt (tgt := 18) hx hb dX6_sew_10 (by decide) (fun c2 => ?_) (fun c2 => ?_)
    · have hf := tk_t c2 hf
      refine lv_bipush (v := (-2)) hx hb dX6_sew_18 (by decide) ?_
      obtain rfl := so_ok hf
      exact x_iret C h dX6_sew_20
    · have hf := tk_f c2 hf
      refine lv_iload_n hx hb dX6_sew_13 rfl (lv_at hl 2 rfl) ?_
      refine lv_iconst (v := 2) hx hb dX6_sew_14 (by decide) ?_
      refine lv_icmp_le (tgt := 21) hx hb dX6_sew_15 (by decide) (fun c3 => ?_) (fun c3 => ?_)
      · have hf := tk_t c3 hf
        refine lv_aload_n hx hb dX6_sew_21 rfl (lv_at hl 0 rfl) ?_
        refine x_get (v := .ref (ad 10)) C h (gX_BM κ ad σ) rfl inX6_sew_X6 1 (by decide) (hts _ lkX6_sew_20) rfl dX6_sew_22 ?_
        refine x_vi (As := []) (rest := []) C h (gX_Sp κ ad σ) rfl (kX2_isOpen l D κ ad σ (r := (fX2_isOpen σ)) rfl) (fun hts => cwV 0 hts gX6_sew_X2_isOpen rfl rfl rfl (by decide +kernel) ⟨Nat.le_of_ble_eq_true rfl, Nat.le_of_ble_eq_true rfl⟩) rfl hl.1 (Nat.le_of_ble_eq_true rfl) rfl dX6_sew_25 (fun H locs h => ?_)
        refine lv_if_eq (tgt := 43) hx hb dX6_sew_28 (by decide) (fun c4 => ?_) (fun c4 => ?_)
        · have hf := tk_t c4 hf
          refine lv_bipush (v := (-3)) hx hb dX6_sew_43 (by decide) ?_
          obtain rfl := so_ok hf
          exact x_iret C h dX6_sew_45
        · have hf := tk_f c4 hf
          refine lv_aload_n hx hb dX6_sew_31 rfl (lv_at hl 0 rfl) ?_
          refine x_get (v := .ref (ad 10)) C h (gX_BM κ ad σ) rfl inX6_sew_X6 1 (by decide) (hts _ lkX6_sew_20) rfl dX6_sew_32 ?_
          refine lv_iload_n hx hb dX6_sew_35 rfl (lv_at hl 1 rfl) ?_
          refine lv_iload_n hx hb dX6_sew_36 rfl (lv_at hl 2 rfl) ?_
          obtain ⟨r6, hg5, hf⟩ := bd_ok hf
          refine x_vi (As := [.int x1, .int x2]) (rest := []) C h (gX_Sp κ ad σ) rfl (kX2_leastHarm l D κ ad x1 x2 σ (r := r6) hg5) (fun hts => cwV 2 hts gX6_sew_X2_leastHarm rfl rfl rfl (by decide +kernel) ⟨Nat.le_of_ble_eq_true rfl, Nat.le_of_ble_eq_true rfl⟩) rfl hl.1 (Nat.le_of_ble_eq_true rfl) rfl dX6_sew_37 (fun H locs h => ?_)
          refine lv_goto (tgt := 45) hx hb dX6_sew_40 (by decide) ?_
          obtain rfl := so_ok hf
          exact x_iret C h dX6_sew_45
      · have hf := tk_f c3 hf
        refine lv_bipush (v := (-2)) hx hb dX6_sew_18 (by decide) ?_
        obtain rfl := so_ok hf
        exact x_iret C h dX6_sew_20
  · have hf := tk_t c1 hf
    refine lv_iconst (v := (-1)) hx hb dX6_sew_7 (by decide) ?_
    obtain rfl := so_ok hf
    exact x_iret C h dX6_sew_8

-- ===== X6_set: ButtonMatch.set(I)I
theorem lkX6_set_20 : Cond.fieldLink RX6 20 "ButtonMatch" "shop" "LButtonMatch$Shop;" ∈ wsX6_set := by decide +kernel
theorem inX6_set_X6 : ∀ w ∈ wsX60, w ∈ wsX6_set := fun _ h => List.mem_cons_of_mem _ (List.mem_append_left _ (List.mem_append_left _ (List.mem_append_right _ h)))
def fX6_set (x1 : Int32) (σ : Sg) : Option (Int32) :=
  (if x1 < 1 then some (-2) else (if x1 ≤ 9 then (if (fX2_isOpen σ) = 0 then some (-3) else ((fX2_cheapest x1 σ).bind fun r5 => some r5)) else some (-2)))
set_option maxHeartbeats 4000000 in
set_option maxRecDepth 100000 in
theorem kX6_set (l : Launch) (D : va_G) (κ : Kp) (ad : Nat → Nat) (x1 : Int32) (σ : Sg) {r : Int32} (hf : fX6_set x1 σ = some r) : Ci l D κ (wsX κ ad) yX6_set wsX6_set 1 24 [.ref (ad 0), .int x1] σ r σ := by
  refine Ci.of (cc := cX6_set) (nL := 2) (ret := (some .int)) (by decide) rfl (Nat.le_of_ble_eq_true rfl) ?_
  intro p e s m below meth c A ls C h hl
  obtain ⟨hx, hb, hml, hr, hlk, hown, hts, hK, hA, hZ⟩ := id C
  have hl : lv_has ls 2 [(0, .ref (ad 0)), (1, .int x1)] := hl
  unfold fX6_set at hf
  refine lv_iload_n hx hb dX6_set_0 rfl (lv_at hl 1 rfl) ?_
  refine lv_iconst (v := 1) hx hb dX6_set_1 (by decide) ?_
  refine lv_icmp_lt (tgt := 11) hx hb dX6_set_2 (by decide) (fun c1 => ?_) (fun c1 => ?_)
  · have hf := tk_t c1 hf
    refine lv_bipush (v := (-2)) hx hb dX6_set_11 (by decide) ?_
    obtain rfl := so_ok hf
    exact x_iret C h dX6_set_13
  · have hf := tk_f c1 hf
    refine lv_iload_n hx hb dX6_set_5 rfl (lv_at hl 1 rfl) ?_
    refine lv_bipush (v := 9) hx hb dX6_set_6 (by decide) ?_
    refine lv_icmp_le (tgt := 14) hx hb dX6_set_8 (by decide) (fun c2 => ?_) (fun c2 => ?_)
    · have hf := tk_t c2 hf
      refine lv_aload_n hx hb dX6_set_14 rfl (lv_at hl 0 rfl) ?_
      refine x_get (v := .ref (ad 10)) C h (gX_BM κ ad σ) rfl inX6_set_X6 1 (by decide) (hts _ lkX6_set_20) rfl dX6_set_15 ?_
      refine x_vi (As := []) (rest := []) C h (gX_Sp κ ad σ) rfl (kX2_isOpen l D κ ad σ (r := (fX2_isOpen σ)) rfl) (fun hts => cwV 0 hts gX6_set_X2_isOpen rfl rfl rfl (by decide +kernel) ⟨Nat.le_of_ble_eq_true rfl, Nat.le_of_ble_eq_true rfl⟩) rfl hl.1 (Nat.le_of_ble_eq_true rfl) rfl dX6_set_18 (fun H locs h => ?_)
      refine lv_if_eq (tgt := 35) hx hb dX6_set_21 (by decide) (fun c3 => ?_) (fun c3 => ?_)
      · have hf := tk_t c3 hf
        refine lv_bipush (v := (-3)) hx hb dX6_set_35 (by decide) ?_
        obtain rfl := so_ok hf
        exact x_iret C h dX6_set_37
      · have hf := tk_f c3 hf
        refine lv_aload_n hx hb dX6_set_24 rfl (lv_at hl 0 rfl) ?_
        refine x_get (v := .ref (ad 10)) C h (gX_BM κ ad σ) rfl inX6_set_X6 1 (by decide) (hts _ lkX6_set_20) rfl dX6_set_25 ?_
        refine lv_iload_n hx hb dX6_set_28 rfl (lv_at hl 1 rfl) ?_
        obtain ⟨r5, hg4, hf⟩ := bd_ok hf
        refine x_vi (As := [.int x1]) (rest := []) C h (gX_Sp κ ad σ) rfl (kX2_cheapest l D κ ad x1 σ (r := r5) hg4) (fun hts => cwV 1 hts gX6_set_X2_cheapest rfl rfl rfl (by decide +kernel) ⟨Nat.le_of_ble_eq_true rfl, Nat.le_of_ble_eq_true rfl⟩) rfl hl.1 (Nat.le_of_ble_eq_true rfl) rfl dX6_set_29 (fun H locs h => ?_)
        refine lv_goto (tgt := 37) hx hb dX6_set_32 (by decide) ?_
        obtain rfl := so_ok hf
        exact x_iret C h dX6_set_37
    · have hf := tk_f c2 hf
      refine lv_bipush (v := (-2)) hx hb dX6_set_11 (by decide) ?_
      obtain rfl := so_ok hf
      exact x_iret C h dX6_set_13

-- ===== X6_tin: ButtonMatch.tin(II)J
theorem lkX6_tin_134 : Cond.constantLong RX6 134 (-9223372036854775808) ∈ wsX6_tin := by decide +kernel
theorem lkX6_tin_20 : Cond.fieldLink RX6 20 "ButtonMatch" "shop" "LButtonMatch$Shop;" ∈ wsX6_tin := by decide +kernel
theorem inX6_tin_X6 : ∀ w ∈ wsX60, w ∈ wsX6_tin := fun _ h => List.mem_cons_of_mem _ (List.mem_append_left _ (List.mem_append_left _ (List.mem_append_right _ h)))
theorem mwX6_tin_143 : Cond.methodLink RX6 143 Lib.Math.min.name ∈ wsX6_tin ∧ Cond.static Lib.Math.min.name ∈ wsX6_tin ∧ Cond.initialized "java/lang/Math" ∈ wsX6_tin ∧ Cond.code Lib.Math.min.name Lib.Math.min.code 2 (some .int) ∈ wsX6_tin := ⟨by decide +kernel, by decide +kernel, by decide +kernel, by decide +kernel⟩
def fX6_tin (x1 : Int32) (x2 : Int32) (σ : Sg) : Option (Int64) :=
  (if x1 < 0 then some (-9223372036854775808) else (if 9 < x1 then some (-9223372036854775808) else (if x2 < 0 then some (-9223372036854775808) else (if 1 < x2 then some (-9223372036854775808) else (if (fX2_isOpen σ) = 0 then some (-9223372036854775808) else ((fX2_buttons σ).bind fun r7 => ((fX2_alikeButtons σ).bind fun r9 => ((fX4_share r7 r9 (if r7 < x1 then r7 else x1) x2 σ).bind fun r11 => some r11))))))))
set_option maxHeartbeats 4000000 in
set_option maxRecDepth 100000 in
theorem kX6_tin (l : Launch) (D : va_G) (κ : Kp) (ad : Nat → Nat) (x1 : Int32) (x2 : Int32) (σ : Sg) {r : Int64} (hf : fX6_tin x1 x2 σ = some r) : Cl l D κ (wsX κ ad) yX6_tin wsX6_tin 6 131 [.ref (ad 0), .int x1, .int x2] σ r σ := by
  refine Cl.of (cc := cX6_tin) (nL := 4) (ret := (some .long)) (by decide) rfl (Nat.le_of_ble_eq_true rfl) ?_
  intro p e s m below meth c A ls C h hl
  obtain ⟨hx, hb, hml, hr, hlk, hown, hts, hK, hA, hZ⟩ := id C
  have hl : lv_has ls 4 [(0, .ref (ad 0)), (1, .int x1), (2, .int x2)] := hl
  unfold fX6_tin at hf
  refine lv_iload_n hx hb dX6_tin_0 rfl (lv_at hl 1 rfl) ?_
  refine lv_if_lt (tgt := 29) hx hb dX6_tin_1 (by decide) (fun c1 => ?_) (fun c1 => ?_)
  · have hf := tk_t c1 hf
    refine lv_ldc2 (v := (-9223372036854775808)) hx hb hown (hts _ lkX6_tin_134) dX6_tin_29 ?_
    obtain rfl := so_ok hf
    exact x_lret C h dX6_tin_32
  · have hf := tk_f c1 hf
    refine lv_iload_n hx hb dX6_tin_4 rfl (lv_at hl 1 rfl) ?_
    refine lv_bipush (v := 9) hx hb dX6_tin_5 (by decide) ?_
    refine lv_icmp_gt (tgt := 29) hx hb dX6_tin_7 (by decide) (fun c2 => ?_) (fun c2 => ?_)
    · have hf := tk_t c2 hf
      refine lv_ldc2 (v := (-9223372036854775808)) hx hb hown (hts _ lkX6_tin_134) dX6_tin_29 ?_
      obtain rfl := so_ok hf
      exact x_lret C h dX6_tin_32
    · have hf := tk_f c2 hf
      refine lv_iload_n hx hb dX6_tin_10 rfl (lv_at hl 2 rfl) ?_
      refine lv_if_lt (tgt := 29) hx hb dX6_tin_11 (by decide) (fun c3 => ?_) (fun c3 => ?_)
      · have hf := tk_t c3 hf
        refine lv_ldc2 (v := (-9223372036854775808)) hx hb hown (hts _ lkX6_tin_134) dX6_tin_29 ?_
        obtain rfl := so_ok hf
        exact x_lret C h dX6_tin_32
      · have hf := tk_f c3 hf
        refine lv_iload_n hx hb dX6_tin_14 rfl (lv_at hl 2 rfl) ?_
        refine lv_iconst (v := 1) hx hb dX6_tin_15 (by decide) ?_
        refine lv_icmp_gt (tgt := 29) hx hb dX6_tin_16 (by decide) (fun c4 => ?_) (fun c4 => ?_)
        · have hf := tk_t c4 hf
          refine lv_ldc2 (v := (-9223372036854775808)) hx hb hown (hts _ lkX6_tin_134) dX6_tin_29 ?_
          obtain rfl := so_ok hf
          exact x_lret C h dX6_tin_32
        · have hf := tk_f c4 hf
          refine lv_aload_n hx hb dX6_tin_19 rfl (lv_at hl 0 rfl) ?_
          refine x_get (v := .ref (ad 10)) C h (gX_BM κ ad σ) rfl inX6_tin_X6 1 (by decide) (hts _ lkX6_tin_20) rfl dX6_tin_20 ?_
          refine x_vi (As := []) (rest := []) C h (gX_Sp κ ad σ) rfl (kX2_isOpen l D κ ad σ (r := (fX2_isOpen σ)) rfl) (fun hts => cwV 0 hts gX6_tin_X2_isOpen rfl rfl rfl (by decide +kernel) ⟨Nat.le_of_ble_eq_true rfl, Nat.le_of_ble_eq_true rfl⟩) rfl hl.1 (Nat.le_of_ble_eq_true rfl) rfl dX6_tin_23 (fun H locs h => ?_)
          refine lv_if_ne (tgt := 33) hx hb dX6_tin_26 (by decide) (fun c5 => ?_) (fun c5 => ?_)
          · have hf := tk_f c5 hf
            refine lv_aload_n hx hb dX6_tin_33 rfl (lv_at hl 0 rfl) ?_
            refine x_get (v := .ref (ad 10)) C h (gX_BM κ ad σ) rfl inX6_tin_X6 1 (by decide) (hts _ lkX6_tin_20) rfl dX6_tin_34 ?_
            obtain ⟨r7, hg6, hf⟩ := bd_ok hf
            refine x_vi (As := []) (rest := []) C h (gX_Sp κ ad σ) rfl (kX2_buttons l D κ ad σ (r := r7) hg6) (fun hts => cwV 0 hts gX6_tin_X2_buttons rfl rfl rfl (by decide +kernel) ⟨Nat.le_of_ble_eq_true rfl, Nat.le_of_ble_eq_true rfl⟩) rfl hl.1 (Nat.le_of_ble_eq_true rfl) rfl dX6_tin_37 (fun H locs h => ?_)
            refine lv_istore_n (lv' := [(3, .int r7), (0, .ref (ad 0)), (1, .int x1), (2, .int x2)]) hx hb dX6_tin_40 rfl hl (by decide) rfl (fun ls hl => ?_)
            refine lv_iload_n hx hb dX6_tin_41 rfl (lv_at hl 0 rfl) ?_
            refine lv_aload_n hx hb dX6_tin_42 rfl (lv_at hl 1 rfl) ?_
            refine x_get (v := .ref (ad 10)) C h (gX_BM κ ad σ) rfl inX6_tin_X6 1 (by decide) (hts _ lkX6_tin_20) rfl dX6_tin_43 ?_
            obtain ⟨r9, hg8, hf⟩ := bd_ok hf
            refine x_vi (As := []) (rest := [.int r7]) C h (gX_Sp κ ad σ) rfl (kX2_alikeButtons l D κ ad σ (r := r9) hg8) (fun hts => cwV 0 hts gX6_tin_X2_alikeButtons rfl rfl rfl (by decide +kernel) ⟨Nat.le_of_ble_eq_true rfl, Nat.le_of_ble_eq_true rfl⟩) rfl hl.1 (Nat.le_of_ble_eq_true rfl) rfl dX6_tin_46 (fun H locs h => ?_)
            refine lv_iload_n hx hb dX6_tin_49 rfl (lv_at hl 2 rfl) ?_
            refine lv_iload_n hx hb dX6_tin_50 rfl (lv_at hl 0 rfl) ?_
            refine va_mmin hx hb (hml.trans hl.1.symm) hown (hts _ mwX6_tin_143.1) (hts _ mwX6_tin_143.2.1) (hts _ mwX6_tin_143.2.2.1) (hts _ mwX6_tin_143.2.2.2) (Nat.le_of_ble_eq_true rfl) (Nat.le_of_ble_eq_true rfl) (Nat.zero_le _) (Nat.zero_le _) dX6_tin_51 ?_
            refine lv_iload_n hx hb dX6_tin_54 rfl (lv_at hl 3 rfl) ?_
            obtain ⟨r11, hg10, hf⟩ := bd_ok hf
            refine x_sl (As := [.int r7, .int r9, .int (if r7 < x1 then r7 else x1), .int x2]) (rest := []) C h (kX4_share l D κ ad r7 r9 (if r7 < x1 then r7 else x1) x2 σ (r := r11) hg10) (fun hts => va_cwS 4 hts gX6_tin_X4_share rfl rfl rfl (by decide +kernel) ⟨Nat.le_of_ble_eq_true rfl, Nat.le_of_ble_eq_true rfl⟩) rfl hl.1 (Nat.le_of_ble_eq_true rfl) rfl dX6_tin_55 (fun H locs h => ?_)
            obtain rfl := so_ok hf
            exact x_lret C h dX6_tin_58
          · have hf := tk_t c5 hf
            refine lv_ldc2 (v := (-9223372036854775808)) hx hb hown (hts _ lkX6_tin_134) dX6_tin_29 ?_
            obtain rfl := so_ok hf
            exact x_lret C h dX6_tin_32

-- ===== X6_half: ButtonMatch.half()I
theorem lkX6_half_20 : Cond.fieldLink RX6 20 "ButtonMatch" "shop" "LButtonMatch$Shop;" ∈ wsX6_half := by decide +kernel
theorem inX6_half_X6 : ∀ w ∈ wsX60, w ∈ wsX6_half := fun _ h => List.mem_cons_of_mem _ (List.mem_append_left _ (List.mem_append_left _ (List.mem_append_right _ h)))
def fX6_half (σ : Sg) : Option (Int32) :=
  (if (fX2_isOpen σ) = 0 then some (-3) else ((fX2_buttons σ).bind fun r3 => ((fX2_alikeButtons σ).bind fun r5 => ((fX4_fewestForHalf r3 r5 σ).bind fun r7 => some r7))))
set_option maxHeartbeats 4000000 in
set_option maxRecDepth 100000 in
theorem kX6_half (l : Launch) (D : va_G) (κ : Kp) (ad : Nat → Nat) (σ : Sg) {r : Int32} (hf : fX6_half σ = some r) : Ci l D κ (wsX κ ad) yX6_half wsX6_half 6 131 [.ref (ad 0)] σ r σ := by
  refine Ci.of (cc := cX6_half) (nL := 1) (ret := (some .int)) (by decide) rfl (Nat.le_of_ble_eq_true rfl) ?_
  intro p e s m below meth c A ls C h hl
  obtain ⟨hx, hb, hml, hr, hlk, hown, hts, hK, hA, hZ⟩ := id C
  have hl : lv_has ls 1 [(0, .ref (ad 0))] := hl
  unfold fX6_half at hf
  refine lv_aload_n hx hb dX6_half_0 rfl (lv_at hl 0 rfl) ?_
  refine x_get (v := .ref (ad 10)) C h (gX_BM κ ad σ) rfl inX6_half_X6 1 (by decide) (hts _ lkX6_half_20) rfl dX6_half_1 ?_
  refine x_vi (As := []) (rest := []) C h (gX_Sp κ ad σ) rfl (kX2_isOpen l D κ ad σ (r := (fX2_isOpen σ)) rfl) (fun hts => cwV 0 hts gX6_half_X2_isOpen rfl rfl rfl (by decide +kernel) ⟨Nat.le_of_ble_eq_true rfl, Nat.le_of_ble_eq_true rfl⟩) rfl hl.1 (Nat.le_of_ble_eq_true rfl) rfl dX6_half_4 (fun H locs h => ?_)
  refine lv_if_eq (tgt := 30) hx hb dX6_half_7 (by decide) (fun c1 => ?_) (fun c1 => ?_)
  · have hf := tk_t c1 hf
    refine lv_bipush (v := (-3)) hx hb dX6_half_30 (by decide) ?_
    obtain rfl := so_ok hf
    exact x_iret C h dX6_half_32
  · have hf := tk_f c1 hf
    refine lv_aload_n hx hb dX6_half_10 rfl (lv_at hl 0 rfl) ?_
    refine x_get (v := .ref (ad 10)) C h (gX_BM κ ad σ) rfl inX6_half_X6 1 (by decide) (hts _ lkX6_half_20) rfl dX6_half_11 ?_
    obtain ⟨r3, hg2, hf⟩ := bd_ok hf
    refine x_vi (As := []) (rest := []) C h (gX_Sp κ ad σ) rfl (kX2_buttons l D κ ad σ (r := r3) hg2) (fun hts => cwV 0 hts gX6_half_X2_buttons rfl rfl rfl (by decide +kernel) ⟨Nat.le_of_ble_eq_true rfl, Nat.le_of_ble_eq_true rfl⟩) rfl hl.1 (Nat.le_of_ble_eq_true rfl) rfl dX6_half_14 (fun H locs h => ?_)
    refine lv_aload_n hx hb dX6_half_17 rfl (lv_at hl 0 rfl) ?_
    refine x_get (v := .ref (ad 10)) C h (gX_BM κ ad σ) rfl inX6_half_X6 1 (by decide) (hts _ lkX6_half_20) rfl dX6_half_18 ?_
    obtain ⟨r5, hg4, hf⟩ := bd_ok hf
    refine x_vi (As := []) (rest := [.int r3]) C h (gX_Sp κ ad σ) rfl (kX2_alikeButtons l D κ ad σ (r := r5) hg4) (fun hts => cwV 0 hts gX6_half_X2_alikeButtons rfl rfl rfl (by decide +kernel) ⟨Nat.le_of_ble_eq_true rfl, Nat.le_of_ble_eq_true rfl⟩) rfl hl.1 (Nat.le_of_ble_eq_true rfl) rfl dX6_half_21 (fun H locs h => ?_)
    obtain ⟨r7, hg6, hf⟩ := bd_ok hf
    refine x_si (As := [.int r3, .int r5]) (rest := []) C h (kX4_fewestForHalf l D κ ad r3 r5 σ (r := r7) hg6) (fun hts => va_cwS 2 hts gX6_half_X4_fewestForHalf rfl rfl rfl (by decide +kernel) ⟨Nat.le_of_ble_eq_true rfl, Nat.le_of_ble_eq_true rfl⟩) rfl hl.1 (Nat.le_of_ble_eq_true rfl) rfl dX6_half_24 (fun H locs h => ?_)
    refine lv_goto (tgt := 32) hx hb dX6_half_27 (by decide) ?_
    obtain rfl := so_ok hf
    exact x_iret C h dX6_half_32

-- ===== X6_reading: ButtonMatch.reading(IZ)I
theorem lkX6_reading_20 : Cond.fieldLink RX6 20 "ButtonMatch" "shop" "LButtonMatch$Shop;" ∈ wsX6_reading := by decide +kernel
theorem inX6_reading_X6 : ∀ w ∈ wsX60, w ∈ wsX6_reading := fun _ h => List.mem_cons_of_mem _ (List.mem_append_left _ (List.mem_append_left _ (List.mem_append_right _ h)))
theorem lkX6_reading_27 : Cond.fieldLink RX6 27 "ButtonMatch" "readings" "LButtonMatch$Readings;" ∈ wsX6_reading := by decide +kernel
def fX6_reading (x1 : Int32) (x2 : Int32) (σ : Sg) : Option (Int32 × Sg) :=
  (if (fX2_hasTube x1 σ) = 0 then some ((-1), σ) else ((fX0_add x1 x2 σ).bind fun q3 => some (q3.1, q3.2)))
set_option maxHeartbeats 4000000 in
set_option maxRecDepth 100000 in
theorem kX6_reading (l : Launch) (D : va_G) (κ : Kp) (ad : Nat → Nat) (x1 : Int32) (x2 : Int32) (σ : Sg) {r : Int32} {τ : Sg} (hf : fX6_reading x1 x2 σ = some (r, τ)) : Ci l D κ (wsX κ ad) yX6_reading wsX6_reading 1 23 [.ref (ad 0), .int x1, .int x2] σ r τ := by
  refine Ci.of (cc := cX6_reading) (nL := 3) (ret := (some .int)) (by decide) rfl (Nat.le_of_ble_eq_true rfl) ?_
  intro p e s m below meth c A ls C h hl
  obtain ⟨hx, hb, hml, hr, hlk, hown, hts, hK, hA, hZ⟩ := id C
  have hl : lv_has ls 3 [(0, .ref (ad 0)), (1, .int x1), (2, .int x2)] := hl
  unfold fX6_reading at hf
  refine lv_aload_n hx hb dX6_reading_0 rfl (lv_at hl 0 rfl) ?_
  refine x_get (v := .ref (ad 10)) C h (gX_BM κ ad σ) rfl inX6_reading_X6 1 (by decide) (hts _ lkX6_reading_20) rfl dX6_reading_1 ?_
  refine lv_iload_n hx hb dX6_reading_4 rfl (lv_at hl 1 rfl) ?_
  refine x_vi (As := [.int x1]) (rest := []) C h (gX_Sp κ ad σ) rfl (kX2_hasTube l D κ ad x1 σ (r := (fX2_hasTube x1 σ)) rfl) (fun hts => cwV 1 hts gX6_reading_X2_hasTube rfl rfl rfl (by decide +kernel) ⟨Nat.le_of_ble_eq_true rfl, Nat.le_of_ble_eq_true rfl⟩) rfl hl.1 (Nat.le_of_ble_eq_true rfl) rfl dX6_reading_5 (fun H locs h => ?_)
  refine lv_if_eq (tgt := 23) hx hb dX6_reading_8 (by decide) (fun c1 => ?_) (fun c1 => ?_)
  · have hf := tk_t c1 hf
    refine lv_iconst (v := (-1)) hx hb dX6_reading_23 (by decide) ?_
    obtain ⟨rfl, rfl⟩ := pr_ok hf
    exact x_iret C h dX6_reading_24
  · have hf := tk_f c1 hf
    refine lv_aload_n hx hb dX6_reading_11 rfl (lv_at hl 0 rfl) ?_
    refine x_get (v := .ref (ad 19)) C h (gX_BM κ ad σ) rfl inX6_reading_X6 2 (by decide) (hts _ lkX6_reading_27) rfl dX6_reading_12 ?_
    refine lv_iload_n hx hb dX6_reading_15 rfl (lv_at hl 1 rfl) ?_
    refine lv_iload_n hx hb dX6_reading_16 rfl (lv_at hl 2 rfl) ?_
    obtain ⟨q3, hg2, hf⟩ := bd_ok hf
    refine x_vi (As := [.int x1, .int x2]) (rest := []) C h (gX_Rd κ ad σ) rfl (kX0_add l D κ ad x1 x2 σ (r := q3.1) (τ := q3.2) hg2) (fun hts => cwV 2 hts gX6_reading_X0_add rfl rfl rfl (by decide +kernel) ⟨Nat.le_of_ble_eq_true rfl, Nat.le_of_ble_eq_true rfl⟩) rfl hl.1 (Nat.le_of_ble_eq_true rfl) rfl dX6_reading_17 (fun H locs h => ?_)
    refine lv_goto (tgt := 24) hx hb dX6_reading_20 (by decide) ?_
    obtain ⟨rfl, rfl⟩ := pr_ok hf
    exact x_iret C h dX6_reading_24

-- ===== X6_back: ButtonMatch.back(I)I
theorem lkX6_back_27 : Cond.fieldLink RX6 27 "ButtonMatch" "readings" "LButtonMatch$Readings;" ∈ wsX6_back := by decide +kernel
theorem inX6_back_X6 : ∀ w ∈ wsX60, w ∈ wsX6_back := fun _ h => List.mem_cons_of_mem _ (List.mem_append_left _ (List.mem_append_right _ h))
theorem nkRX6_53 : ("ButtonMatch", 53, "ButtonMatch$Readings", "count", "I") ∈ nestL := by decide
theorem inX6_back_X0 : ∀ w ∈ wsX00, w ∈ wsX6_back := fun _ h => List.mem_cons_of_mem _ (List.mem_append_right _ h)
def fX6_back (x1 : Int32) (σ : Sg) : Int32 × Sg :=
  (if x1 < 0 then ((-2), σ) else (if x1 ≤ (σ 19 2) then (((σ 19 2) - x1), (up2 σ 19 2 ((σ 19 2) - x1))) else ((-2), σ)))
set_option maxHeartbeats 4000000 in
set_option maxRecDepth 100000 in
theorem kX6_back (l : Launch) (D : va_G) (κ : Kp) (ad : Nat → Nat) (x1 : Int32) (σ : Sg) {r : Int32} {τ : Sg} (hf : fX6_back x1 σ = (r, τ)) : Ci l D κ (wsX κ ad) yX6_back wsX6_back 0 0 [.ref (ad 0), .int x1] σ r τ := by
  refine Ci.of (cc := cX6_back) (nL := 2) (ret := (some .int)) (by decide) rfl (Nat.le_of_ble_eq_true rfl) ?_
  intro p e s m below meth c A ls C h hl
  obtain ⟨hx, hb, hml, hr, hlk, hown, hts, hK, hA, hZ⟩ := id C
  have hl : lv_has ls 2 [(0, .ref (ad 0)), (1, .int x1)] := hl
  unfold fX6_back at hf
  refine lv_iload_n hx hb dX6_back_0 rfl (lv_at hl 1 rfl) ?_
  refine lv_if_lt (tgt := 15) hx hb dX6_back_1 (by decide) (fun c1 => ?_) (fun c1 => ?_)
  · have hf := tk_t c1 hf
    refine lv_bipush (v := (-2)) hx hb dX6_back_15 (by decide) ?_
    obtain ⟨rfl, rfl⟩ := pr_tot hf
    exact x_iret C h dX6_back_17
  · have hf := tk_f c1 hf
    refine lv_iload_n hx hb dX6_back_4 rfl (lv_at hl 1 rfl) ?_
    refine lv_aload_n hx hb dX6_back_5 rfl (lv_at hl 0 rfl) ?_
    refine x_get (v := .ref (ad 19)) C h (gX_BM κ ad σ) rfl inX6_back_X6 2 (by decide) (hts _ lkX6_back_27) rfl dX6_back_6 ?_
    refine x_getN (v := .int (σ 19 2)) C h (gX_Rd κ ad σ) rfl inX6_back_X0 2 (by decide) ((hZ.2.2.2.2.2.2.2.1 _ nkRX6_53).use rfl) rfl dX6_back_9 ?_
    refine lv_icmp_le (tgt := 18) hx hb dX6_back_12 (by decide) (fun c2 => ?_) (fun c2 => ?_)
    · have hf := tk_t c2 hf
      refine lv_aload_n hx hb dX6_back_18 rfl (lv_at hl 0 rfl) ?_
      refine x_get (v := .ref (ad 19)) C h (gX_BM κ ad σ) rfl inX6_back_X6 2 (by decide) (hts _ lkX6_back_27) rfl dX6_back_19 ?_
      refine lv_dup hx hb dX6_back_22 rfl ?_
      refine x_getN (v := .int (σ 19 2)) C h (gX_Rd κ ad σ) rfl inX6_back_X0 2 (by decide) ((hZ.2.2.2.2.2.2.2.1 _ nkRX6_53).use rfl) rfl dX6_back_23 ?_
      refine lv_iload_n hx hb dX6_back_26 rfl (lv_at hl 1 rfl) ?_
      refine lv_isub hx hb dX6_back_27 ?_
      refine x_putN C h (gX_Rd κ ad σ) rfl inX6_back_X0 tyX0 tyX0_ok nmX0 2 (by decide) ((hZ.2.2.2.2.2.2.2.1 _ nkRX6_53).use rfl) rfl (tyX0_ok 2 (by decide)) (Nat.le_of_ble_eq_true rfl) (sX_Rd_2 κ ad σ ((σ 19 2) - x1)) dX6_back_28 (fun H locs h => ?_)
      refine lv_aload_n hx hb dX6_back_31 rfl (lv_at hl 0 rfl) ?_
      refine x_get (v := .ref (ad 19)) C h (gX_BM κ ad (up2 σ 19 2 ((σ 19 2) - x1))) rfl inX6_back_X6 2 (by decide) (hts _ lkX6_back_27) rfl dX6_back_32 ?_
      refine x_getN (v := .int ((σ 19 2) - x1)) C h (gX_Rd κ ad (up2 σ 19 2 ((σ 19 2) - x1))) rfl inX6_back_X0 2 (by decide) ((hZ.2.2.2.2.2.2.2.1 _ nkRX6_53).use rfl) rfl dX6_back_35 ?_
      obtain ⟨rfl, rfl⟩ := pr_tot hf
      exact x_iret C h dX6_back_38
    · have hf := tk_f c2 hf
      refine lv_bipush (v := (-2)) hx hb dX6_back_15 (by decide) ?_
      obtain ⟨rfl, rfl⟩ := pr_tot hf
      exact x_iret C h dX6_back_17

-- ===== X6_memories: ButtonMatch.memories(I)I
theorem lkX6_memories_20 : Cond.fieldLink RX6 20 "ButtonMatch" "shop" "LButtonMatch$Shop;" ∈ wsX6_memories := by decide +kernel
theorem inX6_memories_X6 : ∀ w ∈ wsX60, w ∈ wsX6_memories := fun _ h => List.mem_cons_of_mem _ (List.mem_append_left _ (List.mem_append_left _ (List.mem_append_left _ (List.mem_append_right _ h))))
theorem inX6_memories_X2 : ∀ w ∈ wsX20, w ∈ wsX6_memories := fun _ h => List.mem_cons_of_mem _ (List.mem_append_left _ (List.mem_append_left _ (List.mem_append_right _ h)))
theorem lkX6_memories_27 : Cond.fieldLink RX6 27 "ButtonMatch" "readings" "LButtonMatch$Readings;" ∈ wsX6_memories := by decide +kernel
def fX6_memories_60 (x1 : Int32) (x2 : Int32) (x3 : Int32) (x6 : Int32) (K51 : Int32 → Int32 → Int32 → Sg → Option (Int32 × Sg)) : Nat → Int32 → Int32 → Int32 → Sg → Option (Int32 × Sg)
  | 0, _, _, _, _ => none
  | n + 1, x4, x5, x7, σ => (if 3 < x7 then K51 x4 x5 (x6 + 1) σ else ((fX0_fit (up2 (up2 σ 10 7 x6) 10 8 x7)).bind fun r3 => (if r3 = 0 then fX6_memories_60 x1 x2 x3 x6 K51 n x4 x5 (x7 + 1) (up2 (up2 σ 10 7 x6) 10 8 x7) else (if x4 = 0 then fX6_memories_60 x1 x2 x3 x6 K51 n (x4 + 1) (fX6_memory x6 x7 (up2 (up2 σ 10 7 x6) 10 8 x7)) (x7 + 1) (up2 (up2 σ 10 7 x6) 10 8 x7) else fX6_memories_60 x1 x2 x3 x6 K51 n (x4 + 1) x5 (x7 + 1) (up2 (up2 σ 10 7 x6) 10 8 x7)))))
set_option maxHeartbeats 4000000 in
set_option maxRecDepth 100000 in
theorem jX6_memories_60 {p : Program} {l : Launch} {e : Env} {s : State} {m : MethodId} {args : Array Value} {below : List Frame} {meth : Method} {c : Code} {D : va_G} {κ : Kp} {ad : Nat → Nat} {A : Nat → Prop} {r : Int32} {τ : Sg} (C : Mc p s m args meth c cX6_memories 8 (some .int) wsX6_memories RX6 D κ A) (x1 : Int32) (x2 : Int32) (x3 : Int32) (x6 : Int32) (K51 : Int32 → Int32 → Int32 → Sg → Option (Int32 × Sg)) (hK51 : ∀ (x4 : Int32) (x5 : Int32) (x6 : Int32) (σ : Sg) (H : Heap) (locs : List Loc) (ls : Array Slot), Wd D (wsX κ ad) A s.heap H locs σ → lv_has ls 8 [(0, .ref (ad 0)), (1, .int x1), (2, .int x2), (3, .int x3), (4, .int x4), (5, .int x5), (6, .int x6)] → K51 x4 x5 x6 σ = some (r, τ) → W p l e { frames := 6, cells := 0, slots := 0, locals := 131 } s m args below meth c H locs 0 0 (Qi below args s D (wsX κ ad) A r τ) (F0 m 51 ls [])) : ∀ (n : Nat) (x4 : Int32) (x5 : Int32) (x7 : Int32) (σ : Sg) (H : Heap) (locs : List Loc) (ls : Array Slot), Wd D (wsX κ ad) A s.heap H locs σ → lv_has ls 8 [(0, .ref (ad 0)), (1, .int x1), (2, .int x2), (3, .int x3), (4, .int x4), (5, .int x5), (6, .int x6), (7, .int x7)] → fX6_memories_60 x1 x2 x3 x6 K51 n x4 x5 x7 σ = some (r, τ) → W p l e { frames := 6, cells := 0, slots := 0, locals := 131 } s m args below meth c H locs 0 0 (Qi below args s D (wsX κ ad) A r τ) (F0 m 60 ls []) := by
  obtain ⟨hx, hb, hml, hr, hlk, hown, hts, hK, hA, hZ⟩ := id C
  intro n
  induction n with
  | zero =>
    intro x4 x5 x7 σ H locs ls h hl hf
    rw [fX6_memories_60] at hf
    cases hf
  | succ n ih =>
    intro x4 x5 x7 σ H locs ls h hl hf
    rw [fX6_memories_60] at hf
    refine lv_iload hx hb dX6_memories_60 (lv_at hl 7 rfl) ?_
    refine lv_iconst (v := 3) hx hb dX6_memories_62 (by decide) ?_
    refine lv_icmp_gt (tgt := 126) hx hb dX6_memories_63 (by decide) (fun c1 => ?_) (fun c1 => ?_)
    · have hf := tk_t c1 hf
      refine lv_iinc (v := (x6 + 1)) (lv' := [(6, .int (x6 + 1)), (0, .ref (ad 0)), (1, .int x1), (2, .int x2), (3, .int x3), (4, .int x4), (5, .int x5), (7, .int x7)]) hx hb dX6_memories_126 hl (k := 6) rfl rfl (by decide) rfl (fun ls hl => ?_)
      refine lv_goto (tgt := 51) hx hb dX6_memories_129 (by decide) ?_
      exact hK51 x4 x5 (x6 + 1) σ _ _ _ h (lv_sub hl [1, 2, 3, 4, 5, 6, 0] rfl) hf
    · have hf := tk_f c1 hf
      refine lv_aload_n hx hb dX6_memories_66 rfl (lv_at hl 0 rfl) ?_
      refine x_get (v := .ref (ad 10)) C h (gX_BM κ ad σ) rfl inX6_memories_X6 1 (by decide) (hts _ lkX6_memories_20) rfl dX6_memories_67 ?_
      refine lv_iload hx hb dX6_memories_70 (lv_at hl 6 rfl) ?_
      refine x_putN C h (gX_Sp κ ad σ) rfl inX6_memories_X2 tyX2 tyX2_ok nmX2 7 (by decide) ((hZ.2.2.2.2.2.2.2.1 _ nkRX6_87).use rfl) rfl (tyX2_ok 7 (by decide)) (Nat.le_of_ble_eq_true rfl) (sX_Sp_7 κ ad σ x6) dX6_memories_72 (fun H locs h => ?_)
      refine lv_aload_n hx hb dX6_memories_75 rfl (lv_at hl 0 rfl) ?_
      refine x_get (v := .ref (ad 10)) C h (gX_BM κ ad (up2 σ 10 7 x6)) rfl inX6_memories_X6 1 (by decide) (hts _ lkX6_memories_20) rfl dX6_memories_76 ?_
      refine lv_iload hx hb dX6_memories_79 (lv_at hl 7 rfl) ?_
      refine x_putN C h (gX_Sp κ ad (up2 σ 10 7 x6)) rfl inX6_memories_X2 tyX2 tyX2_ok nmX2 8 (by decide) ((hZ.2.2.2.2.2.2.2.1 _ nkRX6_90).use rfl) rfl (tyX2_ok 8 (by decide)) (Nat.le_of_ble_eq_true rfl) (sX_Sp_8 κ ad (up2 σ 10 7 x6) x7) dX6_memories_81 (fun H locs h => ?_)
      refine lv_aload_n hx hb dX6_memories_84 rfl (lv_at hl 0 rfl) ?_
      refine x_get (v := .ref (ad 19)) C h (gX_BM κ ad (up2 (up2 σ 10 7 x6) 10 8 x7)) rfl inX6_memories_X6 2 (by decide) (hts _ lkX6_memories_27) rfl dX6_memories_85 ?_
      refine lv_aload_n hx hb dX6_memories_88 rfl (lv_at hl 0 rfl) ?_
      refine x_get (v := .ref (ad 10)) C h (gX_BM κ ad (up2 (up2 σ 10 7 x6) 10 8 x7)) rfl inX6_memories_X6 1 (by decide) (hts _ lkX6_memories_20) rfl dX6_memories_89 ?_
      obtain ⟨r3, hg2, hf⟩ := bd_ok hf
      refine x_vi (As := [.ref (ad 10)]) (rest := []) C h (gX_Rd κ ad (up2 (up2 σ 10 7 x6) 10 8 x7)) rfl (kX0_fit l D κ ad (up2 (up2 σ 10 7 x6) 10 8 x7) (r := r3) hg2) (fun hts => cwV 1 hts gX6_memories_X0_fit rfl rfl rfl (by decide +kernel) ⟨Nat.le_of_ble_eq_true rfl, Nat.le_of_ble_eq_true rfl⟩) rfl hl.1 (Nat.le_of_ble_eq_true rfl) rfl dX6_memories_92 (fun H locs h => ?_)
      refine lv_if_eq (tgt := 120) hx hb dX6_memories_95 (by decide) (fun c4 => ?_) (fun c4 => ?_)
      · have hf := tk_t c4 hf
        refine lv_iinc (v := (x7 + 1)) (lv' := [(7, .int (x7 + 1)), (0, .ref (ad 0)), (1, .int x1), (2, .int x2), (3, .int x3), (4, .int x4), (5, .int x5), (6, .int x6)]) hx hb dX6_memories_120 hl (k := 7) rfl rfl (by decide) rfl (fun ls hl => ?_)
        refine lv_goto (tgt := 60) hx hb dX6_memories_123 (by decide) ?_
        exact ih x4 x5 (x7 + 1) (up2 (up2 σ 10 7 x6) 10 8 x7) _ _ _ h (lv_sub hl [1, 2, 3, 4, 5, 6, 7, 0] rfl) hf
      · have hf := tk_f c4 hf
        refine lv_iload hx hb dX6_memories_98 (lv_at hl 4 rfl) ?_
        refine lv_if_ne (tgt := 113) hx hb dX6_memories_100 (by decide) (fun c5 => ?_) (fun c5 => ?_)
        · have hf := tk_f c5 hf
          refine lv_iload hx hb dX6_memories_113 (lv_at hl 5 rfl) ?_
          refine lv_istore (lv' := [(5, .int x5), (0, .ref (ad 0)), (1, .int x1), (2, .int x2), (3, .int x3), (4, .int x4), (6, .int x6), (7, .int x7)]) hx hb dX6_memories_115 hl (by decide) rfl (fun ls hl => ?_)
          refine lv_iinc (v := (x4 + 1)) (lv' := [(4, .int (x4 + 1)), (5, .int x5), (0, .ref (ad 0)), (1, .int x1), (2, .int x2), (3, .int x3), (6, .int x6), (7, .int x7)]) hx hb dX6_memories_117 hl (k := 5) rfl rfl (by decide) rfl (fun ls hl => ?_)
          refine lv_iinc (v := (x7 + 1)) (lv' := [(7, .int (x7 + 1)), (4, .int (x4 + 1)), (5, .int x5), (0, .ref (ad 0)), (1, .int x1), (2, .int x2), (3, .int x3), (6, .int x6)]) hx hb dX6_memories_120 hl (k := 7) rfl rfl (by decide) rfl (fun ls hl => ?_)
          refine lv_goto (tgt := 60) hx hb dX6_memories_123 (by decide) ?_
          exact ih (x4 + 1) x5 (x7 + 1) (up2 (up2 σ 10 7 x6) 10 8 x7) _ _ _ h (lv_sub hl [3, 4, 5, 6, 1, 2, 7, 0] rfl) hf
        · have hf := tk_t c5 hf
          refine lv_iload hx hb dX6_memories_103 (lv_at hl 6 rfl) ?_
          refine lv_iload hx hb dX6_memories_105 (lv_at hl 7 rfl) ?_
          refine x_si (As := [.int x6, .int x7]) (rest := []) C h (kX6_memory l D κ ad x6 x7 (up2 (up2 σ 10 7 x6) 10 8 x7) (r := (fX6_memory x6 x7 (up2 (up2 σ 10 7 x6) 10 8 x7))) rfl) (fun hts => va_cwS 2 hts gX6_memories_X6_memory rfl rfl rfl (by decide +kernel) ⟨Nat.le_of_ble_eq_true rfl, Nat.le_of_ble_eq_true rfl⟩) rfl hl.1 (Nat.le_of_ble_eq_true rfl) rfl dX6_memories_107 (fun H locs h => ?_)
          refine lv_goto (tgt := 115) hx hb dX6_memories_110 (by decide) ?_
          refine lv_istore (lv' := [(5, .int (fX6_memory x6 x7 (up2 (up2 σ 10 7 x6) 10 8 x7))), (0, .ref (ad 0)), (1, .int x1), (2, .int x2), (3, .int x3), (4, .int x4), (6, .int x6), (7, .int x7)]) hx hb dX6_memories_115 hl (by decide) rfl (fun ls hl => ?_)
          refine lv_iinc (v := (x4 + 1)) (lv' := [(4, .int (x4 + 1)), (5, .int (fX6_memory x6 x7 (up2 (up2 σ 10 7 x6) 10 8 x7))), (0, .ref (ad 0)), (1, .int x1), (2, .int x2), (3, .int x3), (6, .int x6), (7, .int x7)]) hx hb dX6_memories_117 hl (k := 5) rfl rfl (by decide) rfl (fun ls hl => ?_)
          refine lv_iinc (v := (x7 + 1)) (lv' := [(7, .int (x7 + 1)), (4, .int (x4 + 1)), (5, .int (fX6_memory x6 x7 (up2 (up2 σ 10 7 x6) 10 8 x7))), (0, .ref (ad 0)), (1, .int x1), (2, .int x2), (3, .int x3), (6, .int x6)]) hx hb dX6_memories_120 hl (k := 7) rfl rfl (by decide) rfl (fun ls hl => ?_)
          refine lv_goto (tgt := 60) hx hb dX6_memories_123 (by decide) ?_
          exact ih (x4 + 1) (fX6_memory x6 x7 (up2 (up2 σ 10 7 x6) 10 8 x7)) (x7 + 1) (up2 (up2 σ 10 7 x6) 10 8 x7) _ _ _ h (lv_sub hl [3, 4, 5, 6, 1, 2, 7, 0] rfl) hf
def fX6_memories_51 (x1 : Int32) (x2 : Int32) (x3 : Int32) : Nat → Int32 → Int32 → Int32 → Sg → Option (Int32 × Sg)
  | 0, _, _, _, _ => none
  | n + 1, x4, x5, x6, σ => (if 3 < x6 then (if x1 = 0 then some (x4, (up2 (up2 σ 10 7 x2) 10 8 x3)) else some (x5, (up2 (up2 σ 10 7 x2) 10 8 x3))) else fX6_memories_60 x1 x2 x3 x6 (fX6_memories_51 x1 x2 x3 n) 1000 x4 x5 0 σ)
set_option maxHeartbeats 4000000 in
set_option maxRecDepth 100000 in
theorem jX6_memories_51 {p : Program} {l : Launch} {e : Env} {s : State} {m : MethodId} {args : Array Value} {below : List Frame} {meth : Method} {c : Code} {D : va_G} {κ : Kp} {ad : Nat → Nat} {A : Nat → Prop} {r : Int32} {τ : Sg} (C : Mc p s m args meth c cX6_memories 8 (some .int) wsX6_memories RX6 D κ A) (x1 : Int32) (x2 : Int32) (x3 : Int32) : ∀ (n : Nat) (x4 : Int32) (x5 : Int32) (x6 : Int32) (σ : Sg) (H : Heap) (locs : List Loc) (ls : Array Slot), Wd D (wsX κ ad) A s.heap H locs σ → lv_has ls 8 [(0, .ref (ad 0)), (1, .int x1), (2, .int x2), (3, .int x3), (4, .int x4), (5, .int x5), (6, .int x6)] → fX6_memories_51 x1 x2 x3 n x4 x5 x6 σ = some (r, τ) → W p l e { frames := 6, cells := 0, slots := 0, locals := 131 } s m args below meth c H locs 0 0 (Qi below args s D (wsX κ ad) A r τ) (F0 m 51 ls []) := by
  obtain ⟨hx, hb, hml, hr, hlk, hown, hts, hK, hA, hZ⟩ := id C
  intro n
  induction n with
  | zero =>
    intro x4 x5 x6 σ H locs ls h hl hf
    rw [fX6_memories_51] at hf
    cases hf
  | succ n ih =>
    intro x4 x5 x6 σ H locs ls h hl hf
    rw [fX6_memories_51] at hf
    refine lv_iload hx hb dX6_memories_51 (lv_at hl 6 rfl) ?_
    refine lv_iconst (v := 3) hx hb dX6_memories_53 (by decide) ?_
    refine lv_icmp_gt (tgt := 132) hx hb dX6_memories_54 (by decide) (fun c6 => ?_) (fun c6 => ?_)
    · have hf := tk_t c6 hf
      refine lv_aload_n hx hb dX6_memories_132 rfl (lv_at hl 0 rfl) ?_
      refine x_get (v := .ref (ad 10)) C h (gX_BM κ ad σ) rfl inX6_memories_X6 1 (by decide) (hts _ lkX6_memories_20) rfl dX6_memories_133 ?_
      refine lv_iload_n hx hb dX6_memories_136 rfl (lv_at hl 2 rfl) ?_
      refine x_putN C h (gX_Sp κ ad σ) rfl inX6_memories_X2 tyX2 tyX2_ok nmX2 7 (by decide) ((hZ.2.2.2.2.2.2.2.1 _ nkRX6_87).use rfl) rfl (tyX2_ok 7 (by decide)) (Nat.le_of_ble_eq_true rfl) (sX_Sp_7 κ ad σ x2) dX6_memories_137 (fun H locs h => ?_)
      refine lv_aload_n hx hb dX6_memories_140 rfl (lv_at hl 0 rfl) ?_
      refine x_get (v := .ref (ad 10)) C h (gX_BM κ ad (up2 σ 10 7 x2)) rfl inX6_memories_X6 1 (by decide) (hts _ lkX6_memories_20) rfl dX6_memories_141 ?_
      refine lv_iload_n hx hb dX6_memories_144 rfl (lv_at hl 3 rfl) ?_
      refine x_putN C h (gX_Sp κ ad (up2 σ 10 7 x2)) rfl inX6_memories_X2 tyX2 tyX2_ok nmX2 8 (by decide) ((hZ.2.2.2.2.2.2.2.1 _ nkRX6_90).use rfl) rfl (tyX2_ok 8 (by decide)) (Nat.le_of_ble_eq_true rfl) (sX_Sp_8 κ ad (up2 σ 10 7 x2) x3) dX6_memories_145 (fun H locs h => ?_)
      refine lv_iload_n hx hb dX6_memories_148 rfl (lv_at hl 1 rfl) ?_
      refine lv_if_ne (tgt := 157) hx hb dX6_memories_149 (by decide) (fun c7 => ?_) (fun c7 => ?_)
      · have hf := tk_f c7 hf
        refine lv_iload hx hb dX6_memories_157 (lv_at hl 5 rfl) ?_
        obtain ⟨rfl, rfl⟩ := pr_ok hf
        exact x_iret C h dX6_memories_159
      · have hf := tk_t c7 hf
        refine lv_iload hx hb dX6_memories_152 (lv_at hl 4 rfl) ?_
        refine lv_goto (tgt := 159) hx hb dX6_memories_154 (by decide) ?_
        obtain ⟨rfl, rfl⟩ := pr_ok hf
        exact x_iret C h dX6_memories_159
    · have hf := tk_f c6 hf
      refine lv_iconst (v := 0) hx hb dX6_memories_57 (by decide) ?_
      refine lv_istore (lv' := [(7, .int 0), (0, .ref (ad 0)), (1, .int x1), (2, .int x2), (3, .int x3), (4, .int x4), (5, .int x5), (6, .int x6)]) hx hb dX6_memories_58 hl (by decide) rfl (fun ls hl => ?_)
      exact jX6_memories_60 C x1 x2 x3 x6 (fX6_memories_51 x1 x2 x3 n) ih 1000 x4 x5 0 σ _ _ _ h (lv_sub hl [1, 2, 3, 4, 5, 6, 7, 0] rfl) hf
def fX6_memories (x1 : Int32) (σ : Sg) : Option (Int32 × Sg) :=
  (if x1 < 0 then some ((-2), σ) else (if x1 ≤ 1 then (if (fX2_isOpen σ) = 0 then some ((-3), σ) else fX6_memories_51 x1 (σ 10 7) (σ 10 8) 1000 0 (-9) 0 σ) else some ((-2), σ)))
set_option maxHeartbeats 4000000 in
set_option maxRecDepth 100000 in
theorem kX6_memories (l : Launch) (D : va_G) (κ : Kp) (ad : Nat → Nat) (x1 : Int32) (σ : Sg) {r : Int32} {τ : Sg} (hf : fX6_memories x1 σ = some (r, τ)) : Ci l D κ (wsX κ ad) yX6_memories wsX6_memories 6 131 [.ref (ad 0), .int x1] σ r τ := by
  refine Ci.of (cc := cX6_memories) (nL := 8) (ret := (some .int)) (by decide) rfl (Nat.le_of_ble_eq_true rfl) ?_
  intro p e s m below meth c A ls C h hl
  obtain ⟨hx, hb, hml, hr, hlk, hown, hts, hK, hA, hZ⟩ := id C
  have hl : lv_has ls 8 [(0, .ref (ad 0)), (1, .int x1)] := hl
  unfold fX6_memories at hf
  refine lv_iload_n hx hb dX6_memories_0 rfl (lv_at hl 1 rfl) ?_
  refine lv_if_lt (tgt := 9) hx hb dX6_memories_1 (by decide) (fun c8 => ?_) (fun c8 => ?_)
  · have hf := tk_t c8 hf
    refine lv_bipush (v := (-2)) hx hb dX6_memories_9 (by decide) ?_
    obtain ⟨rfl, rfl⟩ := pr_ok hf
    exact x_iret C h dX6_memories_11
  · have hf := tk_f c8 hf
    refine lv_iload_n hx hb dX6_memories_4 rfl (lv_at hl 1 rfl) ?_
    refine lv_iconst (v := 1) hx hb dX6_memories_5 (by decide) ?_
    refine lv_icmp_le (tgt := 12) hx hb dX6_memories_6 (by decide) (fun c9 => ?_) (fun c9 => ?_)
    · have hf := tk_t c9 hf
      refine lv_aload_n hx hb dX6_memories_12 rfl (lv_at hl 0 rfl) ?_
      refine x_get (v := .ref (ad 10)) C h (gX_BM κ ad σ) rfl inX6_memories_X6 1 (by decide) (hts _ lkX6_memories_20) rfl dX6_memories_13 ?_
      refine x_vi (As := []) (rest := []) C h (gX_Sp κ ad σ) rfl (kX2_isOpen l D κ ad σ (r := (fX2_isOpen σ)) rfl) (fun hts => cwV 0 hts gX6_memories_X2_isOpen rfl rfl rfl (by decide +kernel) ⟨Nat.le_of_ble_eq_true rfl, Nat.le_of_ble_eq_true rfl⟩) rfl hl.1 (Nat.le_of_ble_eq_true rfl) rfl dX6_memories_16 (fun H locs h => ?_)
      refine lv_if_ne (tgt := 25) hx hb dX6_memories_19 (by decide) (fun c10 => ?_) (fun c10 => ?_)
      · have hf := tk_f c10 hf
        refine lv_aload_n hx hb dX6_memories_25 rfl (lv_at hl 0 rfl) ?_
        refine x_get (v := .ref (ad 10)) C h (gX_BM κ ad σ) rfl inX6_memories_X6 1 (by decide) (hts _ lkX6_memories_20) rfl dX6_memories_26 ?_
        refine x_getN (v := .int (σ 10 7)) C h (gX_Sp κ ad σ) rfl inX6_memories_X2 7 (by decide) ((hZ.2.2.2.2.2.2.2.1 _ nkRX6_87).use rfl) rfl dX6_memories_29 ?_
        refine lv_istore_n (lv' := [(2, .int (σ 10 7)), (0, .ref (ad 0)), (1, .int x1)]) hx hb dX6_memories_32 rfl hl (by decide) rfl (fun ls hl => ?_)
        refine lv_aload_n hx hb dX6_memories_33 rfl (lv_at hl 1 rfl) ?_
        refine x_get (v := .ref (ad 10)) C h (gX_BM κ ad σ) rfl inX6_memories_X6 1 (by decide) (hts _ lkX6_memories_20) rfl dX6_memories_34 ?_
        refine x_getN (v := .int (σ 10 8)) C h (gX_Sp κ ad σ) rfl inX6_memories_X2 8 (by decide) ((hZ.2.2.2.2.2.2.2.1 _ nkRX6_90).use rfl) rfl dX6_memories_37 ?_
        refine lv_istore_n (lv' := [(3, .int (σ 10 8)), (2, .int (σ 10 7)), (0, .ref (ad 0)), (1, .int x1)]) hx hb dX6_memories_40 rfl hl (by decide) rfl (fun ls hl => ?_)
        refine lv_iconst (v := 0) hx hb dX6_memories_41 (by decide) ?_
        refine lv_istore (lv' := [(4, .int 0), (3, .int (σ 10 8)), (2, .int (σ 10 7)), (0, .ref (ad 0)), (1, .int x1)]) hx hb dX6_memories_42 hl (by decide) rfl (fun ls hl => ?_)
        refine lv_bipush (v := (-9)) hx hb dX6_memories_44 (by decide) ?_
        refine lv_istore (lv' := [(5, .int (-9)), (4, .int 0), (3, .int (σ 10 8)), (2, .int (σ 10 7)), (0, .ref (ad 0)), (1, .int x1)]) hx hb dX6_memories_46 hl (by decide) rfl (fun ls hl => ?_)
        refine lv_iconst (v := 0) hx hb dX6_memories_48 (by decide) ?_
        refine lv_istore (lv' := [(6, .int 0), (5, .int (-9)), (4, .int 0), (3, .int (σ 10 8)), (2, .int (σ 10 7)), (0, .ref (ad 0)), (1, .int x1)]) hx hb dX6_memories_49 hl (by decide) rfl (fun ls hl => ?_)
        exact jX6_memories_51 C x1 (σ 10 7) (σ 10 8) 1000 0 (-9) 0 σ _ _ _ h (lv_sub hl [5, 6, 4, 3, 2, 1, 0] rfl) hf
      · have hf := tk_t c10 hf
        refine lv_bipush (v := (-3)) hx hb dX6_memories_22 (by decide) ?_
        obtain ⟨rfl, rfl⟩ := pr_ok hf
        exact x_iret C h dX6_memories_24
    · have hf := tk_f c9 hf
      refine lv_bipush (v := (-2)) hx hb dX6_memories_9 (by decide) ?_
      obtain ⟨rfl, rfl⟩ := pr_ok hf
      exact x_iret C h dX6_memories_11

-- ===== X6_kinds: ButtonMatch.kinds(I)I
theorem nkRX6_165 : ("ButtonMatch", 165, "ButtonMatch$Tube", "kind", "I") ∈ nestL := by decide
theorem inX6_kinds_X5 : ∀ w ∈ wsX50, w ∈ wsX6_kinds := fun _ h => List.mem_cons_of_mem _ (List.mem_append_left _ (List.mem_append_right _ h))
theorem lkX6_kinds_27 : Cond.fieldLink RX6 27 "ButtonMatch" "readings" "LButtonMatch$Readings;" ∈ wsX6_kinds := by decide +kernel
theorem inX6_kinds_X6 : ∀ w ∈ wsX60, w ∈ wsX6_kinds := fun _ h => List.mem_cons_of_mem _ (List.mem_append_left _ (List.mem_append_left _ (List.mem_append_left _ (List.mem_append_right _ h))))
theorem lkX6_kinds_20 : Cond.fieldLink RX6 20 "ButtonMatch" "shop" "LButtonMatch$Shop;" ∈ wsX6_kinds := by decide +kernel
theorem inX6_kinds_X2 : ∀ w ∈ wsX20, w ∈ wsX6_kinds := fun _ h => List.mem_cons_of_mem _ (List.mem_append_left _ (List.mem_append_left _ (List.mem_append_right _ h)))
def fX6_kinds_34 (k2 : Nat) (x3 : Int32) : Nat → Int32 → Int32 → Sg → Option (Int32 × Sg)
  | 0, _, _, _ => none
  | n + 1, x4, x5, σ => (if 3 ≤ x5 then some (x4, (up2 σ (13 + k2) 0 x3)) else ((fX0_fit (up2 σ (13 + k2) 0 x5)).bind fun r3 => (if r3 = 0 then fX6_kinds_34 k2 x3 n (x4 ||| 0) (x5 + 1) (up2 σ (13 + k2) 0 x5) else fX6_kinds_34 k2 x3 n (x4 ||| (1 <<< (x5 &&& 31))) (x5 + 1) (up2 σ (13 + k2) 0 x5))))
set_option maxHeartbeats 4000000 in
set_option maxRecDepth 100000 in
theorem jX6_kinds_34 {p : Program} {l : Launch} {e : Env} {s : State} {m : MethodId} {args : Array Value} {below : List Frame} {meth : Method} {c : Code} {D : va_G} {κ : Kp} {ad : Nat → Nat} {A : Nat → Prop} {r : Int32} {τ : Sg} (C : Mc p s m args meth c cX6_kinds 6 (some .int) wsX6_kinds RX6 D κ A) (k2 : Nat) (hk2 : k2 < 6) (x3 : Int32) : ∀ (n : Nat) (x4 : Int32) (x5 : Int32) (σ : Sg) (H : Heap) (locs : List Loc) (ls : Array Slot), Wd D (wsX κ ad) A s.heap H locs σ → lv_has ls 6 [(0, .ref (ad 0)), (2, .ref (ad (13 + k2))), (3, .int x3), (4, .int x4), (5, .int x5)] → fX6_kinds_34 k2 x3 n x4 x5 σ = some (r, τ) → W p l e { frames := 6, cells := 0, slots := 0, locals := 131 } s m args below meth c H locs 0 0 (Qi below args s D (wsX κ ad) A r τ) (F0 m 34 ls []) := by
  obtain ⟨hx, hb, hml, hr, hlk, hown, hts, hK, hA, hZ⟩ := id C
  intro n
  induction n with
  | zero =>
    intro x4 x5 σ H locs ls h hl hf
    rw [fX6_kinds_34] at hf
    cases hf
  | succ n ih =>
    intro x4 x5 σ H locs ls h hl hf
    rw [fX6_kinds_34] at hf
    refine lv_iload hx hb dX6_kinds_34 (lv_at hl 4 rfl) ?_
    refine lv_iconst (v := 3) hx hb dX6_kinds_36 (by decide) ?_
    refine lv_icmp_ge (tgt := 79) hx hb dX6_kinds_37 (by decide) (fun c1 => ?_) (fun c1 => ?_)
    · have hf := tk_t c1 hf
      refine lv_aload_n hx hb dX6_kinds_79 rfl (lv_at hl 1 rfl) ?_
      refine lv_iload_n hx hb dX6_kinds_80 rfl (lv_at hl 2 rfl) ?_
      refine x_putN C h (gX_Tu κ ad σ hk2) rfl inX6_kinds_X5 tyX5 tyX5_ok nmX5 0 (by decide) ((hZ.2.2.2.2.2.2.2.1 _ nkRX6_165).use rfl) rfl (tyX5_ok 0 (by decide)) (Nat.le_of_ble_eq_true rfl) (sX_Tu_0 κ ad σ x3 hk2) dX6_kinds_81 (fun H locs h => ?_)
      refine lv_iload hx hb dX6_kinds_84 (lv_at hl 3 rfl) ?_
      obtain ⟨rfl, rfl⟩ := pr_ok hf
      exact x_iret C h dX6_kinds_86
    · have hf := tk_f c1 hf
      refine lv_aload_n hx hb dX6_kinds_40 rfl (lv_at hl 1 rfl) ?_
      refine lv_iload hx hb dX6_kinds_41 (lv_at hl 4 rfl) ?_
      refine x_putN C h (gX_Tu κ ad σ hk2) rfl inX6_kinds_X5 tyX5 tyX5_ok nmX5 0 (by decide) ((hZ.2.2.2.2.2.2.2.1 _ nkRX6_165).use rfl) rfl (tyX5_ok 0 (by decide)) (Nat.le_of_ble_eq_true rfl) (sX_Tu_0 κ ad σ x5 hk2) dX6_kinds_43 (fun H locs h => ?_)
      refine lv_iload hx hb dX6_kinds_46 (lv_at hl 3 rfl) ?_
      refine lv_aload_n hx hb dX6_kinds_48 rfl (lv_at hl 0 rfl) ?_
      refine x_get (v := .ref (ad 19)) C h (gX_BM κ ad (up2 σ (13 + k2) 0 x5)) rfl inX6_kinds_X6 2 (by decide) (hts _ lkX6_kinds_27) rfl dX6_kinds_49 ?_
      refine lv_aload_n hx hb dX6_kinds_52 rfl (lv_at hl 0 rfl) ?_
      refine x_get (v := .ref (ad 10)) C h (gX_BM κ ad (up2 σ (13 + k2) 0 x5)) rfl inX6_kinds_X6 1 (by decide) (hts _ lkX6_kinds_20) rfl dX6_kinds_53 ?_
      obtain ⟨r3, hg2, hf⟩ := bd_ok hf
      refine x_vi (As := [.ref (ad 10)]) (rest := [.int x4]) C h (gX_Rd κ ad (up2 σ (13 + k2) 0 x5)) rfl (kX0_fit l D κ ad (up2 σ (13 + k2) 0 x5) (r := r3) hg2) (fun hts => cwV 1 hts gX6_kinds_X0_fit rfl rfl rfl (by decide +kernel) ⟨Nat.le_of_ble_eq_true rfl, Nat.le_of_ble_eq_true rfl⟩) rfl hl.1 (Nat.le_of_ble_eq_true rfl) rfl dX6_kinds_56 (fun H locs h => ?_)
      refine lv_if_eq (tgt := 69) hx hb dX6_kinds_59 (by decide) (fun c4 => ?_) (fun c4 => ?_)
      · have hf := tk_t c4 hf
        refine lv_iconst (v := 0) hx hb dX6_kinds_69 (by decide) ?_
        refine lv_ior hx hb dX6_kinds_70 ?_
        refine lv_istore (lv' := [(4, .int (x4 ||| 0)), (0, .ref (ad 0)), (2, .ref (ad (13 + k2))), (3, .int x3), (5, .int x5)]) hx hb dX6_kinds_71 hl (by decide) rfl (fun ls hl => ?_)
        refine lv_iinc (v := (x5 + 1)) (lv' := [(5, .int (x5 + 1)), (4, .int (x4 ||| 0)), (0, .ref (ad 0)), (2, .ref (ad (13 + k2))), (3, .int x3)]) hx hb dX6_kinds_73 hl (k := 4) rfl rfl (by decide) rfl (fun ls hl => ?_)
        refine lv_goto (tgt := 34) hx hb dX6_kinds_76 (by decide) ?_
        exact ih (x4 ||| 0) (x5 + 1) (up2 σ (13 + k2) 0 x5) _ _ _ h (lv_sub hl [2, 3, 4, 1, 0] rfl) hf
      · have hf := tk_f c4 hf
        refine lv_iconst (v := 1) hx hb dX6_kinds_62 (by decide) ?_
        refine lv_iload hx hb dX6_kinds_63 (lv_at hl 4 rfl) ?_
        refine lv_ishl hx hb dX6_kinds_65 ?_
        refine lv_goto (tgt := 70) hx hb dX6_kinds_66 (by decide) ?_
        refine lv_ior hx hb dX6_kinds_70 ?_
        refine lv_istore (lv' := [(4, .int (x4 ||| (1 <<< (x5 &&& 31)))), (0, .ref (ad 0)), (2, .ref (ad (13 + k2))), (3, .int x3), (5, .int x5)]) hx hb dX6_kinds_71 hl (by decide) rfl (fun ls hl => ?_)
        refine lv_iinc (v := (x5 + 1)) (lv' := [(5, .int (x5 + 1)), (4, .int (x4 ||| (1 <<< (x5 &&& 31)))), (0, .ref (ad 0)), (2, .ref (ad (13 + k2))), (3, .int x3)]) hx hb dX6_kinds_73 hl (k := 4) rfl rfl (by decide) rfl (fun ls hl => ?_)
        refine lv_goto (tgt := 34) hx hb dX6_kinds_76 (by decide) ?_
        exact ih (x4 ||| (1 <<< (x5 &&& 31))) (x5 + 1) (up2 σ (13 + k2) 0 x5) _ _ _ h (lv_sub hl [2, 3, 4, 1, 0] rfl) hf
def fX6_kinds (x1 : Int32) (σ : Sg) : Option (Int32 × Sg) :=
  (if (fX2_hasTube x1 σ) = 0 then some ((-1), σ) else (if gIn x1 6 then fX6_kinds_34 x1.toNatClampNeg (σ (13 + x1.toNatClampNeg) 0) 1000 0 0 σ else none))
set_option maxHeartbeats 4000000 in
set_option maxRecDepth 100000 in
theorem kX6_kinds (l : Launch) (D : va_G) (κ : Kp) (ad : Nat → Nat) (x1 : Int32) (σ : Sg) {r : Int32} {τ : Sg} (hf : fX6_kinds x1 σ = some (r, τ)) : Ci l D κ (wsX κ ad) yX6_kinds wsX6_kinds 6 131 [.ref (ad 0), .int x1] σ r τ := by
  refine Ci.of (cc := cX6_kinds) (nL := 6) (ret := (some .int)) (by decide) rfl (Nat.le_of_ble_eq_true rfl) ?_
  intro p e s m below meth c A ls C h hl
  obtain ⟨hx, hb, hml, hr, hlk, hown, hts, hK, hA, hZ⟩ := id C
  have hl : lv_has ls 6 [(0, .ref (ad 0)), (1, .int x1)] := hl
  unfold fX6_kinds at hf
  refine lv_aload_n hx hb dX6_kinds_0 rfl (lv_at hl 0 rfl) ?_
  refine x_get (v := .ref (ad 10)) C h (gX_BM κ ad σ) rfl inX6_kinds_X6 1 (by decide) (hts _ lkX6_kinds_20) rfl dX6_kinds_1 ?_
  refine lv_iload_n hx hb dX6_kinds_4 rfl (lv_at hl 1 rfl) ?_
  refine x_vi (As := [.int x1]) (rest := []) C h (gX_Sp κ ad σ) rfl (kX2_hasTube l D κ ad x1 σ (r := (fX2_hasTube x1 σ)) rfl) (fun hts => cwV 1 hts gX6_kinds_X2_hasTube rfl rfl rfl (by decide +kernel) ⟨Nat.le_of_ble_eq_true rfl, Nat.le_of_ble_eq_true rfl⟩) rfl hl.1 (Nat.le_of_ble_eq_true rfl) rfl dX6_kinds_5 (fun H locs h => ?_)
  refine lv_if_ne (tgt := 13) hx hb dX6_kinds_8 (by decide) (fun c5 => ?_) (fun c5 => ?_)
  · have hf := tk_f c5 hf
    refine lv_aload_n hx hb dX6_kinds_13 rfl (lv_at hl 0 rfl) ?_
    refine x_get (v := .ref (ad 10)) C h (gX_BM κ ad σ) rfl inX6_kinds_X6 1 (by decide) (hts _ lkX6_kinds_20) rfl dX6_kinds_14 ?_
    refine x_getN (v := .ref (ad 11)) C h (gX_Sp κ ad σ) rfl inX6_kinds_X2 0 (by decide) ((hZ.2.2.2.2.2.2.2.1 _ nkRX6_78).use rfl) rfl dX6_kinds_17 ?_
    refine lv_iload_n hx hb dX6_kinds_20 rfl (lv_at hl 1 rfl) ?_
    obtain ⟨g6, hf⟩ := gd_ok hf
    have b7 : x1.toNatClampNeg < 6 := vp_lt g6
    refine x_aald (t0 := 3) (cn := "ButtonMatch$Tube") (b := ad (13 + x1.toNatClampNeg)) C h (gX_arT κ ad σ) rfl g6 rfl dX6_kinds_21 ?_
    refine lv_astore_n (lv' := [(2, .ref (ad (13 + x1.toNatClampNeg))), (0, .ref (ad 0)), (1, .int x1)]) hx hb dX6_kinds_22 rfl hl (by decide) rfl (fun ls hl => ?_)
    refine lv_aload_n hx hb dX6_kinds_23 rfl (lv_at hl 0 rfl) ?_
    refine x_getN (v := .int (σ (13 + x1.toNatClampNeg) 0)) C h (gX_Tu κ ad σ b7) rfl inX6_kinds_X5 0 (by decide) ((hZ.2.2.2.2.2.2.2.1 _ nkRX6_165).use rfl) rfl dX6_kinds_24 ?_
    refine lv_istore_n (lv' := [(3, .int (σ (13 + x1.toNatClampNeg) 0)), (2, .ref (ad (13 + x1.toNatClampNeg))), (0, .ref (ad 0)), (1, .int x1)]) hx hb dX6_kinds_27 rfl hl (by decide) rfl (fun ls hl => ?_)
    refine lv_iconst (v := 0) hx hb dX6_kinds_28 (by decide) ?_
    refine lv_istore (lv' := [(4, .int 0), (3, .int (σ (13 + x1.toNatClampNeg) 0)), (2, .ref (ad (13 + x1.toNatClampNeg))), (0, .ref (ad 0)), (1, .int x1)]) hx hb dX6_kinds_29 hl (by decide) rfl (fun ls hl => ?_)
    refine lv_iconst (v := 0) hx hb dX6_kinds_31 (by decide) ?_
    refine lv_istore (lv' := [(5, .int 0), (4, .int 0), (3, .int (σ (13 + x1.toNatClampNeg) 0)), (2, .ref (ad (13 + x1.toNatClampNeg))), (0, .ref (ad 0)), (1, .int x1)]) hx hb dX6_kinds_32 hl (by decide) rfl (fun ls hl => ?_)
    exact jX6_kinds_34 C x1.toNatClampNeg b7 (σ (13 + x1.toNatClampNeg) 0) 1000 0 0 σ _ _ _ h (lv_sub hl [4, 3, 2, 1, 0] rfl) hf
  · have hf := tk_t c5 hf
    refine lv_iconst (v := (-1)) hx hb dX6_kinds_11 (by decide) ?_
    obtain ⟨rfl, rfl⟩ := pr_ok hf
    exact x_iret C h dX6_kinds_12

-- ===== X6_colours: ButtonMatch.colours(I)I
theorem nkRX6_168 : ("ButtonMatch", 168, "ButtonMatch$Tube", "colour", "I") ∈ nestL := by decide
theorem inX6_colours_X5 : ∀ w ∈ wsX50, w ∈ wsX6_colours := fun _ h => List.mem_cons_of_mem _ (List.mem_append_left _ (List.mem_append_right _ h))
theorem lkX6_colours_27 : Cond.fieldLink RX6 27 "ButtonMatch" "readings" "LButtonMatch$Readings;" ∈ wsX6_colours := by decide +kernel
theorem inX6_colours_X6 : ∀ w ∈ wsX60, w ∈ wsX6_colours := fun _ h => List.mem_cons_of_mem _ (List.mem_append_left _ (List.mem_append_left _ (List.mem_append_left _ (List.mem_append_right _ h))))
theorem lkX6_colours_20 : Cond.fieldLink RX6 20 "ButtonMatch" "shop" "LButtonMatch$Shop;" ∈ wsX6_colours := by decide +kernel
theorem inX6_colours_X2 : ∀ w ∈ wsX20, w ∈ wsX6_colours := fun _ h => List.mem_cons_of_mem _ (List.mem_append_left _ (List.mem_append_left _ (List.mem_append_right _ h)))
def fX6_colours_34 (k2 : Nat) (x3 : Int32) : Nat → Int32 → Int32 → Sg → Option (Int32 × Sg)
  | 0, _, _, _ => none
  | n + 1, x4, x5, σ => (if 7 < x5 then some (x4, (up2 σ (13 + k2) 1 x3)) else ((fX0_fit (up2 σ (13 + k2) 1 x5)).bind fun r3 => (if r3 = 0 then fX6_colours_34 k2 x3 n (x4 ||| 0) (x5 + 1) (up2 σ (13 + k2) 1 x5) else fX6_colours_34 k2 x3 n (x4 ||| (1 <<< (x5 &&& 31))) (x5 + 1) (up2 σ (13 + k2) 1 x5))))
set_option maxHeartbeats 4000000 in
set_option maxRecDepth 100000 in
theorem jX6_colours_34 {p : Program} {l : Launch} {e : Env} {s : State} {m : MethodId} {args : Array Value} {below : List Frame} {meth : Method} {c : Code} {D : va_G} {κ : Kp} {ad : Nat → Nat} {A : Nat → Prop} {r : Int32} {τ : Sg} (C : Mc p s m args meth c cX6_colours 6 (some .int) wsX6_colours RX6 D κ A) (k2 : Nat) (hk2 : k2 < 6) (x3 : Int32) : ∀ (n : Nat) (x4 : Int32) (x5 : Int32) (σ : Sg) (H : Heap) (locs : List Loc) (ls : Array Slot), Wd D (wsX κ ad) A s.heap H locs σ → lv_has ls 6 [(0, .ref (ad 0)), (2, .ref (ad (13 + k2))), (3, .int x3), (4, .int x4), (5, .int x5)] → fX6_colours_34 k2 x3 n x4 x5 σ = some (r, τ) → W p l e { frames := 6, cells := 0, slots := 0, locals := 131 } s m args below meth c H locs 0 0 (Qi below args s D (wsX κ ad) A r τ) (F0 m 34 ls []) := by
  obtain ⟨hx, hb, hml, hr, hlk, hown, hts, hK, hA, hZ⟩ := id C
  intro n
  induction n with
  | zero =>
    intro x4 x5 σ H locs ls h hl hf
    rw [fX6_colours_34] at hf
    cases hf
  | succ n ih =>
    intro x4 x5 σ H locs ls h hl hf
    rw [fX6_colours_34] at hf
    refine lv_iload hx hb dX6_colours_34 (lv_at hl 4 rfl) ?_
    refine lv_bipush (v := 7) hx hb dX6_colours_36 (by decide) ?_
    refine lv_icmp_gt (tgt := 80) hx hb dX6_colours_38 (by decide) (fun c1 => ?_) (fun c1 => ?_)
    · have hf := tk_t c1 hf
      refine lv_aload_n hx hb dX6_colours_80 rfl (lv_at hl 1 rfl) ?_
      refine lv_iload_n hx hb dX6_colours_81 rfl (lv_at hl 2 rfl) ?_
      refine x_putN C h (gX_Tu κ ad σ hk2) rfl inX6_colours_X5 tyX5 tyX5_ok nmX5 1 (by decide) ((hZ.2.2.2.2.2.2.2.1 _ nkRX6_168).use rfl) rfl (tyX5_ok 1 (by decide)) (Nat.le_of_ble_eq_true rfl) (sX_Tu_1 κ ad σ x3 hk2) dX6_colours_82 (fun H locs h => ?_)
      refine lv_iload hx hb dX6_colours_85 (lv_at hl 3 rfl) ?_
      obtain ⟨rfl, rfl⟩ := pr_ok hf
      exact x_iret C h dX6_colours_87
    · have hf := tk_f c1 hf
      refine lv_aload_n hx hb dX6_colours_41 rfl (lv_at hl 1 rfl) ?_
      refine lv_iload hx hb dX6_colours_42 (lv_at hl 4 rfl) ?_
      refine x_putN C h (gX_Tu κ ad σ hk2) rfl inX6_colours_X5 tyX5 tyX5_ok nmX5 1 (by decide) ((hZ.2.2.2.2.2.2.2.1 _ nkRX6_168).use rfl) rfl (tyX5_ok 1 (by decide)) (Nat.le_of_ble_eq_true rfl) (sX_Tu_1 κ ad σ x5 hk2) dX6_colours_44 (fun H locs h => ?_)
      refine lv_iload hx hb dX6_colours_47 (lv_at hl 3 rfl) ?_
      refine lv_aload_n hx hb dX6_colours_49 rfl (lv_at hl 0 rfl) ?_
      refine x_get (v := .ref (ad 19)) C h (gX_BM κ ad (up2 σ (13 + k2) 1 x5)) rfl inX6_colours_X6 2 (by decide) (hts _ lkX6_colours_27) rfl dX6_colours_50 ?_
      refine lv_aload_n hx hb dX6_colours_53 rfl (lv_at hl 0 rfl) ?_
      refine x_get (v := .ref (ad 10)) C h (gX_BM κ ad (up2 σ (13 + k2) 1 x5)) rfl inX6_colours_X6 1 (by decide) (hts _ lkX6_colours_20) rfl dX6_colours_54 ?_
      obtain ⟨r3, hg2, hf⟩ := bd_ok hf
      refine x_vi (As := [.ref (ad 10)]) (rest := [.int x4]) C h (gX_Rd κ ad (up2 σ (13 + k2) 1 x5)) rfl (kX0_fit l D κ ad (up2 σ (13 + k2) 1 x5) (r := r3) hg2) (fun hts => cwV 1 hts gX6_colours_X0_fit rfl rfl rfl (by decide +kernel) ⟨Nat.le_of_ble_eq_true rfl, Nat.le_of_ble_eq_true rfl⟩) rfl hl.1 (Nat.le_of_ble_eq_true rfl) rfl dX6_colours_57 (fun H locs h => ?_)
      refine lv_if_eq (tgt := 70) hx hb dX6_colours_60 (by decide) (fun c4 => ?_) (fun c4 => ?_)
      · have hf := tk_t c4 hf
        refine lv_iconst (v := 0) hx hb dX6_colours_70 (by decide) ?_
        refine lv_ior hx hb dX6_colours_71 ?_
        refine lv_istore (lv' := [(4, .int (x4 ||| 0)), (0, .ref (ad 0)), (2, .ref (ad (13 + k2))), (3, .int x3), (5, .int x5)]) hx hb dX6_colours_72 hl (by decide) rfl (fun ls hl => ?_)
        refine lv_iinc (v := (x5 + 1)) (lv' := [(5, .int (x5 + 1)), (4, .int (x4 ||| 0)), (0, .ref (ad 0)), (2, .ref (ad (13 + k2))), (3, .int x3)]) hx hb dX6_colours_74 hl (k := 4) rfl rfl (by decide) rfl (fun ls hl => ?_)
        refine lv_goto (tgt := 34) hx hb dX6_colours_77 (by decide) ?_
        exact ih (x4 ||| 0) (x5 + 1) (up2 σ (13 + k2) 1 x5) _ _ _ h (lv_sub hl [2, 3, 4, 1, 0] rfl) hf
      · have hf := tk_f c4 hf
        refine lv_iconst (v := 1) hx hb dX6_colours_63 (by decide) ?_
        refine lv_iload hx hb dX6_colours_64 (lv_at hl 4 rfl) ?_
        refine lv_ishl hx hb dX6_colours_66 ?_
        refine lv_goto (tgt := 71) hx hb dX6_colours_67 (by decide) ?_
        refine lv_ior hx hb dX6_colours_71 ?_
        refine lv_istore (lv' := [(4, .int (x4 ||| (1 <<< (x5 &&& 31)))), (0, .ref (ad 0)), (2, .ref (ad (13 + k2))), (3, .int x3), (5, .int x5)]) hx hb dX6_colours_72 hl (by decide) rfl (fun ls hl => ?_)
        refine lv_iinc (v := (x5 + 1)) (lv' := [(5, .int (x5 + 1)), (4, .int (x4 ||| (1 <<< (x5 &&& 31)))), (0, .ref (ad 0)), (2, .ref (ad (13 + k2))), (3, .int x3)]) hx hb dX6_colours_74 hl (k := 4) rfl rfl (by decide) rfl (fun ls hl => ?_)
        refine lv_goto (tgt := 34) hx hb dX6_colours_77 (by decide) ?_
        exact ih (x4 ||| (1 <<< (x5 &&& 31))) (x5 + 1) (up2 σ (13 + k2) 1 x5) _ _ _ h (lv_sub hl [2, 3, 4, 1, 0] rfl) hf
def fX6_colours (x1 : Int32) (σ : Sg) : Option (Int32 × Sg) :=
  (if (fX2_hasTube x1 σ) = 0 then some ((-1), σ) else (if gIn x1 6 then fX6_colours_34 x1.toNatClampNeg (σ (13 + x1.toNatClampNeg) 1) 1000 0 0 σ else none))
set_option maxHeartbeats 4000000 in
set_option maxRecDepth 100000 in
theorem kX6_colours (l : Launch) (D : va_G) (κ : Kp) (ad : Nat → Nat) (x1 : Int32) (σ : Sg) {r : Int32} {τ : Sg} (hf : fX6_colours x1 σ = some (r, τ)) : Ci l D κ (wsX κ ad) yX6_colours wsX6_colours 6 131 [.ref (ad 0), .int x1] σ r τ := by
  refine Ci.of (cc := cX6_colours) (nL := 6) (ret := (some .int)) (by decide) rfl (Nat.le_of_ble_eq_true rfl) ?_
  intro p e s m below meth c A ls C h hl
  obtain ⟨hx, hb, hml, hr, hlk, hown, hts, hK, hA, hZ⟩ := id C
  have hl : lv_has ls 6 [(0, .ref (ad 0)), (1, .int x1)] := hl
  unfold fX6_colours at hf
  refine lv_aload_n hx hb dX6_colours_0 rfl (lv_at hl 0 rfl) ?_
  refine x_get (v := .ref (ad 10)) C h (gX_BM κ ad σ) rfl inX6_colours_X6 1 (by decide) (hts _ lkX6_colours_20) rfl dX6_colours_1 ?_
  refine lv_iload_n hx hb dX6_colours_4 rfl (lv_at hl 1 rfl) ?_
  refine x_vi (As := [.int x1]) (rest := []) C h (gX_Sp κ ad σ) rfl (kX2_hasTube l D κ ad x1 σ (r := (fX2_hasTube x1 σ)) rfl) (fun hts => cwV 1 hts gX6_colours_X2_hasTube rfl rfl rfl (by decide +kernel) ⟨Nat.le_of_ble_eq_true rfl, Nat.le_of_ble_eq_true rfl⟩) rfl hl.1 (Nat.le_of_ble_eq_true rfl) rfl dX6_colours_5 (fun H locs h => ?_)
  refine lv_if_ne (tgt := 13) hx hb dX6_colours_8 (by decide) (fun c5 => ?_) (fun c5 => ?_)
  · have hf := tk_f c5 hf
    refine lv_aload_n hx hb dX6_colours_13 rfl (lv_at hl 0 rfl) ?_
    refine x_get (v := .ref (ad 10)) C h (gX_BM κ ad σ) rfl inX6_colours_X6 1 (by decide) (hts _ lkX6_colours_20) rfl dX6_colours_14 ?_
    refine x_getN (v := .ref (ad 11)) C h (gX_Sp κ ad σ) rfl inX6_colours_X2 0 (by decide) ((hZ.2.2.2.2.2.2.2.1 _ nkRX6_78).use rfl) rfl dX6_colours_17 ?_
    refine lv_iload_n hx hb dX6_colours_20 rfl (lv_at hl 1 rfl) ?_
    obtain ⟨g6, hf⟩ := gd_ok hf
    have b7 : x1.toNatClampNeg < 6 := vp_lt g6
    refine x_aald (t0 := 3) (cn := "ButtonMatch$Tube") (b := ad (13 + x1.toNatClampNeg)) C h (gX_arT κ ad σ) rfl g6 rfl dX6_colours_21 ?_
    refine lv_astore_n (lv' := [(2, .ref (ad (13 + x1.toNatClampNeg))), (0, .ref (ad 0)), (1, .int x1)]) hx hb dX6_colours_22 rfl hl (by decide) rfl (fun ls hl => ?_)
    refine lv_aload_n hx hb dX6_colours_23 rfl (lv_at hl 0 rfl) ?_
    refine x_getN (v := .int (σ (13 + x1.toNatClampNeg) 1)) C h (gX_Tu κ ad σ b7) rfl inX6_colours_X5 1 (by decide) ((hZ.2.2.2.2.2.2.2.1 _ nkRX6_168).use rfl) rfl dX6_colours_24 ?_
    refine lv_istore_n (lv' := [(3, .int (σ (13 + x1.toNatClampNeg) 1)), (2, .ref (ad (13 + x1.toNatClampNeg))), (0, .ref (ad 0)), (1, .int x1)]) hx hb dX6_colours_27 rfl hl (by decide) rfl (fun ls hl => ?_)
    refine lv_iconst (v := 0) hx hb dX6_colours_28 (by decide) ?_
    refine lv_istore (lv' := [(4, .int 0), (3, .int (σ (13 + x1.toNatClampNeg) 1)), (2, .ref (ad (13 + x1.toNatClampNeg))), (0, .ref (ad 0)), (1, .int x1)]) hx hb dX6_colours_29 hl (by decide) rfl (fun ls hl => ?_)
    refine lv_iconst (v := 0) hx hb dX6_colours_31 (by decide) ?_
    refine lv_istore (lv' := [(5, .int 0), (4, .int 0), (3, .int (σ (13 + x1.toNatClampNeg) 1)), (2, .ref (ad (13 + x1.toNatClampNeg))), (0, .ref (ad 0)), (1, .int x1)]) hx hb dX6_colours_32 hl (by decide) rfl (fun ls hl => ?_)
    exact jX6_colours_34 C x1.toNatClampNeg b7 (σ (13 + x1.toNatClampNeg) 1) 1000 0 0 σ _ _ _ h (lv_sub hl [4, 3, 2, 1, 0] rfl) hf
  · have hf := tk_t c5 hf
    refine lv_iconst (v := (-1)) hx hb dX6_colours_11 (by decide) ?_
    obtain ⟨rfl, rfl⟩ := pr_ok hf
    exact x_iret C h dX6_colours_12

-- ===== X6_nears: ButtonMatch.nears()I
theorem lkX6_nears_20 : Cond.fieldLink RX6 20 "ButtonMatch" "shop" "LButtonMatch$Shop;" ∈ wsX6_nears := by decide +kernel
theorem inX6_nears_X6 : ∀ w ∈ wsX60, w ∈ wsX6_nears := fun _ h => List.mem_cons_of_mem _ (List.mem_append_left _ (List.mem_append_left _ (List.mem_append_left _ (List.mem_append_right _ h))))
theorem inX6_nears_X2 : ∀ w ∈ wsX20, w ∈ wsX6_nears := fun _ h => List.mem_cons_of_mem _ (List.mem_append_left _ (List.mem_append_left _ (List.mem_append_right _ h)))
theorem lkX6_nears_27 : Cond.fieldLink RX6 27 "ButtonMatch" "readings" "LButtonMatch$Readings;" ∈ wsX6_nears := by decide +kernel
def fX6_nears_25 (x1 : Int32) : Nat → Int32 → Int32 → Sg → Option (Int32 × Sg)
  | 0, _, _, _ => none
  | n + 1, x2, x3, σ => (if 20 < x3 then some (x2, (up2 σ 10 9 x1)) else ((fX0_fit (up2 σ 10 9 x3)).bind fun r3 => (if r3 = 0 then fX6_nears_25 x1 n (x2 ||| 0) (x3 + 1) (up2 σ 10 9 x3) else fX6_nears_25 x1 n (x2 ||| (1 <<< (x3 &&& 31))) (x3 + 1) (up2 σ 10 9 x3))))
set_option maxHeartbeats 4000000 in
set_option maxRecDepth 100000 in
theorem jX6_nears_25 {p : Program} {l : Launch} {e : Env} {s : State} {m : MethodId} {args : Array Value} {below : List Frame} {meth : Method} {c : Code} {D : va_G} {κ : Kp} {ad : Nat → Nat} {A : Nat → Prop} {r : Int32} {τ : Sg} (C : Mc p s m args meth c cX6_nears 4 (some .int) wsX6_nears RX6 D κ A) (x1 : Int32) : ∀ (n : Nat) (x2 : Int32) (x3 : Int32) (σ : Sg) (H : Heap) (locs : List Loc) (ls : Array Slot), Wd D (wsX κ ad) A s.heap H locs σ → lv_has ls 4 [(0, .ref (ad 0)), (1, .int x1), (2, .int x2), (3, .int x3)] → fX6_nears_25 x1 n x2 x3 σ = some (r, τ) → W p l e { frames := 6, cells := 0, slots := 0, locals := 131 } s m args below meth c H locs 0 0 (Qi below args s D (wsX κ ad) A r τ) (F0 m 25 ls []) := by
  obtain ⟨hx, hb, hml, hr, hlk, hown, hts, hK, hA, hZ⟩ := id C
  intro n
  induction n with
  | zero =>
    intro x2 x3 σ H locs ls h hl hf
    rw [fX6_nears_25] at hf
    cases hf
  | succ n ih =>
    intro x2 x3 σ H locs ls h hl hf
    rw [fX6_nears_25] at hf
    refine lv_iload_n hx hb dX6_nears_25 rfl (lv_at hl 3 rfl) ?_
    refine lv_bipush (v := 20) hx hb dX6_nears_26 (by decide) ?_
    refine lv_icmp_gt (tgt := 69) hx hb dX6_nears_28 (by decide) (fun c1 => ?_) (fun c1 => ?_)
    · have hf := tk_t c1 hf
      refine lv_aload_n hx hb dX6_nears_69 rfl (lv_at hl 0 rfl) ?_
      refine x_get (v := .ref (ad 10)) C h (gX_BM κ ad σ) rfl inX6_nears_X6 1 (by decide) (hts _ lkX6_nears_20) rfl dX6_nears_70 ?_
      refine lv_iload_n hx hb dX6_nears_73 rfl (lv_at hl 1 rfl) ?_
      refine x_putN C h (gX_Sp κ ad σ) rfl inX6_nears_X2 tyX2 tyX2_ok nmX2 9 (by decide) ((hZ.2.2.2.2.2.2.2.1 _ nkRX6_97).use rfl) rfl (tyX2_ok 9 (by decide)) (Nat.le_of_ble_eq_true rfl) (sX_Sp_9 κ ad σ x1) dX6_nears_74 (fun H locs h => ?_)
      refine lv_iload_n hx hb dX6_nears_77 rfl (lv_at hl 2 rfl) ?_
      obtain ⟨rfl, rfl⟩ := pr_ok hf
      exact x_iret C h dX6_nears_78
    · have hf := tk_f c1 hf
      refine lv_aload_n hx hb dX6_nears_31 rfl (lv_at hl 0 rfl) ?_
      refine x_get (v := .ref (ad 10)) C h (gX_BM κ ad σ) rfl inX6_nears_X6 1 (by decide) (hts _ lkX6_nears_20) rfl dX6_nears_32 ?_
      refine lv_iload_n hx hb dX6_nears_35 rfl (lv_at hl 3 rfl) ?_
      refine x_putN C h (gX_Sp κ ad σ) rfl inX6_nears_X2 tyX2 tyX2_ok nmX2 9 (by decide) ((hZ.2.2.2.2.2.2.2.1 _ nkRX6_97).use rfl) rfl (tyX2_ok 9 (by decide)) (Nat.le_of_ble_eq_true rfl) (sX_Sp_9 κ ad σ x3) dX6_nears_36 (fun H locs h => ?_)
      refine lv_iload_n hx hb dX6_nears_39 rfl (lv_at hl 2 rfl) ?_
      refine lv_aload_n hx hb dX6_nears_40 rfl (lv_at hl 0 rfl) ?_
      refine x_get (v := .ref (ad 19)) C h (gX_BM κ ad (up2 σ 10 9 x3)) rfl inX6_nears_X6 2 (by decide) (hts _ lkX6_nears_27) rfl dX6_nears_41 ?_
      refine lv_aload_n hx hb dX6_nears_44 rfl (lv_at hl 0 rfl) ?_
      refine x_get (v := .ref (ad 10)) C h (gX_BM κ ad (up2 σ 10 9 x3)) rfl inX6_nears_X6 1 (by decide) (hts _ lkX6_nears_20) rfl dX6_nears_45 ?_
      obtain ⟨r3, hg2, hf⟩ := bd_ok hf
      refine x_vi (As := [.ref (ad 10)]) (rest := [.int x2]) C h (gX_Rd κ ad (up2 σ 10 9 x3)) rfl (kX0_fit l D κ ad (up2 σ 10 9 x3) (r := r3) hg2) (fun hts => cwV 1 hts gX6_nears_X0_fit rfl rfl rfl (by decide +kernel) ⟨Nat.le_of_ble_eq_true rfl, Nat.le_of_ble_eq_true rfl⟩) rfl hl.1 (Nat.le_of_ble_eq_true rfl) rfl dX6_nears_48 (fun H locs h => ?_)
      refine lv_if_eq (tgt := 60) hx hb dX6_nears_51 (by decide) (fun c4 => ?_) (fun c4 => ?_)
      · have hf := tk_t c4 hf
        refine lv_iconst (v := 0) hx hb dX6_nears_60 (by decide) ?_
        refine lv_ior hx hb dX6_nears_61 ?_
        refine lv_istore_n (lv' := [(2, .int (x2 ||| 0)), (0, .ref (ad 0)), (1, .int x1), (3, .int x3)]) hx hb dX6_nears_62 rfl hl (by decide) rfl (fun ls hl => ?_)
        refine lv_iinc (v := (x3 + 1)) (lv' := [(3, .int (x3 + 1)), (2, .int (x2 ||| 0)), (0, .ref (ad 0)), (1, .int x1)]) hx hb dX6_nears_63 hl (k := 3) rfl rfl (by decide) rfl (fun ls hl => ?_)
        refine lv_goto (tgt := 25) hx hb dX6_nears_66 (by decide) ?_
        exact ih (x2 ||| 0) (x3 + 1) (up2 σ 10 9 x3) _ _ _ h (lv_sub hl [2, 3, 1, 0] rfl) hf
      · have hf := tk_f c4 hf
        refine lv_iconst (v := 1) hx hb dX6_nears_54 (by decide) ?_
        refine lv_iload_n hx hb dX6_nears_55 rfl (lv_at hl 3 rfl) ?_
        refine lv_ishl hx hb dX6_nears_56 ?_
        refine lv_goto (tgt := 61) hx hb dX6_nears_57 (by decide) ?_
        refine lv_ior hx hb dX6_nears_61 ?_
        refine lv_istore_n (lv' := [(2, .int (x2 ||| (1 <<< (x3 &&& 31)))), (0, .ref (ad 0)), (1, .int x1), (3, .int x3)]) hx hb dX6_nears_62 rfl hl (by decide) rfl (fun ls hl => ?_)
        refine lv_iinc (v := (x3 + 1)) (lv' := [(3, .int (x3 + 1)), (2, .int (x2 ||| (1 <<< (x3 &&& 31)))), (0, .ref (ad 0)), (1, .int x1)]) hx hb dX6_nears_63 hl (k := 3) rfl rfl (by decide) rfl (fun ls hl => ?_)
        refine lv_goto (tgt := 25) hx hb dX6_nears_66 (by decide) ?_
        exact ih (x2 ||| (1 <<< (x3 &&& 31))) (x3 + 1) (up2 σ 10 9 x3) _ _ _ h (lv_sub hl [2, 3, 1, 0] rfl) hf
def fX6_nears (σ : Sg) : Option (Int32 × Sg) :=
  (if (fX2_isOpen σ) = 0 then some ((-3), σ) else fX6_nears_25 (σ 10 9) 1000 0 0 σ)
set_option maxHeartbeats 4000000 in
set_option maxRecDepth 100000 in
theorem kX6_nears (l : Launch) (D : va_G) (κ : Kp) (ad : Nat → Nat) (σ : Sg) {r : Int32} {τ : Sg} (hf : fX6_nears σ = some (r, τ)) : Ci l D κ (wsX κ ad) yX6_nears wsX6_nears 6 131 [.ref (ad 0)] σ r τ := by
  refine Ci.of (cc := cX6_nears) (nL := 4) (ret := (some .int)) (by decide) rfl (Nat.le_of_ble_eq_true rfl) ?_
  intro p e s m below meth c A ls C h hl
  obtain ⟨hx, hb, hml, hr, hlk, hown, hts, hK, hA, hZ⟩ := id C
  have hl : lv_has ls 4 [(0, .ref (ad 0))] := hl
  unfold fX6_nears at hf
  refine lv_aload_n hx hb dX6_nears_0 rfl (lv_at hl 0 rfl) ?_
  refine x_get (v := .ref (ad 10)) C h (gX_BM κ ad σ) rfl inX6_nears_X6 1 (by decide) (hts _ lkX6_nears_20) rfl dX6_nears_1 ?_
  refine x_vi (As := []) (rest := []) C h (gX_Sp κ ad σ) rfl (kX2_isOpen l D κ ad σ (r := (fX2_isOpen σ)) rfl) (fun hts => cwV 0 hts gX6_nears_X2_isOpen rfl rfl rfl (by decide +kernel) ⟨Nat.le_of_ble_eq_true rfl, Nat.le_of_ble_eq_true rfl⟩) rfl hl.1 (Nat.le_of_ble_eq_true rfl) rfl dX6_nears_4 (fun H locs h => ?_)
  refine lv_if_ne (tgt := 13) hx hb dX6_nears_7 (by decide) (fun c5 => ?_) (fun c5 => ?_)
  · have hf := tk_f c5 hf
    refine lv_aload_n hx hb dX6_nears_13 rfl (lv_at hl 0 rfl) ?_
    refine x_get (v := .ref (ad 10)) C h (gX_BM κ ad σ) rfl inX6_nears_X6 1 (by decide) (hts _ lkX6_nears_20) rfl dX6_nears_14 ?_
    refine x_getN (v := .int (σ 10 9)) C h (gX_Sp κ ad σ) rfl inX6_nears_X2 9 (by decide) ((hZ.2.2.2.2.2.2.2.1 _ nkRX6_97).use rfl) rfl dX6_nears_17 ?_
    refine lv_istore_n (lv' := [(1, .int (σ 10 9)), (0, .ref (ad 0))]) hx hb dX6_nears_20 rfl hl (by decide) rfl (fun ls hl => ?_)
    refine lv_iconst (v := 0) hx hb dX6_nears_21 (by decide) ?_
    refine lv_istore_n (lv' := [(2, .int 0), (1, .int (σ 10 9)), (0, .ref (ad 0))]) hx hb dX6_nears_22 rfl hl (by decide) rfl (fun ls hl => ?_)
    refine lv_iconst (v := 0) hx hb dX6_nears_23 (by decide) ?_
    refine lv_istore_n (lv' := [(3, .int 0), (2, .int 0), (1, .int (σ 10 9)), (0, .ref (ad 0))]) hx hb dX6_nears_24 rfl hl (by decide) rfl (fun ls hl => ?_)
    exact jX6_nears_25 C (σ 10 9) 1000 0 0 σ _ _ _ h (lv_sub hl [3, 2, 1, 0] rfl) hf
  · have hf := tk_t c5 hf
    refine lv_bipush (v := (-3)) hx hb dX6_nears_10 (by decide) ?_
    obtain ⟨rfl, rfl⟩ := pr_ok hf
    exact x_iret C h dX6_nears_12
