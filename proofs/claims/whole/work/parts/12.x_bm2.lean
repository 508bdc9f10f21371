-- ===== X6_sheet: ButtonMatch.sheet(III)I
theorem lkX6_sheet_35 : Cond.fieldLink RX6 35 "ButtonMatch" "fault" "I" ∈ wsX6_sheet := by decide +kernel
theorem inX6_sheet_X6 : ∀ w ∈ wsX60, w ∈ wsX6_sheet := fun _ h => List.mem_cons_of_mem _ (List.mem_append_left _ (List.mem_append_right _ h))
theorem lkX6_sheet_13 : Cond.fieldLink RX6 13 "ButtonMatch" "sheets" "[LButtonMatch$Sheet;" ∈ wsX6_sheet := by decide +kernel
def fX6_sheet (x1 : Int32) (x2 : Int32) (x3 : Int32) (σ : Sg) : Option (Int32 × Sg) :=
  (if (fX6_isSheet x1 (up2 σ 0 4 0)) = 0 then some ((-1), (up2 σ 0 4 0)) else (if (fX6_isLane x2 (up2 σ 0 4 0)) = 0 then some ((-2), (up2 σ 0 4 0)) else (if x3 ≤ 60 then (if 0 ≤ x3 then (if gIn x1 4 then ((fX1_begin x1.toNatClampNeg x2 x3 (up2 σ 0 4 0)).bind fun τ8 => some (1, τ8)) else none) else some ((fX6_faulted 4 (up2 σ 0 4 0)).1, (fX6_faulted 4 (up2 σ 0 4 0)).2)) else some ((-2), (up2 σ 0 4 0)))))
set_option maxHeartbeats 4000000 in
set_option maxRecDepth 100000 in
theorem kX6_sheet (l : Launch) (D : va_G) (κ : Kp) (ad : Nat → Nat) (x1 : Int32) (x2 : Int32) (x3 : Int32) (σ : Sg) {r : Int32} {τ : Sg} (hf : fX6_sheet x1 x2 x3 σ = some (r, τ)) : Ci l D κ (wsX κ ad) yX6_sheet wsX6_sheet 2 45 [.ref (ad 0), .int x1, .int x2, .int x3] σ r τ := by
  refine Ci.of (cc := cX6_sheet) (nL := 4) (ret := (some .int)) (by decide) rfl (Nat.le_of_ble_eq_true rfl) ?_
  intro p e s m below meth c A ls C h hl
  obtain ⟨hx, hb, hml, hr, hlk, hown, hts, hK, hA, hZ⟩ := id C
  have hl : lv_has ls 4 [(0, .ref (ad 0)), (1, .int x1), (2, .int x2), (3, .int x3)] := hl
  unfold fX6_sheet at hf
  refine lv_aload_n hx hb dX6_sheet_0 rfl (lv_at hl 0 rfl) ?_
  refine lv_iconst (v := 0) hx hb dX6_sheet_1 (by decide) ?_
  refine x_put C h (gX_BM κ ad σ) rfl inX6_sheet_X6 tyX6 tyX6_ok nmX6 4 (by decide) (hts _ lkX6_sheet_35) rfl (tyX6_ok 4 (by decide)) (Nat.le_of_ble_eq_true rfl) (sX_BM_4 κ ad σ 0) dX6_sheet_2 (fun H locs h => ?_)
  refine lv_iload_n hx hb dX6_sheet_5 rfl (lv_at hl 1 rfl) ?_
  refine x_si (As := [.int x1]) (rest := []) C h (kX6_isSheet l D κ ad x1 (up2 σ 0 4 0) (r := (fX6_isSheet x1 (up2 σ 0 4 0))) rfl) (fun hts => va_cwS 1 hts gX6_sheet_X6_isSheet rfl rfl rfl (by decide +kernel) ⟨Nat.le_of_ble_eq_true rfl, Nat.le_of_ble_eq_true rfl⟩) rfl hl.1 (Nat.le_of_ble_eq_true rfl) rfl dX6_sheet_6 (fun H locs h => ?_)
  refine lv_if_ne (tgt := 14) hx hb dX6_sheet_9 (by decide) (fun c1 => ?_) (fun c1 => ?_)
  · have hf := tk_f c1 hf
    refine lv_iload_n hx hb dX6_sheet_14 rfl (lv_at hl 2 rfl) ?_
    refine x_si (As := [.int x2]) (rest := []) C h (kX6_isLane l D κ ad x2 (up2 σ 0 4 0) (r := (fX6_isLane x2 (up2 σ 0 4 0))) rfl) (fun hts => va_cwS 1 hts gX6_sheet_X6_isLane rfl rfl rfl (by decide +kernel) ⟨Nat.le_of_ble_eq_true rfl, Nat.le_of_ble_eq_true rfl⟩) rfl hl.1 (Nat.le_of_ble_eq_true rfl) rfl dX6_sheet_15 (fun H locs h => ?_)
    refine lv_if_eq (tgt := 27) hx hb dX6_sheet_18 (by decide) (fun c2 => ?_) (fun c2 => ?_)
    · have hf := tk_t c2 hf
      refine lv_bipush (v := (-2)) hx hb dX6_sheet_27 (by decide) ?_
      obtain ⟨rfl, rfl⟩ := pr_ok hf
      exact x_iret C h dX6_sheet_29
    · have hf := tk_f c2 hf
      refine lv_iload_n hx hb dX6_sheet_21 rfl (lv_at hl 3 rfl) ?_
      refine lv_bipush (v := 60) hx hb dX6_sheet_22 (by decide) ?_
      refine lv_icmp_le (tgt := 30) hx hb dX6_sheet_24 (by decide) (fun c3 => ?_) (fun c3 => ?_)
      · have hf := tk_t c3 hf
        refine lv_iload_n hx hb dX6_sheet_30 rfl (lv_at hl 3 rfl) ?_
        refine lv_if_ge (tgt := 40) hx hb dX6_sheet_31 (by decide) (fun c4 => ?_) (fun c4 => ?_)
        · have hf := tk_t c4 hf
          refine lv_aload_n hx hb dX6_sheet_40 rfl (lv_at hl 0 rfl) ?_
          refine x_get (v := .ref (ad 1)) C h (gX_BM κ ad (up2 σ 0 4 0)) rfl inX6_sheet_X6 0 (by decide) (hts _ lkX6_sheet_13) rfl dX6_sheet_41 ?_
          refine lv_iload_n hx hb dX6_sheet_44 rfl (lv_at hl 1 rfl) ?_
          obtain ⟨g5, hf⟩ := gd_ok hf
          have b6 : x1.toNatClampNeg < 4 := vp_lt g5
          refine x_aald (t0 := 2) (cn := "ButtonMatch$Sheet") (b := ad (2 + x1.toNatClampNeg)) C h (gX_arS κ ad (up2 σ 0 4 0)) rfl g5 rfl dX6_sheet_45 ?_
          refine lv_iload_n hx hb dX6_sheet_46 rfl (lv_at hl 2 rfl) ?_
          refine lv_iload_n hx hb dX6_sheet_47 rfl (lv_at hl 3 rfl) ?_
          obtain ⟨τ8, hg7, hf⟩ := bd_ok hf
          refine x_vv (As := [.int x2, .int x3]) (rest := []) C h (gX_Sh κ ad (up2 σ 0 4 0) b6) rfl (kX1_begin l D κ ad x1.toNatClampNeg b6 x2 x3 (up2 σ 0 4 0) (τ := τ8) hg7) (fun hts => cwV 2 hts gX6_sheet_X1_begin rfl rfl rfl (by decide +kernel) ⟨Nat.le_of_ble_eq_true rfl, Nat.le_of_ble_eq_true rfl⟩) rfl hl.1 (Nat.le_of_ble_eq_true rfl) rfl dX6_sheet_48 (fun H locs h => ?_)
          refine lv_iconst (v := 1) hx hb dX6_sheet_51 (by decide) ?_
          obtain ⟨rfl, rfl⟩ := pr_ok hf
          exact x_iret C h dX6_sheet_52
        · have hf := tk_f c4 hf
          refine lv_aload_n hx hb dX6_sheet_34 rfl (lv_at hl 0 rfl) ?_
          refine lv_iconst (v := 4) hx hb dX6_sheet_35 (by decide) ?_
          refine x_vi (As := [.int 4]) (rest := []) C h (gX_BM κ ad (up2 σ 0 4 0)) rfl (kX6_faulted l D κ ad 4 (up2 σ 0 4 0) (r := (fX6_faulted 4 (up2 σ 0 4 0)).1) (τ := (fX6_faulted 4 (up2 σ 0 4 0)).2) rfl) (fun hts => cwV 1 hts gX6_sheet_X6_faulted rfl rfl rfl (by decide +kernel) ⟨Nat.le_of_ble_eq_true rfl, Nat.le_of_ble_eq_true rfl⟩) rfl hl.1 (Nat.le_of_ble_eq_true rfl) rfl dX6_sheet_36 (fun H locs h => ?_)
          obtain ⟨rfl, rfl⟩ := pr_ok hf
          exact x_iret C h dX6_sheet_39
      · have hf := tk_f c3 hf
        refine lv_bipush (v := (-2)) hx hb dX6_sheet_27 (by decide) ?_
        obtain ⟨rfl, rfl⟩ := pr_ok hf
        exact x_iret C h dX6_sheet_29
  · have hf := tk_t c1 hf
    refine lv_iconst (v := (-1)) hx hb dX6_sheet_12 (by decide) ?_
    obtain ⟨rfl, rfl⟩ := pr_ok hf
    exact x_iret C h dX6_sheet_13

-- ===== X6_lose: ButtonMatch.lose(I)I
theorem lkX6_lose_13 : Cond.fieldLink RX6 13 "ButtonMatch" "sheets" "[LButtonMatch$Sheet;" ∈ wsX6_lose := by decide +kernel
theorem inX6_lose_X6 : ∀ w ∈ wsX60, w ∈ wsX6_lose := fun _ h => List.mem_cons_of_mem _ (List.mem_append_left _ (List.mem_append_right _ h))
def fX6_lose (x1 : Int32) (σ : Sg) : Option (Int32 × Sg) :=
  (if (fX6_isSheet x1 σ) = 0 then some ((-1), σ) else (if gIn x1 4 then (if (fX1_isNothing x1.toNatClampNeg σ) = 0 then some (1, (fX1_becomeNothing x1.toNatClampNeg σ)) else some (0, σ)) else none))
set_option maxHeartbeats 4000000 in
set_option maxRecDepth 100000 in
theorem kX6_lose (l : Launch) (D : va_G) (κ : Kp) (ad : Nat → Nat) (x1 : Int32) (σ : Sg) {r : Int32} {τ : Sg} (hf : fX6_lose x1 σ = some (r, τ)) : Ci l D κ (wsX κ ad) yX6_lose wsX6_lose 1 20 [.ref (ad 0), .int x1] σ r τ := by
  refine Ci.of (cc := cX6_lose) (nL := 2) (ret := (some .int)) (by decide) rfl (Nat.le_of_ble_eq_true rfl) ?_
  intro p e s m below meth c A ls C h hl
  obtain ⟨hx, hb, hml, hr, hlk, hown, hts, hK, hA, hZ⟩ := id C
  have hl : lv_has ls 2 [(0, .ref (ad 0)), (1, .int x1)] := hl
  unfold fX6_lose at hf
  refine lv_iload_n hx hb dX6_lose_0 rfl (lv_at hl 1 rfl) ?_
  refine x_si (As := [.int x1]) (rest := []) C h (kX6_isSheet l D κ ad x1 σ (r := (fX6_isSheet x1 σ)) rfl) (fun hts => va_cwS 1 hts gX6_lose_X6_isSheet rfl rfl rfl (by decide +kernel) ⟨Nat.le_of_ble_eq_true rfl, Nat.le_of_ble_eq_true rfl⟩) rfl hl.1 (Nat.le_of_ble_eq_true rfl) rfl dX6_lose_1 (fun H locs h => ?_)
  refine lv_if_ne (tgt := 9) hx hb dX6_lose_4 (by decide) (fun c1 => ?_) (fun c1 => ?_)
  · have hf := tk_f c1 hf
    refine lv_aload_n hx hb dX6_lose_9 rfl (lv_at hl 0 rfl) ?_
    refine x_get (v := .ref (ad 1)) C h (gX_BM κ ad σ) rfl inX6_lose_X6 0 (by decide) (hts _ lkX6_lose_13) rfl dX6_lose_10 ?_
    refine lv_iload_n hx hb dX6_lose_13 rfl (lv_at hl 1 rfl) ?_
    obtain ⟨g2, hf⟩ := gd_ok hf
    have b3 : x1.toNatClampNeg < 4 := vp_lt g2
    refine x_aald (t0 := 2) (cn := "ButtonMatch$Sheet") (b := ad (2 + x1.toNatClampNeg)) C h (gX_arS κ ad σ) rfl g2 rfl dX6_lose_14 ?_
    refine x_vi (As := []) (rest := []) C h (gX_Sh κ ad σ b3) rfl (kX1_isNothing l D κ ad x1.toNatClampNeg b3 σ (r := (fX1_isNothing x1.toNatClampNeg σ)) rfl) (fun hts => cwV 0 hts gX6_lose_X1_isNothing rfl rfl rfl (by decide +kernel) ⟨Nat.le_of_ble_eq_true rfl, Nat.le_of_ble_eq_true rfl⟩) rfl hl.1 (Nat.le_of_ble_eq_true rfl) rfl dX6_lose_15 (fun H locs h => ?_)
    refine lv_if_eq (tgt := 23) hx hb dX6_lose_18 (by decide) (fun c4 => ?_) (fun c4 => ?_)
    · have hf := tk_t c4 hf
      refine lv_aload_n hx hb dX6_lose_23 rfl (lv_at hl 0 rfl) ?_
      refine x_get (v := .ref (ad 1)) C h (gX_BM κ ad σ) rfl inX6_lose_X6 0 (by decide) (hts _ lkX6_lose_13) rfl dX6_lose_24 ?_
      refine lv_iload_n hx hb dX6_lose_27 rfl (lv_at hl 1 rfl) ?_
      refine x_aald (t0 := 2) (cn := "ButtonMatch$Sheet") (b := ad (2 + x1.toNatClampNeg)) C h (gX_arS κ ad σ) rfl g2 rfl dX6_lose_28 ?_
      refine x_vv (As := []) (rest := []) C h (gX_Sh κ ad σ b3) rfl (kX1_becomeNothing l D κ ad x1.toNatClampNeg b3 σ (τ := (fX1_becomeNothing x1.toNatClampNeg σ)) rfl) (fun hts => cwV 0 hts gX6_lose_X1_becomeNothing rfl rfl rfl (by decide +kernel) ⟨Nat.le_of_ble_eq_true rfl, Nat.le_of_ble_eq_true rfl⟩) rfl hl.1 (Nat.le_of_ble_eq_true rfl) rfl dX6_lose_29 (fun H locs h => ?_)
      refine lv_iconst (v := 1) hx hb dX6_lose_32 (by decide) ?_
      obtain ⟨rfl, rfl⟩ := pr_ok hf
      exact x_iret C h dX6_lose_33
    · have hf := tk_f c4 hf
      refine lv_iconst (v := 0) hx hb dX6_lose_21 (by decide) ?_
      obtain ⟨rfl, rfl⟩ := pr_ok hf
      exact x_iret C h dX6_lose_22
  · have hf := tk_t c1 hf
    refine lv_iconst (v := (-1)) hx hb dX6_lose_7 (by decide) ?_
    obtain ⟨rfl, rfl⟩ := pr_ok hf
    exact x_iret C h dX6_lose_8

-- ===== X6_put: ButtonMatch.put(III)I
theorem lkX6_put_35 : Cond.fieldLink RX6 35 "ButtonMatch" "fault" "I" ∈ wsX6_put := by decide +kernel
theorem inX6_put_X6 : ∀ w ∈ wsX60, w ∈ wsX6_put := fun _ h => List.mem_cons_of_mem _ (List.mem_append_left _ (List.mem_append_right _ h))
theorem lkX6_put_13 : Cond.fieldLink RX6 13 "ButtonMatch" "sheets" "[LButtonMatch$Sheet;" ∈ wsX6_put := by decide +kernel
def fX6_put (x1 : Int32) (x2 : Int32) (x3 : Int32) (σ : Sg) : Option (Int32 × Sg) :=
  (if (fX6_isSheet x1 (up2 σ 0 4 0)) = 0 then some ((-1), (up2 σ 0 4 0)) else (if gIn x1 4 then (if (fX1_isNothing x1.toNatClampNeg (up2 σ 0 4 0)) = 0 then (if (fX1_covers x1.toNatClampNeg x2 1 (up2 σ 0 4 0)) = 0 then some ((fX6_faulted 3 (up2 σ 0 4 0)).1, (fX6_faulted 3 (up2 σ 0 4 0)).2) else ((fX1_write x1.toNatClampNeg x2 x3 (up2 σ 0 4 0)).bind fun τ7 => some (1, τ7))) else some ((fX6_faulted 1 (up2 σ 0 4 0)).1, (fX6_faulted 1 (up2 σ 0 4 0)).2)) else none))
set_option maxHeartbeats 4000000 in
set_option maxRecDepth 100000 in
theorem kX6_put (l : Launch) (D : va_G) (κ : Kp) (ad : Nat → Nat) (x1 : Int32) (x2 : Int32) (x3 : Int32) (σ : Sg) {r : Int32} {τ : Sg} (hf : fX6_put x1 x2 x3 σ = some (r, τ)) : Ci l D κ (wsX κ ad) yX6_put wsX6_put 2 44 [.ref (ad 0), .int x1, .int x2, .int x3] σ r τ := by
  refine Ci.of (cc := cX6_put) (nL := 5) (ret := (some .int)) (by decide) rfl (Nat.le_of_ble_eq_true rfl) ?_
  intro p e s m below meth c A ls C h hl
  obtain ⟨hx, hb, hml, hr, hlk, hown, hts, hK, hA, hZ⟩ := id C
  have hl : lv_has ls 5 [(0, .ref (ad 0)), (1, .int x1), (2, .int x2), (3, .int x3)] := hl
  unfold fX6_put at hf
  refine lv_aload_n hx hb dX6_put_0 rfl (lv_at hl 0 rfl) ?_
  refine lv_iconst (v := 0) hx hb dX6_put_1 (by decide) ?_
  refine x_put C h (gX_BM κ ad σ) rfl inX6_put_X6 tyX6 tyX6_ok nmX6 4 (by decide) (hts _ lkX6_put_35) rfl (tyX6_ok 4 (by decide)) (Nat.le_of_ble_eq_true rfl) (sX_BM_4 κ ad σ 0) dX6_put_2 (fun H locs h => ?_)
  refine lv_iload_n hx hb dX6_put_5 rfl (lv_at hl 1 rfl) ?_
  refine x_si (As := [.int x1]) (rest := []) C h (kX6_isSheet l D κ ad x1 (up2 σ 0 4 0) (r := (fX6_isSheet x1 (up2 σ 0 4 0))) rfl) (fun hts => va_cwS 1 hts gX6_put_X6_isSheet rfl rfl rfl (by decide +kernel) ⟨Nat.le_of_ble_eq_true rfl, Nat.le_of_ble_eq_true rfl⟩) rfl hl.1 (Nat.le_of_ble_eq_true rfl) rfl dX6_put_6 (fun H locs h => ?_)
  refine lv_if_ne (tgt := 14) hx hb dX6_put_9 (by decide) (fun c1 => ?_) (fun c1 => ?_)
  · have hf := tk_f c1 hf
    refine lv_aload_n hx hb dX6_put_14 rfl (lv_at hl 0 rfl) ?_
    refine x_get (v := .ref (ad 1)) C h (gX_BM κ ad (up2 σ 0 4 0)) rfl inX6_put_X6 0 (by decide) (hts _ lkX6_put_13) rfl dX6_put_15 ?_
    refine lv_iload_n hx hb dX6_put_18 rfl (lv_at hl 1 rfl) ?_
    obtain ⟨g2, hf⟩ := gd_ok hf
    have b3 : x1.toNatClampNeg < 4 := vp_lt g2
    refine x_aald (t0 := 2) (cn := "ButtonMatch$Sheet") (b := ad (2 + x1.toNatClampNeg)) C h (gX_arS κ ad (up2 σ 0 4 0)) rfl g2 rfl dX6_put_19 ?_
    refine lv_astore (lv' := [(4, .ref (ad (2 + x1.toNatClampNeg))), (0, .ref (ad 0)), (1, .int x1), (2, .int x2), (3, .int x3)]) hx hb dX6_put_20 hl (by decide) rfl (fun ls hl => ?_)
    refine lv_aload hx hb dX6_put_22 (lv_at hl 0 rfl) ?_
    refine x_vi (As := []) (rest := []) C h (gX_Sh κ ad (up2 σ 0 4 0) b3) rfl (kX1_isNothing l D κ ad x1.toNatClampNeg b3 (up2 σ 0 4 0) (r := (fX1_isNothing x1.toNatClampNeg (up2 σ 0 4 0))) rfl) (fun hts => cwV 0 hts gX6_put_X1_isNothing rfl rfl rfl (by decide +kernel) ⟨Nat.le_of_ble_eq_true rfl, Nat.le_of_ble_eq_true rfl⟩) rfl hl.1 (Nat.le_of_ble_eq_true rfl) rfl dX6_put_24 (fun H locs h => ?_)
    refine lv_if_eq (tgt := 36) hx hb dX6_put_27 (by decide) (fun c4 => ?_) (fun c4 => ?_)
    · have hf := tk_t c4 hf
      refine lv_aload hx hb dX6_put_36 (lv_at hl 0 rfl) ?_
      refine lv_iload_n hx hb dX6_put_38 rfl (lv_at hl 3 rfl) ?_
      refine lv_iconst (v := 1) hx hb dX6_put_39 (by decide) ?_
      refine x_vi (As := [.int x2, .int 1]) (rest := []) C h (gX_Sh κ ad (up2 σ 0 4 0) b3) rfl (kX1_covers l D κ ad x1.toNatClampNeg b3 x2 1 (up2 σ 0 4 0) (r := (fX1_covers x1.toNatClampNeg x2 1 (up2 σ 0 4 0))) rfl) (fun hts => cwV 2 hts gX6_put_X1_covers rfl rfl rfl (by decide +kernel) ⟨Nat.le_of_ble_eq_true rfl, Nat.le_of_ble_eq_true rfl⟩) rfl hl.1 (Nat.le_of_ble_eq_true rfl) rfl dX6_put_40 (fun H locs h => ?_)
      refine lv_if_ne (tgt := 52) hx hb dX6_put_43 (by decide) (fun c5 => ?_) (fun c5 => ?_)
      · have hf := tk_f c5 hf
        refine lv_aload hx hb dX6_put_52 (lv_at hl 0 rfl) ?_
        refine lv_iload_n hx hb dX6_put_54 rfl (lv_at hl 3 rfl) ?_
        refine lv_iload_n hx hb dX6_put_55 rfl (lv_at hl 4 rfl) ?_
        obtain ⟨τ7, hg6, hf⟩ := bd_ok hf
        refine x_vv (As := [.int x2, .int x3]) (rest := []) C h (gX_Sh κ ad (up2 σ 0 4 0) b3) rfl (kX1_write l D κ ad x1.toNatClampNeg b3 x2 x3 (up2 σ 0 4 0) (τ := τ7) hg6) (fun hts => cwV 2 hts gX6_put_X1_write rfl rfl rfl (by decide +kernel) ⟨Nat.le_of_ble_eq_true rfl, Nat.le_of_ble_eq_true rfl⟩) rfl hl.1 (Nat.le_of_ble_eq_true rfl) rfl dX6_put_56 (fun H locs h => ?_)
        refine lv_iconst (v := 1) hx hb dX6_put_59 (by decide) ?_
        obtain ⟨rfl, rfl⟩ := pr_ok hf
        exact x_iret C h dX6_put_60
      · have hf := tk_t c5 hf
        refine lv_aload_n hx hb dX6_put_46 rfl (lv_at hl 1 rfl) ?_
        refine lv_iconst (v := 3) hx hb dX6_put_47 (by decide) ?_
        refine x_vi (As := [.int 3]) (rest := []) C h (gX_BM κ ad (up2 σ 0 4 0)) rfl (kX6_faulted l D κ ad 3 (up2 σ 0 4 0) (r := (fX6_faulted 3 (up2 σ 0 4 0)).1) (τ := (fX6_faulted 3 (up2 σ 0 4 0)).2) rfl) (fun hts => cwV 1 hts gX6_put_X6_faulted rfl rfl rfl (by decide +kernel) ⟨Nat.le_of_ble_eq_true rfl, Nat.le_of_ble_eq_true rfl⟩) rfl hl.1 (Nat.le_of_ble_eq_true rfl) rfl dX6_put_48 (fun H locs h => ?_)
        obtain ⟨rfl, rfl⟩ := pr_ok hf
        exact x_iret C h dX6_put_51
    · have hf := tk_f c4 hf
      refine lv_aload_n hx hb dX6_put_30 rfl (lv_at hl 1 rfl) ?_
      refine lv_iconst (v := 1) hx hb dX6_put_31 (by decide) ?_
      refine x_vi (As := [.int 1]) (rest := []) C h (gX_BM κ ad (up2 σ 0 4 0)) rfl (kX6_faulted l D κ ad 1 (up2 σ 0 4 0) (r := (fX6_faulted 1 (up2 σ 0 4 0)).1) (τ := (fX6_faulted 1 (up2 σ 0 4 0)).2) rfl) (fun hts => cwV 1 hts gX6_put_X6_faulted rfl rfl rfl (by decide +kernel) ⟨Nat.le_of_ble_eq_true rfl, Nat.le_of_ble_eq_true rfl⟩) rfl hl.1 (Nat.le_of_ble_eq_true rfl) rfl dX6_put_32 (fun H locs h => ?_)
      obtain ⟨rfl, rfl⟩ := pr_ok hf
      exact x_iret C h dX6_put_35
  · have hf := tk_t c1 hf
    refine lv_iconst (v := (-1)) hx hb dX6_put_12 (by decide) ?_
    obtain ⟨rfl, rfl⟩ := pr_ok hf
    exact x_iret C h dX6_put_13

-- ===== X6_cell: ButtonMatch.cell(III)J
theorem lkX6_cell_35 : Cond.fieldLink RX6 35 "ButtonMatch" "fault" "I" ∈ wsX6_cell := by decide +kernel
theorem inX6_cell_X6 : ∀ w ∈ wsX60, w ∈ wsX6_cell := fun _ h => List.mem_cons_of_mem _ (List.mem_append_left _ (List.mem_append_right _ h))
theorem lkX6_cell_134 : Cond.constantLong RX6 134 (-9223372036854775808) ∈ wsX6_cell := by decide +kernel
theorem lkX6_cell_13 : Cond.fieldLink RX6 13 "ButtonMatch" "sheets" "[LButtonMatch$Sheet;" ∈ wsX6_cell := by decide +kernel
def fX6_cell (x1 : Int32) (x2 : Int32) (x3 : Int32) (σ : Sg) : Option (Int64 × Sg) :=
  (if (fX6_isSheet x1 (up2 σ 0 4 0)) = 0 then some ((-9223372036854775808), (up2 σ 0 4 0)) else (if (fX6_isLane x3 (up2 σ 0 4 0)) = 0 then some ((-9223372036854775808), (up2 σ 0 4 0)) else (if gIn x1 4 then (if (fX1_faultOfTaking x1.toNatClampNeg x3 x2 1 (up2 σ 0 4 0)) = 0 then ((fX1_read x1.toNatClampNeg x2 (up2 (up2 σ 0 4 0) 0 4 (fX1_faultOfTaking x1.toNatClampNeg x3 x2 1 (up2 σ 0 4 0)))).bind fun r7 => some (r7.toInt64, (up2 (up2 σ 0 4 0) 0 4 (fX1_faultOfTaking x1.toNatClampNeg x3 x2 1 (up2 σ 0 4 0))))) else some ((-9223372036854775808), (up2 (up2 σ 0 4 0) 0 4 (fX1_faultOfTaking x1.toNatClampNeg x3 x2 1 (up2 σ 0 4 0))))) else none)))
set_option maxHeartbeats 4000000 in
set_option maxRecDepth 100000 in
theorem kX6_cell (l : Launch) (D : va_G) (κ : Kp) (ad : Nat → Nat) (x1 : Int32) (x2 : Int32) (x3 : Int32) (σ : Sg) {r : Int64} {τ : Sg} (hf : fX6_cell x1 x2 x3 σ = some (r, τ)) : Cl l D κ (wsX κ ad) yX6_cell wsX6_cell 2 45 [.ref (ad 0), .int x1, .int x2, .int x3] σ r τ := by
  refine Cl.of (cc := cX6_cell) (nL := 5) (ret := (some .long)) (by decide) rfl (Nat.le_of_ble_eq_true rfl) ?_
  intro p e s m below meth c A ls C h hl
  obtain ⟨hx, hb, hml, hr, hlk, hown, hts, hK, hA, hZ⟩ := id C
  have hl : lv_has ls 5 [(0, .ref (ad 0)), (1, .int x1), (2, .int x2), (3, .int x3)] := hl
  unfold fX6_cell at hf
  refine lv_aload_n hx hb dX6_cell_0 rfl (lv_at hl 0 rfl) ?_
  refine lv_iconst (v := 0) hx hb dX6_cell_1 (by decide) ?_
  refine x_put C h (gX_BM κ ad σ) rfl inX6_cell_X6 tyX6 tyX6_ok nmX6 4 (by decide) (hts _ lkX6_cell_35) rfl (tyX6_ok 4 (by decide)) (Nat.le_of_ble_eq_true rfl) (sX_BM_4 κ ad σ 0) dX6_cell_2 (fun H locs h => ?_)
  refine lv_iload_n hx hb dX6_cell_5 rfl (lv_at hl 1 rfl) ?_
  refine x_si (As := [.int x1]) (rest := []) C h (kX6_isSheet l D κ ad x1 (up2 σ 0 4 0) (r := (fX6_isSheet x1 (up2 σ 0 4 0))) rfl) (fun hts => va_cwS 1 hts gX6_cell_X6_isSheet rfl rfl rfl (by decide +kernel) ⟨Nat.le_of_ble_eq_true rfl, Nat.le_of_ble_eq_true rfl⟩) rfl hl.1 (Nat.le_of_ble_eq_true rfl) rfl dX6_cell_6 (fun H locs h => ?_)
  refine lv_if_eq (tgt := 19) hx hb dX6_cell_9 (by decide) (fun c1 => ?_) (fun c1 => ?_)
  · have hf := tk_t c1 hf
    refine lv_ldc2 (v := (-9223372036854775808)) hx hb hown (hts _ lkX6_cell_134) dX6_cell_19 ?_
    obtain ⟨rfl, rfl⟩ := pr_ok hf
    exact x_lret C h dX6_cell_22
  · have hf := tk_f c1 hf
    refine lv_iload_n hx hb dX6_cell_12 rfl (lv_at hl 3 rfl) ?_
    refine x_si (As := [.int x3]) (rest := []) C h (kX6_isLane l D κ ad x3 (up2 σ 0 4 0) (r := (fX6_isLane x3 (up2 σ 0 4 0))) rfl) (fun hts => va_cwS 1 hts gX6_cell_X6_isLane rfl rfl rfl (by decide +kernel) ⟨Nat.le_of_ble_eq_true rfl, Nat.le_of_ble_eq_true rfl⟩) rfl hl.1 (Nat.le_of_ble_eq_true rfl) rfl dX6_cell_13 (fun H locs h => ?_)
    refine lv_if_ne (tgt := 23) hx hb dX6_cell_16 (by decide) (fun c2 => ?_) (fun c2 => ?_)
    · have hf := tk_f c2 hf
      refine lv_aload_n hx hb dX6_cell_23 rfl (lv_at hl 0 rfl) ?_
      refine x_get (v := .ref (ad 1)) C h (gX_BM κ ad (up2 σ 0 4 0)) rfl inX6_cell_X6 0 (by decide) (hts _ lkX6_cell_13) rfl dX6_cell_24 ?_
      refine lv_iload_n hx hb dX6_cell_27 rfl (lv_at hl 1 rfl) ?_
      obtain ⟨g3, hf⟩ := gd_ok hf
      have b4 : x1.toNatClampNeg < 4 := vp_lt g3
      refine x_aald (t0 := 2) (cn := "ButtonMatch$Sheet") (b := ad (2 + x1.toNatClampNeg)) C h (gX_arS κ ad (up2 σ 0 4 0)) rfl g3 rfl dX6_cell_28 ?_
      refine lv_astore (lv' := [(4, .ref (ad (2 + x1.toNatClampNeg))), (0, .ref (ad 0)), (1, .int x1), (2, .int x2), (3, .int x3)]) hx hb dX6_cell_29 hl (by decide) rfl (fun ls hl => ?_)
      refine lv_aload_n hx hb dX6_cell_31 rfl (lv_at hl 1 rfl) ?_
      refine lv_aload hx hb dX6_cell_32 (lv_at hl 0 rfl) ?_
      refine lv_iload_n hx hb dX6_cell_34 rfl (lv_at hl 4 rfl) ?_
      refine lv_iload_n hx hb dX6_cell_35 rfl (lv_at hl 3 rfl) ?_
      refine lv_iconst (v := 1) hx hb dX6_cell_36 (by decide) ?_
      refine x_vi (As := [.int x3, .int x2, .int 1]) (rest := [.ref (ad 0)]) C h (gX_Sh κ ad (up2 σ 0 4 0) b4) rfl (kX1_faultOfTaking l D κ ad x1.toNatClampNeg b4 x3 x2 1 (up2 σ 0 4 0) (r := (fX1_faultOfTaking x1.toNatClampNeg x3 x2 1 (up2 σ 0 4 0))) rfl) (fun hts => cwV 3 hts gX6_cell_X1_faultOfTaking rfl rfl rfl (by decide +kernel) ⟨Nat.le_of_ble_eq_true rfl, Nat.le_of_ble_eq_true rfl⟩) rfl hl.1 (Nat.le_of_ble_eq_true rfl) rfl dX6_cell_37 (fun H locs h => ?_)
      refine x_put C h (gX_BM κ ad (up2 σ 0 4 0)) rfl inX6_cell_X6 tyX6 tyX6_ok nmX6 4 (by decide) (hts _ lkX6_cell_35) rfl (tyX6_ok 4 (by decide)) (Nat.le_of_ble_eq_true rfl) (sX_BM_4 κ ad (up2 σ 0 4 0) (fX1_faultOfTaking x1.toNatClampNeg x3 x2 1 (up2 σ 0 4 0))) dX6_cell_40 (fun H locs h => ?_)
      refine lv_aload_n hx hb dX6_cell_43 rfl (lv_at hl 1 rfl) ?_
      refine x_get (v := .int (fX1_faultOfTaking x1.toNatClampNeg x3 x2 1 (up2 σ 0 4 0))) C h (gX_BM κ ad (up2 (up2 σ 0 4 0) 0 4 (fX1_faultOfTaking x1.toNatClampNeg x3 x2 1 (up2 σ 0 4 0)))) rfl inX6_cell_X6 4 (by decide) (hts _ lkX6_cell_35) rfl dX6_cell_44 ?_
      refine lv_if_ne (tgt := 60) hx hb dX6_cell_47 (by decide) (fun c5 => ?_) (fun c5 => ?_)
      · have hf := tk_f c5 hf
        refine lv_ldc2 (v := (-9223372036854775808)) hx hb hown (hts _ lkX6_cell_134) dX6_cell_60 ?_
        obtain ⟨rfl, rfl⟩ := pr_ok hf
        exact x_lret C h dX6_cell_63
      · have hf := tk_t c5 hf
        refine lv_aload hx hb dX6_cell_50 (lv_at hl 0 rfl) ?_
        refine lv_iload_n hx hb dX6_cell_52 rfl (lv_at hl 3 rfl) ?_
        obtain ⟨r7, hg6, hf⟩ := bd_ok hf
        refine x_vi (As := [.int x2]) (rest := []) C h (gX_Sh κ ad (up2 (up2 σ 0 4 0) 0 4 (fX1_faultOfTaking x1.toNatClampNeg x3 x2 1 (up2 σ 0 4 0))) b4) rfl (kX1_read l D κ ad x1.toNatClampNeg b4 x2 (up2 (up2 σ 0 4 0) 0 4 (fX1_faultOfTaking x1.toNatClampNeg x3 x2 1 (up2 σ 0 4 0))) (r := r7) hg6) (fun hts => cwV 1 hts gX6_cell_X1_read rfl rfl rfl (by decide +kernel) ⟨Nat.le_of_ble_eq_true rfl, Nat.le_of_ble_eq_true rfl⟩) rfl hl.1 (Nat.le_of_ble_eq_true rfl) rfl dX6_cell_53 (fun H locs h => ?_)
        refine lv_i2l (v := r7.toInt64) hx hb dX6_cell_56 rfl ?_
        refine lv_goto (tgt := 63) hx hb dX6_cell_57 (by decide) ?_
        obtain ⟨rfl, rfl⟩ := pr_ok hf
        exact x_lret C h dX6_cell_63
    · have hf := tk_t c2 hf
      refine lv_ldc2 (v := (-9223372036854775808)) hx hb hown (hts _ lkX6_cell_134) dX6_cell_19 ?_
      obtain ⟨rfl, rfl⟩ := pr_ok hf
      exact x_lret C h dX6_cell_22

-- ===== X6_copy: ButtonMatch.copy(IIIII)I
theorem lkX6_copy_35 : Cond.fieldLink RX6 35 "ButtonMatch" "fault" "I" ∈ wsX6_copy := by decide +kernel
theorem inX6_copy_X6 : ∀ w ∈ wsX60, w ∈ wsX6_copy := fun _ h => List.mem_cons_of_mem _ (List.mem_append_left _ (List.mem_append_right _ h))
theorem lkX6_copy_13 : Cond.fieldLink RX6 13 "ButtonMatch" "sheets" "[LButtonMatch$Sheet;" ∈ wsX6_copy := by decide +kernel
theorem nkRX6_204 : ("ButtonMatch", 204, "ButtonMatch$Sheet", "lane", "I") ∈ nestL := by decide
theorem inX6_copy_X1 : ∀ w ∈ wsX10, w ∈ wsX6_copy := fun _ h => List.mem_cons_of_mem _ (List.mem_append_right _ h)
theorem cwX6_copy_207 : Cond.methodLink RX6 207 arraycopyName ∈ wsX6_copy ∧ Cond.native arraycopyName ∈ wsX6_copy ∧ Cond.static arraycopyName ∈ wsX6_copy ∧ Cond.initialized "java/lang/System" ∈ wsX6_copy := ⟨by decide +kernel, by decide +kernel, by decide +kernel, by decide +kernel⟩
def fX6_copy (x1 : Int32) (x2 : Int32) (x3 : Int32) (x4 : Int32) (x5 : Int32) (σ : Sg) : Option (Int32 × Sg) :=
  (if (fX6_isSheet x1 (up2 σ 0 4 0)) = 0 then some ((-1), (up2 σ 0 4 0)) else (if (fX6_isSheet x3 (up2 σ 0 4 0)) = 0 then some ((-1), (up2 σ 0 4 0)) else (if gIn x1 4 then (if gIn x3 4 then (if (fX1_isNothing x1.toNatClampNeg (up2 σ 0 4 0)) = 0 then (if (fX1_isNothing x3.toNatClampNeg (up2 σ 0 4 0)) = 0 then (if ((up2 σ 0 4 0) (2 + x1.toNatClampNeg) 1) = ((up2 σ 0 4 0) (2 + x3.toNatClampNeg) 1) then (if (fX1_covers x1.toNatClampNeg x2 x5 (up2 σ 0 4 0)) = 0 then some ((fX6_faulted 3 (up2 σ 0 4 0)).1, (fX6_faulted 3 (up2 σ 0 4 0)).2) else (if (fX1_covers x3.toNatClampNeg x4 x5 (up2 σ 0 4 0)) = 0 then some ((fX6_faulted 3 (up2 σ 0 4 0)).1, (fX6_faulted 3 (up2 σ 0 4 0)).2) else (if cpOk x2 x4 x5 60 then some (x5, (upA (up2 σ 0 4 0) (6 + x3.toNatClampNeg) (va_cpy ((up2 σ 0 4 0) (6 + x1.toNatClampNeg)) ((up2 σ 0 4 0) (6 + x3.toNatClampNeg)) x2.toNatClampNeg x4.toNatClampNeg x5.toNatClampNeg))) else none))) else some ((fX6_faulted 2 (up2 σ 0 4 0)).1, (fX6_faulted 2 (up2 σ 0 4 0)).2)) else some ((fX6_faulted 1 (up2 σ 0 4 0)).1, (fX6_faulted 1 (up2 σ 0 4 0)).2)) else some ((fX6_faulted 1 (up2 σ 0 4 0)).1, (fX6_faulted 1 (up2 σ 0 4 0)).2)) else none) else none)))
set_option maxHeartbeats 4000000 in
set_option maxRecDepth 100000 in
theorem kX6_copy (l : Launch) (D : va_G) (κ : Kp) (ad : Nat → Nat) (x1 : Int32) (x2 : Int32) (x3 : Int32) (x4 : Int32) (x5 : Int32) (σ : Sg) {r : Int32} {τ : Sg} (hf : fX6_copy x1 x2 x3 x4 x5 σ = some (r, τ)) : Ci l D κ (wsX κ ad) yX6_copy wsX6_copy 1 60 [.ref (ad 0), .int x1, .int x2, .int x3, .int x4, .int x5] σ r τ := by
  refine Ci.of (cc := cX6_copy) (nL := 8) (ret := (some .int)) (by decide) rfl (Nat.le_of_ble_eq_true rfl) ?_
  intro p e s m below meth c A ls C h hl
  obtain ⟨hx, hb, hml, hr, hlk, hown, hts, hK, hA, hZ⟩ := id C
  have hl : lv_has ls 8 [(0, .ref (ad 0)), (1, .int x1), (2, .int x2), (3, .int x3), (4, .int x4), (5, .int x5)] := hl
  unfold fX6_copy at hf
  refine lv_aload_n hx hb dX6_copy_0 rfl (lv_at hl 0 rfl) ?_
  refine lv_iconst (v := 0) hx hb dX6_copy_1 (by decide) ?_
  refine x_put C h (gX_BM κ ad σ) rfl inX6_copy_X6 tyX6 tyX6_ok nmX6 4 (by decide) (hts _ lkX6_copy_35) rfl (tyX6_ok 4 (by decide)) (Nat.le_of_ble_eq_true rfl) (sX_BM_4 κ ad σ 0) dX6_copy_2 (fun H locs h => ?_)
  refine lv_iload_n hx hb dX6_copy_5 rfl (lv_at hl 1 rfl) ?_
  refine x_si (As := [.int x1]) (rest := []) C h (kX6_isSheet l D κ ad x1 (up2 σ 0 4 0) (r := (fX6_isSheet x1 (up2 σ 0 4 0))) rfl) (fun hts => va_cwS 1 hts gX6_copy_X6_isSheet rfl rfl rfl (by decide +kernel) ⟨Nat.le_of_ble_eq_true rfl, Nat.le_of_ble_eq_true rfl⟩) rfl hl.1 (Nat.le_of_ble_eq_true rfl) rfl dX6_copy_6 (fun H locs h => ?_)
  refine lv_if_eq (tgt := 19) hx hb dX6_copy_9 (by decide) (fun c1 => ?_) (fun c1 => ?_)
  · have hf := tk_t c1 hf
    refine lv_iconst (v := (-1)) hx hb dX6_copy_19 (by decide) ?_
    obtain ⟨rfl, rfl⟩ := pr_ok hf
    exact x_iret C h dX6_copy_20
  · have hf := tk_f c1 hf
    refine lv_iload_n hx hb dX6_copy_12 rfl (lv_at hl 3 rfl) ?_
    refine x_si (As := [.int x3]) (rest := []) C h (kX6_isSheet l D κ ad x3 (up2 σ 0 4 0) (r := (fX6_isSheet x3 (up2 σ 0 4 0))) rfl) (fun hts => va_cwS 1 hts gX6_copy_X6_isSheet rfl rfl rfl (by decide +kernel) ⟨Nat.le_of_ble_eq_true rfl, Nat.le_of_ble_eq_true rfl⟩) rfl hl.1 (Nat.le_of_ble_eq_true rfl) rfl dX6_copy_13 (fun H locs h => ?_)
    refine lv_if_ne (tgt := 21) hx hb dX6_copy_16 (by decide) (fun c2 => ?_) (fun c2 => ?_)
    · have hf := tk_f c2 hf
      refine lv_aload_n hx hb dX6_copy_21 rfl (lv_at hl 0 rfl) ?_
      refine x_get (v := .ref (ad 1)) C h (gX_BM κ ad (up2 σ 0 4 0)) rfl inX6_copy_X6 0 (by decide) (hts _ lkX6_copy_13) rfl dX6_copy_22 ?_
      refine lv_iload_n hx hb dX6_copy_25 rfl (lv_at hl 1 rfl) ?_
      obtain ⟨g3, hf⟩ := gd_ok hf
      have b4 : x1.toNatClampNeg < 4 := vp_lt g3
      refine x_aald (t0 := 2) (cn := "ButtonMatch$Sheet") (b := ad (2 + x1.toNatClampNeg)) C h (gX_arS κ ad (up2 σ 0 4 0)) rfl g3 rfl dX6_copy_26 ?_
      refine lv_astore (lv' := [(6, .ref (ad (2 + x1.toNatClampNeg))), (0, .ref (ad 0)), (1, .int x1), (2, .int x2), (3, .int x3), (4, .int x4), (5, .int x5)]) hx hb dX6_copy_27 hl (by decide) rfl (fun ls hl => ?_)
      refine lv_aload_n hx hb dX6_copy_29 rfl (lv_at hl 1 rfl) ?_
      refine x_get (v := .ref (ad 1)) C h (gX_BM κ ad (up2 σ 0 4 0)) rfl inX6_copy_X6 0 (by decide) (hts _ lkX6_copy_13) rfl dX6_copy_30 ?_
      refine lv_iload_n hx hb dX6_copy_33 rfl (lv_at hl 4 rfl) ?_
      obtain ⟨g5, hf⟩ := gd_ok hf
      have b6 : x3.toNatClampNeg < 4 := vp_lt g5
      refine x_aald (t0 := 2) (cn := "ButtonMatch$Sheet") (b := ad (2 + x3.toNatClampNeg)) C h (gX_arS κ ad (up2 σ 0 4 0)) rfl g5 rfl dX6_copy_34 ?_
      refine lv_astore (lv' := [(7, .ref (ad (2 + x3.toNatClampNeg))), (6, .ref (ad (2 + x1.toNatClampNeg))), (0, .ref (ad 0)), (1, .int x1), (2, .int x2), (3, .int x3), (4, .int x4), (5, .int x5)]) hx hb dX6_copy_35 hl (by decide) rfl (fun ls hl => ?_)
      refine lv_aload hx hb dX6_copy_37 (lv_at hl 1 rfl) ?_
      refine x_vi (As := []) (rest := []) C h (gX_Sh κ ad (up2 σ 0 4 0) b4) rfl (kX1_isNothing l D κ ad x1.toNatClampNeg b4 (up2 σ 0 4 0) (r := (fX1_isNothing x1.toNatClampNeg (up2 σ 0 4 0))) rfl) (fun hts => cwV 0 hts gX6_copy_X1_isNothing rfl rfl rfl (by decide +kernel) ⟨Nat.le_of_ble_eq_true rfl, Nat.le_of_ble_eq_true rfl⟩) rfl hl.1 (Nat.le_of_ble_eq_true rfl) rfl dX6_copy_39 (fun H locs h => ?_)
      refine lv_if_ne (tgt := 53) hx hb dX6_copy_42 (by decide) (fun c7 => ?_) (fun c7 => ?_)
      · have hf := tk_f c7 hf
        refine lv_aload_n hx hb dX6_copy_53 rfl (lv_at hl 2 rfl) ?_
        refine lv_iconst (v := 1) hx hb dX6_copy_54 (by decide) ?_
        refine x_vi (As := [.int 1]) (rest := []) C h (gX_BM κ ad (up2 σ 0 4 0)) rfl (kX6_faulted l D κ ad 1 (up2 σ 0 4 0) (r := (fX6_faulted 1 (up2 σ 0 4 0)).1) (τ := (fX6_faulted 1 (up2 σ 0 4 0)).2) rfl) (fun hts => cwV 1 hts gX6_copy_X6_faulted rfl rfl rfl (by decide +kernel) ⟨Nat.le_of_ble_eq_true rfl, Nat.le_of_ble_eq_true rfl⟩) rfl hl.1 (Nat.le_of_ble_eq_true rfl) rfl dX6_copy_55 (fun H locs h => ?_)
        obtain ⟨rfl, rfl⟩ := pr_ok hf
        exact x_iret C h dX6_copy_58
      · have hf := tk_t c7 hf
        refine lv_aload hx hb dX6_copy_45 (lv_at hl 0 rfl) ?_
        refine x_vi (As := []) (rest := []) C h (gX_Sh κ ad (up2 σ 0 4 0) b6) rfl (kX1_isNothing l D κ ad x3.toNatClampNeg b6 (up2 σ 0 4 0) (r := (fX1_isNothing x3.toNatClampNeg (up2 σ 0 4 0))) rfl) (fun hts => cwV 0 hts gX6_copy_X1_isNothing rfl rfl rfl (by decide +kernel) ⟨Nat.le_of_ble_eq_true rfl, Nat.le_of_ble_eq_true rfl⟩) rfl hl.1 (Nat.le_of_ble_eq_true rfl) rfl dX6_copy_47 (fun H locs h => ?_)
        refine lv_if_eq (tgt := 59) hx hb dX6_copy_50 (by decide) (fun c8 => ?_) (fun c8 => ?_)
        · have hf := tk_t c8 hf
          refine lv_aload hx hb dX6_copy_59 (lv_at hl 1 rfl) ?_
          refine x_getN (v := .int ((up2 σ 0 4 0) (2 + x1.toNatClampNeg) 1)) C h (gX_Sh κ ad (up2 σ 0 4 0) b4) rfl inX6_copy_X1 1 (by decide) ((hZ.2.2.2.2.2.2.2.1 _ nkRX6_204).use rfl) rfl dX6_copy_61 ?_
          refine lv_aload hx hb dX6_copy_64 (lv_at hl 0 rfl) ?_
          refine x_getN (v := .int ((up2 σ 0 4 0) (2 + x3.toNatClampNeg) 1)) C h (gX_Sh κ ad (up2 σ 0 4 0) b6) rfl inX6_copy_X1 1 (by decide) ((hZ.2.2.2.2.2.2.2.1 _ nkRX6_204).use rfl) rfl dX6_copy_66 ?_
          refine lv_icmp_eq (tgt := 78) hx hb dX6_copy_69 (by decide) (fun c9 => ?_) (fun c9 => ?_)
          · have hf := tk_t c9 hf
            refine lv_aload hx hb dX6_copy_78 (lv_at hl 1 rfl) ?_
            refine lv_iload_n hx hb dX6_copy_80 rfl (lv_at hl 4 rfl) ?_
            refine lv_iload hx hb dX6_copy_81 (lv_at hl 7 rfl) ?_
            refine x_vi (As := [.int x2, .int x5]) (rest := []) C h (gX_Sh κ ad (up2 σ 0 4 0) b4) rfl (kX1_covers l D κ ad x1.toNatClampNeg b4 x2 x5 (up2 σ 0 4 0) (r := (fX1_covers x1.toNatClampNeg x2 x5 (up2 σ 0 4 0))) rfl) (fun hts => cwV 2 hts gX6_copy_X1_covers rfl rfl rfl (by decide +kernel) ⟨Nat.le_of_ble_eq_true rfl, Nat.le_of_ble_eq_true rfl⟩) rfl hl.1 (Nat.le_of_ble_eq_true rfl) rfl dX6_copy_83 (fun H locs h => ?_)
            refine lv_if_eq (tgt := 101) hx hb dX6_copy_86 (by decide) (fun c10 => ?_) (fun c10 => ?_)
            · have hf := tk_t c10 hf
              refine lv_aload_n hx hb dX6_copy_101 rfl (lv_at hl 2 rfl) ?_
              refine lv_iconst (v := 3) hx hb dX6_copy_102 (by decide) ?_
              refine x_vi (As := [.int 3]) (rest := []) C h (gX_BM κ ad (up2 σ 0 4 0)) rfl (kX6_faulted l D κ ad 3 (up2 σ 0 4 0) (r := (fX6_faulted 3 (up2 σ 0 4 0)).1) (τ := (fX6_faulted 3 (up2 σ 0 4 0)).2) rfl) (fun hts => cwV 1 hts gX6_copy_X6_faulted rfl rfl rfl (by decide +kernel) ⟨Nat.le_of_ble_eq_true rfl, Nat.le_of_ble_eq_true rfl⟩) rfl hl.1 (Nat.le_of_ble_eq_true rfl) rfl dX6_copy_103 (fun H locs h => ?_)
              obtain ⟨rfl, rfl⟩ := pr_ok hf
              exact x_iret C h dX6_copy_106
            · have hf := tk_f c10 hf
              refine lv_aload hx hb dX6_copy_89 (lv_at hl 0 rfl) ?_
              refine lv_iload hx hb dX6_copy_91 (lv_at hl 6 rfl) ?_
              refine lv_iload hx hb dX6_copy_93 (lv_at hl 7 rfl) ?_
              refine x_vi (As := [.int x4, .int x5]) (rest := []) C h (gX_Sh κ ad (up2 σ 0 4 0) b6) rfl (kX1_covers l D κ ad x3.toNatClampNeg b6 x4 x5 (up2 σ 0 4 0) (r := (fX1_covers x3.toNatClampNeg x4 x5 (up2 σ 0 4 0))) rfl) (fun hts => cwV 2 hts gX6_copy_X1_covers rfl rfl rfl (by decide +kernel) ⟨Nat.le_of_ble_eq_true rfl, Nat.le_of_ble_eq_true rfl⟩) rfl hl.1 (Nat.le_of_ble_eq_true rfl) rfl dX6_copy_95 (fun H locs h => ?_)
              refine lv_if_ne (tgt := 107) hx hb dX6_copy_98 (by decide) (fun c11 => ?_) (fun c11 => ?_)
              · have hf := tk_f c11 hf
                refine lv_aload hx hb dX6_copy_107 (lv_at hl 1 rfl) ?_
                refine x_getN (v := .ref (ad (6 + x1.toNatClampNeg))) C h (gX_Sh κ ad (up2 σ 0 4 0) b4) rfl inX6_copy_X1 0 (by decide) ((hZ.2.2.2.2.2.2.2.1 _ nkRX6_115).use rfl) rfl dX6_copy_109 ?_
                refine lv_iload_n hx hb dX6_copy_112 rfl (lv_at hl 4 rfl) ?_
                refine lv_aload hx hb dX6_copy_113 (lv_at hl 0 rfl) ?_
                refine x_getN (v := .ref (ad (6 + x3.toNatClampNeg))) C h (gX_Sh κ ad (up2 σ 0 4 0) b6) rfl inX6_copy_X1 0 (by decide) ((hZ.2.2.2.2.2.2.2.1 _ nkRX6_115).use rfl) rfl dX6_copy_115 ?_
                refine lv_iload hx hb dX6_copy_118 (lv_at hl 6 rfl) ?_
                refine lv_iload hx hb dX6_copy_120 (lv_at hl 7 rfl) ?_
                obtain ⟨g12, hf⟩ := gd_ok hf
                refine x_copy C h (gX_cl κ ad (up2 σ 0 4 0) b4) (gX_cl κ ad (up2 σ 0 4 0) b6) (aX_cl κ ad (up2 σ 0 4 0) (va_cpy ((up2 σ 0 4 0) (6 + x1.toNatClampNeg)) ((up2 σ 0 4 0) (6 + x3.toNatClampNeg)) x2.toNatClampNeg x4.toNatClampNeg x5.toNatClampNeg) b6) (hts _ cwX6_copy_207.1) (hts _ cwX6_copy_207.2.1) (hts _ cwX6_copy_207.2.2.1) (hts _ cwX6_copy_207.2.2.2) g12 hl.1 (Nat.le_of_ble_eq_true rfl) (Nat.le_of_ble_eq_true rfl) dX6_copy_122 (fun H locs h => ?_)
                refine lv_iload hx hb dX6_copy_125 (lv_at hl 7 rfl) ?_
                obtain ⟨rfl, rfl⟩ := pr_ok hf
                exact x_iret C h dX6_copy_127
              · have hf := tk_t c11 hf
                refine lv_aload_n hx hb dX6_copy_101 rfl (lv_at hl 2 rfl) ?_
                refine lv_iconst (v := 3) hx hb dX6_copy_102 (by decide) ?_
                refine x_vi (As := [.int 3]) (rest := []) C h (gX_BM κ ad (up2 σ 0 4 0)) rfl (kX6_faulted l D κ ad 3 (up2 σ 0 4 0) (r := (fX6_faulted 3 (up2 σ 0 4 0)).1) (τ := (fX6_faulted 3 (up2 σ 0 4 0)).2) rfl) (fun hts => cwV 1 hts gX6_copy_X6_faulted rfl rfl rfl (by decide +kernel) ⟨Nat.le_of_ble_eq_true rfl, Nat.le_of_ble_eq_true rfl⟩) rfl hl.1 (Nat.le_of_ble_eq_true rfl) rfl dX6_copy_103 (fun H locs h => ?_)
                obtain ⟨rfl, rfl⟩ := pr_ok hf
                exact x_iret C h dX6_copy_106
          · have hf := tk_f c9 hf
            refine lv_aload_n hx hb dX6_copy_72 rfl (lv_at hl 2 rfl) ?_
            refine lv_iconst (v := 2) hx hb dX6_copy_73 (by decide) ?_
            refine x_vi (As := [.int 2]) (rest := []) C h (gX_BM κ ad (up2 σ 0 4 0)) rfl (kX6_faulted l D κ ad 2 (up2 σ 0 4 0) (r := (fX6_faulted 2 (up2 σ 0 4 0)).1) (τ := (fX6_faulted 2 (up2 σ 0 4 0)).2) rfl) (fun hts => cwV 1 hts gX6_copy_X6_faulted rfl rfl rfl (by decide +kernel) ⟨Nat.le_of_ble_eq_true rfl, Nat.le_of_ble_eq_true rfl⟩) rfl hl.1 (Nat.le_of_ble_eq_true rfl) rfl dX6_copy_74 (fun H locs h => ?_)
            obtain ⟨rfl, rfl⟩ := pr_ok hf
            exact x_iret C h dX6_copy_77
        · have hf := tk_f c8 hf
          refine lv_aload_n hx hb dX6_copy_53 rfl (lv_at hl 2 rfl) ?_
          refine lv_iconst (v := 1) hx hb dX6_copy_54 (by decide) ?_
          refine x_vi (As := [.int 1]) (rest := []) C h (gX_BM κ ad (up2 σ 0 4 0)) rfl (kX6_faulted l D κ ad 1 (up2 σ 0 4 0) (r := (fX6_faulted 1 (up2 σ 0 4 0)).1) (τ := (fX6_faulted 1 (up2 σ 0 4 0)).2) rfl) (fun hts => cwV 1 hts gX6_copy_X6_faulted rfl rfl rfl (by decide +kernel) ⟨Nat.le_of_ble_eq_true rfl, Nat.le_of_ble_eq_true rfl⟩) rfl hl.1 (Nat.le_of_ble_eq_true rfl) rfl dX6_copy_55 (fun H locs h => ?_)
          obtain ⟨rfl, rfl⟩ := pr_ok hf
          exact x_iret C h dX6_copy_58
    · have hf := tk_t c2 hf
      refine lv_iconst (v := (-1)) hx hb dX6_copy_19 (by decide) ?_
      obtain ⟨rfl, rfl⟩ := pr_ok hf
      exact x_iret C h dX6_copy_20

-- ===== X6_mark: ButtonMatch.mark(I)V
theorem lkX6_mark_31 : Cond.fieldLink RX6 31 "ButtonMatch" "trace" "I" ∈ wsX6_mark := by decide +kernel
theorem inX6_mark_X6 : ∀ w ∈ wsX60, w ∈ wsX6_mark := fun _ h => List.mem_cons_of_mem _ (List.mem_append_right _ h)
def fX6_mark (x1 : Int32) (σ : Sg) : Sg :=
  (up2 σ 0 3 ((31 * (σ 0 3)) + x1))
set_option maxHeartbeats 4000000 in
set_option maxRecDepth 100000 in
theorem kX6_mark (l : Launch) (D : va_G) (κ : Kp) (ad : Nat → Nat) (x1 : Int32) (σ : Sg) {τ : Sg} (hf : fX6_mark x1 σ = τ) : Cv l D κ (wsX κ ad) yX6_mark wsX6_mark 0 0 [.ref (ad 0), .int x1] σ τ := by
  refine Cv.of (cc := cX6_mark) (nL := 2) (ret := none) (by decide) rfl (Nat.le_of_ble_eq_true rfl) ?_
  intro p e s m below meth c A ls C h hl
  obtain ⟨hx, hb, hml, hr, hlk, hown, hts, hK, hA, hZ⟩ := id C
  have hl : lv_has ls 2 [(0, .ref (ad 0)), (1, .int x1)] := hl
  unfold fX6_mark at hf
  refine lv_aload_n hx hb dX6_mark_0 rfl (lv_at hl 0 rfl) ?_
  refine lv_bipush (v := 31) hx hb dX6_mark_1 (by decide) ?_
  refine lv_aload_n hx hb dX6_mark_3 rfl (lv_at hl 0 rfl) ?_
  refine x_get (v := .int (σ 0 3)) C h (gX_BM κ ad σ) rfl inX6_mark_X6 3 (by decide) (hts _ lkX6_mark_31) rfl dX6_mark_4 ?_
  refine lv_imul hx hb dX6_mark_7 ?_
  refine lv_iload_n hx hb dX6_mark_8 rfl (lv_at hl 1 rfl) ?_
  refine lv_iadd hx hb dX6_mark_9 ?_
  refine x_put C h (gX_BM κ ad σ) rfl inX6_mark_X6 tyX6 tyX6_ok nmX6 3 (by decide) (hts _ lkX6_mark_31) rfl (tyX6_ok 3 (by decide)) (Nat.le_of_ble_eq_true rfl) (sX_BM_3 κ ad σ ((31 * (σ 0 3)) + x1)) dX6_mark_10 (fun H locs h => ?_)
  subst hf
  exact x_vret C h dX6_mark_13

-- ===== X6_tubeTelling: ButtonMatch.tubeTelling(LButtonMatch$Tube;)I
theorem nkRX6_233 : ("ButtonMatch", 233, "ButtonMatch$Tube", "pence", "I") ∈ nestL := by decide
theorem inX6_tubeTelling_X5 : ∀ w ∈ wsX50, w ∈ wsX6_tubeTelling := fun _ h => List.mem_cons_of_mem _ (List.mem_append_left _ (List.mem_append_right _ h))
def fX6_tubeTelling (k1 : Nat) (σ : Sg) : Int32 × Sg :=
  (((fX6_mark 1 σ) (13 + k1) 5), (fX6_mark 1 σ))
set_option maxHeartbeats 4000000 in
set_option maxRecDepth 100000 in
theorem kX6_tubeTelling (l : Launch) (D : va_G) (κ : Kp) (ad : Nat → Nat) (k1 : Nat) (hk1 : k1 < 6) (σ : Sg) {r : Int32} {τ : Sg} (hf : fX6_tubeTelling k1 σ = (r, τ)) : Ci l D κ (wsX κ ad) yX6_tubeTelling wsX6_tubeTelling 1 21 [.ref (ad 0), .ref (ad (13 + k1))] σ r τ := by
  refine Ci.of (cc := cX6_tubeTelling) (nL := 2) (ret := (some .int)) (by decide) rfl (Nat.le_of_ble_eq_true rfl) ?_
  intro p e s m below meth c A ls C h hl
  obtain ⟨hx, hb, hml, hr, hlk, hown, hts, hK, hA, hZ⟩ := id C
  have hl : lv_has ls 2 [(0, .ref (ad 0)), (1, .ref (ad (13 + k1)))] := hl
  unfold fX6_tubeTelling at hf
  refine lv_aload_n hx hb dX6_tubeTelling_0 rfl (lv_at hl 0 rfl) ?_
  refine lv_iconst (v := 1) hx hb dX6_tubeTelling_1 (by decide) ?_
  refine x_vv (As := [.int 1]) (rest := []) C h (gX_BM κ ad σ) rfl (kX6_mark l D κ ad 1 σ (τ := (fX6_mark 1 σ)) rfl) (fun hts => cwV 1 hts gX6_tubeTelling_X6_mark rfl rfl rfl (by decide +kernel) ⟨Nat.le_of_ble_eq_true rfl, Nat.le_of_ble_eq_true rfl⟩) rfl hl.1 (Nat.le_of_ble_eq_true rfl) rfl dX6_tubeTelling_2 (fun H locs h => ?_)
  refine lv_aload_n hx hb dX6_tubeTelling_5 rfl (lv_at hl 1 rfl) ?_
  refine x_getN (v := .int ((fX6_mark 1 σ) (13 + k1) 5)) C h (gX_Tu κ ad (fX6_mark 1 σ) hk1) rfl inX6_tubeTelling_X5 5 (by decide) ((hZ.2.2.2.2.2.2.2.1 _ nkRX6_233).use rfl) rfl dX6_tubeTelling_6 ?_
  obtain ⟨rfl, rfl⟩ := pr_tot hf
  exact x_iret C h dX6_tubeTelling_9

-- ===== X6_shadedTelling: ButtonMatch.shadedTelling(LButtonMatch$Tube;)I
def fX6_shadedTelling (k1 : Nat) (σ : Sg) : Int32 × Sg :=
  ((((fX6_tubeTelling k1 (fX6_mark 2 σ)).1) + 100), (fX6_tubeTelling k1 (fX6_mark 2 σ)).2)
set_option maxHeartbeats 4000000 in
set_option maxRecDepth 100000 in
theorem kX6_shadedTelling (l : Launch) (D : va_G) (κ : Kp) (ad : Nat → Nat) (k1 : Nat) (hk1 : k1 < 6) (σ : Sg) {r : Int32} {τ : Sg} (hf : fX6_shadedTelling k1 σ = (r, τ)) : Ci l D κ (wsX κ ad) yX6_shadedTelling wsX6_shadedTelling 2 42 [.ref (ad 0), .ref (ad (13 + k1))] σ r τ := by
  refine Ci.of (cc := cX6_shadedTelling) (nL := 2) (ret := (some .int)) (by decide) rfl (Nat.le_of_ble_eq_true rfl) ?_
  intro p e s m below meth c A ls C h hl
  obtain ⟨hx, hb, hml, hr, hlk, hown, hts, hK, hA, hZ⟩ := id C
  have hl : lv_has ls 2 [(0, .ref (ad 0)), (1, .ref (ad (13 + k1)))] := hl
  unfold fX6_shadedTelling at hf
  refine lv_aload_n hx hb dX6_shadedTelling_0 rfl (lv_at hl 0 rfl) ?_
  refine lv_iconst (v := 2) hx hb dX6_shadedTelling_1 (by decide) ?_
  refine x_vv (As := [.int 2]) (rest := []) C h (gX_BM κ ad σ) rfl (kX6_mark l D κ ad 2 σ (τ := (fX6_mark 2 σ)) rfl) (fun hts => cwV 1 hts gX6_shadedTelling_X6_mark rfl rfl rfl (by decide +kernel) ⟨Nat.le_of_ble_eq_true rfl, Nat.le_of_ble_eq_true rfl⟩) rfl hl.1 (Nat.le_of_ble_eq_true rfl) rfl dX6_shadedTelling_2 (fun H locs h => ?_)
  refine lv_aload_n hx hb dX6_shadedTelling_5 rfl (lv_at hl 0 rfl) ?_
  refine lv_aload_n hx hb dX6_shadedTelling_6 rfl (lv_at hl 1 rfl) ?_
  refine x_vi (As := [.ref (ad (13 + k1))]) (rest := []) C h (gX_BM κ ad (fX6_mark 2 σ)) rfl (kX6_tubeTelling l D κ ad k1 hk1 (fX6_mark 2 σ) (r := (fX6_tubeTelling k1 (fX6_mark 2 σ)).1) (τ := (fX6_tubeTelling k1 (fX6_mark 2 σ)).2) rfl) (fun hts => cwV 1 hts gX6_shadedTelling_X6_tubeTelling rfl rfl rfl (by decide +kernel) ⟨Nat.le_of_ble_eq_true rfl, Nat.le_of_ble_eq_true rfl⟩) rfl hl.1 (Nat.le_of_ble_eq_true rfl) rfl dX6_shadedTelling_7 (fun H locs h => ?_)
  refine lv_bipush (v := 100) hx hb dX6_shadedTelling_10 (by decide) ?_
  refine lv_iadd hx hb dX6_shadedTelling_12 ?_
  obtain ⟨rfl, rfl⟩ := pr_tot hf
  exact x_iret C h dX6_shadedTelling_13

-- ===== X6_oldTelling: ButtonMatch.oldTelling(LButtonMatch$Tube;)I
def fX6_oldTelling (k1 : Nat) (σ : Sg) : Int32 × Sg :=
  ((((fX6_shadedTelling k1 (fX6_mark 3 σ)).1) + ((fX6_tubeTelling k1 ((fX6_shadedTelling k1 (fX6_mark 3 σ)).2)).1)), (fX6_tubeTelling k1 ((fX6_shadedTelling k1 (fX6_mark 3 σ)).2)).2)
set_option maxHeartbeats 4000000 in
set_option maxRecDepth 100000 in
theorem kX6_oldTelling (l : Launch) (D : va_G) (κ : Kp) (ad : Nat → Nat) (k1 : Nat) (hk1 : k1 < 6) (σ : Sg) {r : Int32} {τ : Sg} (hf : fX6_oldTelling k1 σ = (r, τ)) : Ci l D κ (wsX κ ad) yX6_oldTelling wsX6_oldTelling 3 63 [.ref (ad 0), .ref (ad (13 + k1))] σ r τ := by
  refine Ci.of (cc := cX6_oldTelling) (nL := 3) (ret := (some .int)) (by decide) rfl (Nat.le_of_ble_eq_true rfl) ?_
  intro p e s m below meth c A ls C h hl
  obtain ⟨hx, hb, hml, hr, hlk, hown, hts, hK, hA, hZ⟩ := id C
  have hl : lv_has ls 3 [(0, .ref (ad 0)), (1, .ref (ad (13 + k1)))] := hl
  unfold fX6_oldTelling at hf
  refine lv_aload_n hx hb dX6_oldTelling_0 rfl (lv_at hl 0 rfl) ?_
  refine lv_iconst (v := 3) hx hb dX6_oldTelling_1 (by decide) ?_
  refine x_vv (As := [.int 3]) (rest := []) C h (gX_BM κ ad σ) rfl (kX6_mark l D κ ad 3 σ (τ := (fX6_mark 3 σ)) rfl) (fun hts => cwV 1 hts gX6_oldTelling_X6_mark rfl rfl rfl (by decide +kernel) ⟨Nat.le_of_ble_eq_true rfl, Nat.le_of_ble_eq_true rfl⟩) rfl hl.1 (Nat.le_of_ble_eq_true rfl) rfl dX6_oldTelling_2 (fun H locs h => ?_)
  refine lv_aload_n hx hb dX6_oldTelling_5 rfl (lv_at hl 0 rfl) ?_
  refine lv_aload_n hx hb dX6_oldTelling_6 rfl (lv_at hl 1 rfl) ?_
  refine x_vi (As := [.ref (ad (13 + k1))]) (rest := []) C h (gX_BM κ ad (fX6_mark 3 σ)) rfl (kX6_shadedTelling l D κ ad k1 hk1 (fX6_mark 3 σ) (r := (fX6_shadedTelling k1 (fX6_mark 3 σ)).1) (τ := (fX6_shadedTelling k1 (fX6_mark 3 σ)).2) rfl) (fun hts => cwV 1 hts gX6_oldTelling_X6_shadedTelling rfl rfl rfl (by decide +kernel) ⟨Nat.le_of_ble_eq_true rfl, Nat.le_of_ble_eq_true rfl⟩) rfl hl.1 (Nat.le_of_ble_eq_true rfl) rfl dX6_oldTelling_7 (fun H locs h => ?_)
  refine lv_istore_n (lv' := [(2, .int ((fX6_shadedTelling k1 (fX6_mark 3 σ)).1)), (0, .ref (ad 0)), (1, .ref (ad (13 + k1)))]) hx hb dX6_oldTelling_10 rfl hl (by decide) rfl (fun ls hl => ?_)
  refine lv_iload_n hx hb dX6_oldTelling_11 rfl (lv_at hl 0 rfl) ?_
  refine lv_aload_n hx hb dX6_oldTelling_12 rfl (lv_at hl 1 rfl) ?_
  refine lv_aload_n hx hb dX6_oldTelling_13 rfl (lv_at hl 2 rfl) ?_
  refine x_vi (As := [.ref (ad (13 + k1))]) (rest := [.int ((fX6_shadedTelling k1 (fX6_mark 3 σ)).1)]) C h (gX_BM κ ad ((fX6_shadedTelling k1 (fX6_mark 3 σ)).2)) rfl (kX6_tubeTelling l D κ ad k1 hk1 ((fX6_shadedTelling k1 (fX6_mark 3 σ)).2) (r := (fX6_tubeTelling k1 ((fX6_shadedTelling k1 (fX6_mark 3 σ)).2)).1) (τ := (fX6_tubeTelling k1 ((fX6_shadedTelling k1 (fX6_mark 3 σ)).2)).2) rfl) (fun hts => cwV 1 hts gX6_oldTelling_X6_tubeTelling rfl rfl rfl (by decide +kernel) ⟨Nat.le_of_ble_eq_true rfl, Nat.le_of_ble_eq_true rfl⟩) rfl hl.1 (Nat.le_of_ble_eq_true rfl) rfl dX6_oldTelling_14 (fun H locs h => ?_)
  refine lv_iadd hx hb dX6_oldTelling_17 ?_
  obtain ⟨rfl, rfl⟩ := pr_tot hf
  exact x_iret C h dX6_oldTelling_18

-- ===== X6_tell: ButtonMatch.tell(I)I
theorem lkX6_tell_20 : Cond.fieldLink RX6 20 "ButtonMatch" "shop" "LButtonMatch$Shop;" ∈ wsX6_tell := by decide +kernel
theorem inX6_tell_X6 : ∀ w ∈ wsX60, w ∈ wsX6_tell := fun _ h => List.mem_cons_of_mem _ (List.mem_append_left _ (List.mem_append_left _ (List.mem_append_right _ h)))
theorem inX6_tell_X2 : ∀ w ∈ wsX20, w ∈ wsX6_tell := fun _ h => List.mem_cons_of_mem _ (List.mem_append_left _ (List.mem_append_right _ h))
theorem inX6_tell_X5 : ∀ w ∈ wsX50, w ∈ wsX6_tell := fun _ h => List.mem_cons_of_mem _ (List.mem_append_right _ h)
def fX6_tell (x1 : Int32) (σ : Sg) : Option (Int32 × Sg) :=
  (if (fX2_hasTube x1 σ) = 0 then some ((-1), σ) else (if gIn x1 6 then (if (σ (13 + x1.toNatClampNeg) 0) = 2 then some ((fX6_oldTelling x1.toNatClampNeg σ).1, (fX6_oldTelling x1.toNatClampNeg σ).2) else (if (σ (13 + x1.toNatClampNeg) 0) = 1 then some ((fX6_shadedTelling x1.toNatClampNeg σ).1, (fX6_shadedTelling x1.toNatClampNeg σ).2) else some ((fX6_tubeTelling x1.toNatClampNeg σ).1, (fX6_tubeTelling x1.toNatClampNeg σ).2))) else none))
set_option maxHeartbeats 4000000 in
set_option maxRecDepth 100000 in
theorem kX6_tell (l : Launch) (D : va_G) (κ : Kp) (ad : Nat → Nat) (x1 : Int32) (σ : Sg) {r : Int32} {τ : Sg} (hf : fX6_tell x1 σ = some (r, τ)) : Ci l D κ (wsX κ ad) yX6_tell wsX6_tell 4 85 [.ref (ad 0), .int x1] σ r τ := by
  refine Ci.of (cc := cX6_tell) (nL := 3) (ret := (some .int)) (by decide) rfl (Nat.le_of_ble_eq_true rfl) ?_
  intro p e s m below meth c A ls C h hl
  obtain ⟨hx, hb, hml, hr, hlk, hown, hts, hK, hA, hZ⟩ := id C
  have hl : lv_has ls 3 [(0, .ref (ad 0)), (1, .int x1)] := hl
  unfold fX6_tell at hf
  refine lv_aload_n hx hb dX6_tell_0 rfl (lv_at hl 0 rfl) ?_
  refine x_get (v := .ref (ad 10)) C h (gX_BM κ ad σ) rfl inX6_tell_X6 1 (by decide) (hts _ lkX6_tell_20) rfl dX6_tell_1 ?_
  refine lv_iload_n hx hb dX6_tell_4 rfl (lv_at hl 1 rfl) ?_
  refine x_vi (As := [.int x1]) (rest := []) C h (gX_Sp κ ad σ) rfl (kX2_hasTube l D κ ad x1 σ (r := (fX2_hasTube x1 σ)) rfl) (fun hts => cwV 1 hts gX6_tell_X2_hasTube rfl rfl rfl (by decide +kernel) ⟨Nat.le_of_ble_eq_true rfl, Nat.le_of_ble_eq_true rfl⟩) rfl hl.1 (Nat.le_of_ble_eq_true rfl) rfl dX6_tell_5 (fun H locs h => ?_)
  refine lv_if_ne (tgt := 13) hx hb dX6_tell_8 (by decide) (fun c1 => ?_) (fun c1 => ?_)
  · have hf := tk_f c1 hf
    refine lv_aload_n hx hb dX6_tell_13 rfl (lv_at hl 0 rfl) ?_
    refine x_get (v := .ref (ad 10)) C h (gX_BM κ ad σ) rfl inX6_tell_X6 1 (by decide) (hts _ lkX6_tell_20) rfl dX6_tell_14 ?_
    refine x_getN (v := .ref (ad 11)) C h (gX_Sp κ ad σ) rfl inX6_tell_X2 0 (by decide) ((hZ.2.2.2.2.2.2.2.1 _ nkRX6_78).use rfl) rfl dX6_tell_17 ?_
    refine lv_iload_n hx hb dX6_tell_20 rfl (lv_at hl 1 rfl) ?_
    obtain ⟨g2, hf⟩ := gd_ok hf
    have b3 : x1.toNatClampNeg < 6 := vp_lt g2
    refine x_aald (t0 := 3) (cn := "ButtonMatch$Tube") (b := ad (13 + x1.toNatClampNeg)) C h (gX_arT κ ad σ) rfl g2 rfl dX6_tell_21 ?_
    refine lv_astore_n (lv' := [(2, .ref (ad (13 + x1.toNatClampNeg))), (0, .ref (ad 0)), (1, .int x1)]) hx hb dX6_tell_22 rfl hl (by decide) rfl (fun ls hl => ?_)
    refine lv_aload_n hx hb dX6_tell_23 rfl (lv_at hl 0 rfl) ?_
    refine x_getN (v := .int (σ (13 + x1.toNatClampNeg) 0)) C h (gX_Tu κ ad σ b3) rfl inX6_tell_X5 0 (by decide) ((hZ.2.2.2.2.2.2.2.1 _ nkRX6_165).use rfl) rfl dX6_tell_24 ?_
    refine lv_iconst (v := 2) hx hb dX6_tell_27 (by decide) ?_
    refine lv_icmp_ne (tgt := 37) hx hb dX6_tell_28 (by decide) (fun c4 => ?_) (fun c4 => ?_)
    · have hf := tk_f c4 hf
      refine lv_aload_n hx hb dX6_tell_37 rfl (lv_at hl 0 rfl) ?_
      refine x_getN (v := .int (σ (13 + x1.toNatClampNeg) 0)) C h (gX_Tu κ ad σ b3) rfl inX6_tell_X5 0 (by decide) ((hZ.2.2.2.2.2.2.2.1 _ nkRX6_165).use rfl) rfl dX6_tell_38 ?_
      refine lv_iconst (v := 1) hx hb dX6_tell_41 (by decide) ?_
      refine lv_icmp_ne (tgt := 53) hx hb dX6_tell_42 (by decide) (fun c5 => ?_) (fun c5 => ?_)
      · have hf := tk_f c5 hf
        refine lv_aload_n hx hb dX6_tell_53 rfl (lv_at hl 1 rfl) ?_
        refine lv_aload_n hx hb dX6_tell_54 rfl (lv_at hl 0 rfl) ?_
        refine x_vi (As := [.ref (ad (13 + x1.toNatClampNeg))]) (rest := []) C h (gX_BM κ ad σ) rfl (kX6_tubeTelling l D κ ad x1.toNatClampNeg b3 σ (r := (fX6_tubeTelling x1.toNatClampNeg σ).1) (τ := (fX6_tubeTelling x1.toNatClampNeg σ).2) rfl) (fun hts => cwV 1 hts gX6_tell_X6_tubeTelling rfl rfl rfl (by decide +kernel) ⟨Nat.le_of_ble_eq_true rfl, Nat.le_of_ble_eq_true rfl⟩) rfl hl.1 (Nat.le_of_ble_eq_true rfl) rfl dX6_tell_55 (fun H locs h => ?_)
        obtain ⟨rfl, rfl⟩ := pr_ok hf
        exact x_iret C h dX6_tell_58
      · have hf := tk_t c5 hf
        refine lv_aload_n hx hb dX6_tell_45 rfl (lv_at hl 1 rfl) ?_
        refine lv_aload_n hx hb dX6_tell_46 rfl (lv_at hl 0 rfl) ?_
        refine x_vi (As := [.ref (ad (13 + x1.toNatClampNeg))]) (rest := []) C h (gX_BM κ ad σ) rfl (kX6_shadedTelling l D κ ad x1.toNatClampNeg b3 σ (r := (fX6_shadedTelling x1.toNatClampNeg σ).1) (τ := (fX6_shadedTelling x1.toNatClampNeg σ).2) rfl) (fun hts => cwV 1 hts gX6_tell_X6_shadedTelling rfl rfl rfl (by decide +kernel) ⟨Nat.le_of_ble_eq_true rfl, Nat.le_of_ble_eq_true rfl⟩) rfl hl.1 (Nat.le_of_ble_eq_true rfl) rfl dX6_tell_47 (fun H locs h => ?_)
        refine lv_goto (tgt := 58) hx hb dX6_tell_50 (by decide) ?_
        obtain ⟨rfl, rfl⟩ := pr_ok hf
        exact x_iret C h dX6_tell_58
    · have hf := tk_t c4 hf
      refine lv_aload_n hx hb dX6_tell_31 rfl (lv_at hl 1 rfl) ?_
      refine lv_aload_n hx hb dX6_tell_32 rfl (lv_at hl 0 rfl) ?_
      refine x_vi (As := [.ref (ad (13 + x1.toNatClampNeg))]) (rest := []) C h (gX_BM κ ad σ) rfl (kX6_oldTelling l D κ ad x1.toNatClampNeg b3 σ (r := (fX6_oldTelling x1.toNatClampNeg σ).1) (τ := (fX6_oldTelling x1.toNatClampNeg σ).2) rfl) (fun hts => cwV 1 hts gX6_tell_X6_oldTelling rfl rfl rfl (by decide +kernel) ⟨Nat.le_of_ble_eq_true rfl, Nat.le_of_ble_eq_true rfl⟩) rfl hl.1 (Nat.le_of_ble_eq_true rfl) rfl dX6_tell_33 (fun H locs h => ?_)
      obtain ⟨rfl, rfl⟩ := pr_ok hf
      exact x_iret C h dX6_tell_36
  · have hf := tk_t c1 hf
    refine lv_iconst (v := (-1)) hx hb dX6_tell_11 (by decide) ?_
    obtain ⟨rfl, rfl⟩ := pr_ok hf
    exact x_iret C h dX6_tell_12

-- ===== X6_oldRattling: ButtonMatch.oldRattling()I
def fX6_oldRattling (σ : Sg) : Int32 × Sg :=
  (50, (fX6_mark 5 σ))
set_option maxHeartbeats 4000000 in
set_option maxRecDepth 100000 in
theorem kX6_oldRattling (l : Launch) (D : va_G) (κ : Kp) (ad : Nat → Nat) (σ : Sg) {r : Int32} {τ : Sg} (hf : fX6_oldRattling σ = (r, τ)) : Ci l D κ (wsX κ ad) yX6_oldRattling wsX6_oldRattling 1 21 [.ref (ad 0)] σ r τ := by
  refine Ci.of (cc := cX6_oldRattling) (nL := 1) (ret := (some .int)) (by decide) rfl (Nat.le_of_ble_eq_true rfl) ?_
  intro p e s m below meth c A ls C h hl
  obtain ⟨hx, hb, hml, hr, hlk, hown, hts, hK, hA, hZ⟩ := id C
  have hl : lv_has ls 1 [(0, .ref (ad 0))] := hl
  unfold fX6_oldRattling at hf
  refine lv_aload_n hx hb dX6_oldRattling_0 rfl (lv_at hl 0 rfl) ?_
  refine lv_iconst (v := 5) hx hb dX6_oldRattling_1 (by decide) ?_
  refine x_vv (As := [.int 5]) (rest := []) C h (gX_BM κ ad σ) rfl (kX6_mark l D κ ad 5 σ (τ := (fX6_mark 5 σ)) rfl) (fun hts => cwV 1 hts gX6_oldRattling_X6_mark rfl rfl rfl (by decide +kernel) ⟨Nat.le_of_ble_eq_true rfl, Nat.le_of_ble_eq_true rfl⟩) rfl hl.1 (Nat.le_of_ble_eq_true rfl) rfl dX6_oldRattling_2 (fun H locs h => ?_)
  refine lv_bipush (v := 50) hx hb dX6_oldRattling_5 (by decide) ?_
  obtain ⟨rfl, rfl⟩ := pr_tot hf
  exact x_iret C h dX6_oldRattling_7

-- ===== X6_lentRattling: ButtonMatch.lentRattling(I)I
def fX6_lentRattling (x1 : Int32) (σ : Sg) : Int32 × Sg :=
  (x1, (fX6_mark 4 σ))
set_option maxHeartbeats 4000000 in
set_option maxRecDepth 100000 in
theorem kX6_lentRattling (l : Launch) (D : va_G) (κ : Kp) (ad : Nat → Nat) (x1 : Int32) (σ : Sg) {r : Int32} {τ : Sg} (hf : fX6_lentRattling x1 σ = (r, τ)) : Ci l D κ (wsX κ ad) yX6_lentRattling wsX6_lentRattling 1 21 [.ref (ad 0), .int x1] σ r τ := by
  refine Ci.of (cc := cX6_lentRattling) (nL := 2) (ret := (some .int)) (by decide) rfl (Nat.le_of_ble_eq_true rfl) ?_
  intro p e s m below meth c A ls C h hl
  obtain ⟨hx, hb, hml, hr, hlk, hown, hts, hK, hA, hZ⟩ := id C
  have hl : lv_has ls 2 [(0, .ref (ad 0)), (1, .int x1)] := hl
  unfold fX6_lentRattling at hf
  refine lv_aload_n hx hb dX6_lentRattling_0 rfl (lv_at hl 0 rfl) ?_
  refine lv_iconst (v := 4) hx hb dX6_lentRattling_1 (by decide) ?_
  refine x_vv (As := [.int 4]) (rest := []) C h (gX_BM κ ad σ) rfl (kX6_mark l D κ ad 4 σ (τ := (fX6_mark 4 σ)) rfl) (fun hts => cwV 1 hts gX6_lentRattling_X6_mark rfl rfl rfl (by decide +kernel) ⟨Nat.le_of_ble_eq_true rfl, Nat.le_of_ble_eq_true rfl⟩) rfl hl.1 (Nat.le_of_ble_eq_true rfl) rfl dX6_lentRattling_2 (fun H locs h => ?_)
  refine lv_iload_n hx hb dX6_lentRattling_5 rfl (lv_at hl 1 rfl) ?_
  obtain ⟨rfl, rfl⟩ := pr_tot hf
  exact x_iret C h dX6_lentRattling_6

-- ===== X6_rattle: ButtonMatch.rattle(I)I
theorem lkX6_rattle_20 : Cond.fieldLink RX6 20 "ButtonMatch" "shop" "LButtonMatch$Shop;" ∈ wsX6_rattle := by decide +kernel
theorem inX6_rattle_X6 : ∀ w ∈ wsX60, w ∈ wsX6_rattle := fun _ h => List.mem_cons_of_mem _ (List.mem_append_left _ (List.mem_append_left _ (List.mem_append_right _ h)))
theorem inX6_rattle_X2 : ∀ w ∈ wsX20, w ∈ wsX6_rattle := fun _ h => List.mem_cons_of_mem _ (List.mem_append_left _ (List.mem_append_right _ h))
theorem inX6_rattle_X5 : ∀ w ∈ wsX50, w ∈ wsX6_rattle := fun _ h => List.mem_cons_of_mem _ (List.mem_append_right _ h)
def fX6_rattle (x1 : Int32) (σ : Sg) : Option (Int32 × Sg) :=
  (if (fX2_hasTube x1 σ) = 0 then some ((-1), σ) else (if gIn x1 6 then (if (σ (13 + x1.toNatClampNeg) 0) = 2 then some ((fX6_oldRattling σ).1, (fX6_oldRattling σ).2) else some ((fX6_lentRattling x1 σ).1, (fX6_lentRattling x1 σ).2)) else none))
set_option maxHeartbeats 4000000 in
set_option maxRecDepth 100000 in
theorem kX6_rattle (l : Launch) (D : va_G) (κ : Kp) (ad : Nat → Nat) (x1 : Int32) (σ : Sg) {r : Int32} {τ : Sg} (hf : fX6_rattle x1 σ = some (r, τ)) : Ci l D κ (wsX κ ad) yX6_rattle wsX6_rattle 2 42 [.ref (ad 0), .int x1] σ r τ := by
  refine Ci.of (cc := cX6_rattle) (nL := 2) (ret := (some .int)) (by decide) rfl (Nat.le_of_ble_eq_true rfl) ?_
  intro p e s m below meth c A ls C h hl
  obtain ⟨hx, hb, hml, hr, hlk, hown, hts, hK, hA, hZ⟩ := id C
  have hl : lv_has ls 2 [(0, .ref (ad 0)), (1, .int x1)] := hl
  unfold fX6_rattle at hf
  refine lv_aload_n hx hb dX6_rattle_0 rfl (lv_at hl 0 rfl) ?_
  refine x_get (v := .ref (ad 10)) C h (gX_BM κ ad σ) rfl inX6_rattle_X6 1 (by decide) (hts _ lkX6_rattle_20) rfl dX6_rattle_1 ?_
  refine lv_iload_n hx hb dX6_rattle_4 rfl (lv_at hl 1 rfl) ?_
  refine x_vi (As := [.int x1]) (rest := []) C h (gX_Sp κ ad σ) rfl (kX2_hasTube l D κ ad x1 σ (r := (fX2_hasTube x1 σ)) rfl) (fun hts => cwV 1 hts gX6_rattle_X2_hasTube rfl rfl rfl (by decide +kernel) ⟨Nat.le_of_ble_eq_true rfl, Nat.le_of_ble_eq_true rfl⟩) rfl hl.1 (Nat.le_of_ble_eq_true rfl) rfl dX6_rattle_5 (fun H locs h => ?_)
  refine lv_if_ne (tgt := 13) hx hb dX6_rattle_8 (by decide) (fun c1 => ?_) (fun c1 => ?_)
  · have hf := tk_f c1 hf
    refine lv_aload_n hx hb dX6_rattle_13 rfl (lv_at hl 0 rfl) ?_
    refine x_get (v := .ref (ad 10)) C h (gX_BM κ ad σ) rfl inX6_rattle_X6 1 (by decide) (hts _ lkX6_rattle_20) rfl dX6_rattle_14 ?_
    refine x_getN (v := .ref (ad 11)) C h (gX_Sp κ ad σ) rfl inX6_rattle_X2 0 (by decide) ((hZ.2.2.2.2.2.2.2.1 _ nkRX6_78).use rfl) rfl dX6_rattle_17 ?_
    refine lv_iload_n hx hb dX6_rattle_20 rfl (lv_at hl 1 rfl) ?_
    obtain ⟨g2, hf⟩ := gd_ok hf
    have b3 : x1.toNatClampNeg < 6 := vp_lt g2
    refine x_aald (t0 := 3) (cn := "ButtonMatch$Tube") (b := ad (13 + x1.toNatClampNeg)) C h (gX_arT κ ad σ) rfl g2 rfl dX6_rattle_21 ?_
    refine x_getN (v := .int (σ (13 + x1.toNatClampNeg) 0)) C h (gX_Tu κ ad σ b3) rfl inX6_rattle_X5 0 (by decide) ((hZ.2.2.2.2.2.2.2.1 _ nkRX6_165).use rfl) rfl dX6_rattle_22 ?_
    refine lv_iconst (v := 2) hx hb dX6_rattle_25 (by decide) ?_
    refine lv_icmp_ne (tgt := 36) hx hb dX6_rattle_26 (by decide) (fun c4 => ?_) (fun c4 => ?_)
    · have hf := tk_f c4 hf
      refine lv_aload_n hx hb dX6_rattle_36 rfl (lv_at hl 0 rfl) ?_
      refine lv_iload_n hx hb dX6_rattle_37 rfl (lv_at hl 1 rfl) ?_
      refine x_vi (As := [.int x1]) (rest := []) C h (gX_BM κ ad σ) rfl (kX6_lentRattling l D κ ad x1 σ (r := (fX6_lentRattling x1 σ).1) (τ := (fX6_lentRattling x1 σ).2) rfl) (fun hts => cwV 1 hts gX6_rattle_X6_lentRattling rfl rfl rfl (by decide +kernel) ⟨Nat.le_of_ble_eq_true rfl, Nat.le_of_ble_eq_true rfl⟩) rfl hl.1 (Nat.le_of_ble_eq_true rfl) rfl dX6_rattle_38 (fun H locs h => ?_)
      obtain ⟨rfl, rfl⟩ := pr_ok hf
      exact x_iret C h dX6_rattle_41
    · have hf := tk_t c4 hf
      refine lv_aload_n hx hb dX6_rattle_29 rfl (lv_at hl 0 rfl) ?_
      refine x_vi (As := []) (rest := []) C h (gX_BM κ ad σ) rfl (kX6_oldRattling l D κ ad σ (r := (fX6_oldRattling σ).1) (τ := (fX6_oldRattling σ).2) rfl) (fun hts => cwV 0 hts gX6_rattle_X6_oldRattling rfl rfl rfl (by decide +kernel) ⟨Nat.le_of_ble_eq_true rfl, Nat.le_of_ble_eq_true rfl⟩) rfl hl.1 (Nat.le_of_ble_eq_true rfl) rfl dX6_rattle_30 (fun H locs h => ?_)
      refine lv_goto (tgt := 41) hx hb dX6_rattle_33 (by decide) ?_
      obtain ⟨rfl, rfl⟩ := pr_ok hf
      exact x_iret C h dX6_rattle_41
  · have hf := tk_t c1 hf
    refine lv_iconst (v := (-1)) hx hb dX6_rattle_11 (by decide) ?_
    obtain ⟨rfl, rfl⟩ := pr_ok hf
    exact x_iret C h dX6_rattle_12

-- ===== X6_as: ButtonMatch.as(II)I
theorem lkX6_as_35 : Cond.fieldLink RX6 35 "ButtonMatch" "fault" "I" ∈ wsX6_as := by decide +kernel
theorem inX6_as_X6 : ∀ w ∈ wsX60, w ∈ wsX6_as := fun _ h => List.mem_cons_of_mem _ (List.mem_append_left _ (List.mem_append_left _ (List.mem_append_right _ h)))
theorem lkX6_as_20 : Cond.fieldLink RX6 20 "ButtonMatch" "shop" "LButtonMatch$Shop;" ∈ wsX6_as := by decide +kernel
theorem inX6_as_X2 : ∀ w ∈ wsX20, w ∈ wsX6_as := fun _ h => List.mem_cons_of_mem _ (List.mem_append_left _ (List.mem_append_right _ h))
theorem inX6_as_X5 : ∀ w ∈ wsX50, w ∈ wsX6_as := fun _ h => List.mem_cons_of_mem _ (List.mem_append_right _ h)
def fX6_as (x1 : Int32) (x2 : Int32) (σ : Sg) : Option (Int32 × Sg) :=
  (if (fX2_hasTube x1 (up2 σ 0 4 0)) = 0 then some ((-1), (up2 σ 0 4 0)) else (if x2 < 0 then some ((-2), (up2 σ 0 4 0)) else (if x2 < 3 then (if gIn x1 6 then (if ((up2 σ 0 4 0) (13 + x1.toNatClampNeg) 0) < x2 then some ((fX6_faulted 2 (up2 σ 0 4 0)).1, (fX6_faulted 2 (up2 σ 0 4 0)).2) else some (1, (up2 σ 0 4 0))) else none) else some ((-2), (up2 σ 0 4 0)))))
set_option maxHeartbeats 4000000 in
set_option maxRecDepth 100000 in
theorem kX6_as (l : Launch) (D : va_G) (κ : Kp) (ad : Nat → Nat) (x1 : Int32) (x2 : Int32) (σ : Sg) {r : Int32} {τ : Sg} (hf : fX6_as x1 x2 σ = some (r, τ)) : Ci l D κ (wsX κ ad) yX6_as wsX6_as 1 21 [.ref (ad 0), .int x1, .int x2] σ r τ := by
  refine Ci.of (cc := cX6_as) (nL := 3) (ret := (some .int)) (by decide) rfl (Nat.le_of_ble_eq_true rfl) ?_
  intro p e s m below meth c A ls C h hl
  obtain ⟨hx, hb, hml, hr, hlk, hown, hts, hK, hA, hZ⟩ := id C
  have hl : lv_has ls 3 [(0, .ref (ad 0)), (1, .int x1), (2, .int x2)] := hl
  unfold fX6_as at hf
  refine lv_aload_n hx hb dX6_as_0 rfl (lv_at hl 0 rfl) ?_
  refine lv_iconst (v := 0) hx hb dX6_as_1 (by decide) ?_
  refine x_put C h (gX_BM κ ad σ) rfl inX6_as_X6 tyX6 tyX6_ok nmX6 4 (by decide) (hts _ lkX6_as_35) rfl (tyX6_ok 4 (by decide)) (Nat.le_of_ble_eq_true rfl) (sX_BM_4 κ ad σ 0) dX6_as_2 (fun H locs h => ?_)
  refine lv_aload_n hx hb dX6_as_5 rfl (lv_at hl 0 rfl) ?_
  refine x_get (v := .ref (ad 10)) C h (gX_BM κ ad (up2 σ 0 4 0)) rfl inX6_as_X6 1 (by decide) (hts _ lkX6_as_20) rfl dX6_as_6 ?_
  refine lv_iload_n hx hb dX6_as_9 rfl (lv_at hl 1 rfl) ?_
  refine x_vi (As := [.int x1]) (rest := []) C h (gX_Sp κ ad (up2 σ 0 4 0)) rfl (kX2_hasTube l D κ ad x1 (up2 σ 0 4 0) (r := (fX2_hasTube x1 (up2 σ 0 4 0))) rfl) (fun hts => cwV 1 hts gX6_as_X2_hasTube rfl rfl rfl (by decide +kernel) ⟨Nat.le_of_ble_eq_true rfl, Nat.le_of_ble_eq_true rfl⟩) rfl hl.1 (Nat.le_of_ble_eq_true rfl) rfl dX6_as_10 (fun H locs h => ?_)
  refine lv_if_ne (tgt := 18) hx hb dX6_as_13 (by decide) (fun c1 => ?_) (fun c1 => ?_)
  · have hf := tk_f c1 hf
    refine lv_iload_n hx hb dX6_as_18 rfl (lv_at hl 2 rfl) ?_
    refine lv_if_lt (tgt := 27) hx hb dX6_as_19 (by decide) (fun c2 => ?_) (fun c2 => ?_)
    · have hf := tk_t c2 hf
      refine lv_bipush (v := (-2)) hx hb dX6_as_27 (by decide) ?_
      obtain ⟨rfl, rfl⟩ := pr_ok hf
      exact x_iret C h dX6_as_29
    · have hf := tk_f c2 hf
      refine lv_iload_n hx hb dX6_as_22 rfl (lv_at hl 2 rfl) ?_
      refine lv_iconst (v := 3) hx hb dX6_as_23 (by decide) ?_
      refine lv_icmp_lt (tgt := 30) hx hb dX6_as_24 (by decide) (fun c3 => ?_) (fun c3 => ?_)
      · have hf := tk_t c3 hf
        refine lv_aload_n hx hb dX6_as_30 rfl (lv_at hl 0 rfl) ?_
        refine x_get (v := .ref (ad 10)) C h (gX_BM κ ad (up2 σ 0 4 0)) rfl inX6_as_X6 1 (by decide) (hts _ lkX6_as_20) rfl dX6_as_31 ?_
        refine x_getN (v := .ref (ad 11)) C h (gX_Sp κ ad (up2 σ 0 4 0)) rfl inX6_as_X2 0 (by decide) ((hZ.2.2.2.2.2.2.2.1 _ nkRX6_78).use rfl) rfl dX6_as_34 ?_
        refine lv_iload_n hx hb dX6_as_37 rfl (lv_at hl 1 rfl) ?_
        obtain ⟨g4, hf⟩ := gd_ok hf
        have b5 : x1.toNatClampNeg < 6 := vp_lt g4
        refine x_aald (t0 := 3) (cn := "ButtonMatch$Tube") (b := ad (13 + x1.toNatClampNeg)) C h (gX_arT κ ad (up2 σ 0 4 0)) rfl g4 rfl dX6_as_38 ?_
        refine x_getN (v := .int ((up2 σ 0 4 0) (13 + x1.toNatClampNeg) 0)) C h (gX_Tu κ ad (up2 σ 0 4 0) b5) rfl inX6_as_X5 0 (by decide) ((hZ.2.2.2.2.2.2.2.1 _ nkRX6_165).use rfl) rfl dX6_as_39 ?_
        refine lv_iload_n hx hb dX6_as_42 rfl (lv_at hl 2 rfl) ?_
        refine lv_icmp_lt (tgt := 50) hx hb dX6_as_43 (by decide) (fun c6 => ?_) (fun c6 => ?_)
        · have hf := tk_t c6 hf
          refine lv_aload_n hx hb dX6_as_50 rfl (lv_at hl 0 rfl) ?_
          refine lv_iconst (v := 2) hx hb dX6_as_51 (by decide) ?_
          refine x_vi (As := [.int 2]) (rest := []) C h (gX_BM κ ad (up2 σ 0 4 0)) rfl (kX6_faulted l D κ ad 2 (up2 σ 0 4 0) (r := (fX6_faulted 2 (up2 σ 0 4 0)).1) (τ := (fX6_faulted 2 (up2 σ 0 4 0)).2) rfl) (fun hts => cwV 1 hts gX6_as_X6_faulted rfl rfl rfl (by decide +kernel) ⟨Nat.le_of_ble_eq_true rfl, Nat.le_of_ble_eq_true rfl⟩) rfl hl.1 (Nat.le_of_ble_eq_true rfl) rfl dX6_as_52 (fun H locs h => ?_)
          obtain ⟨rfl, rfl⟩ := pr_ok hf
          exact x_iret C h dX6_as_55
        · have hf := tk_f c6 hf
          refine lv_iconst (v := 1) hx hb dX6_as_46 (by decide) ?_
          refine lv_goto (tgt := 55) hx hb dX6_as_47 (by decide) ?_
          obtain ⟨rfl, rfl⟩ := pr_ok hf
          exact x_iret C h dX6_as_55
      · have hf := tk_f c3 hf
        refine lv_bipush (v := (-2)) hx hb dX6_as_27 (by decide) ?_
        obtain ⟨rfl, rfl⟩ := pr_ok hf
        exact x_iret C h dX6_as_29
  · have hf := tk_t c1 hf
    refine lv_iconst (v := (-1)) hx hb dX6_as_16 (by decide) ?_
    obtain ⟨rfl, rfl⟩ := pr_ok hf
    exact x_iret C h dX6_as_17

-- ===== X6_trace: ButtonMatch.trace()I
theorem lkX6_trace_31 : Cond.fieldLink RX6 31 "ButtonMatch" "trace" "I" ∈ wsX6_trace := by decide +kernel
theorem inX6_trace_X6 : ∀ w ∈ wsX60, w ∈ wsX6_trace := fun _ h => List.mem_cons_of_mem _ (List.mem_append_right _ h)
def fX6_trace (σ : Sg) : Int32 :=
  (σ 0 3)
set_option maxHeartbeats 4000000 in
set_option maxRecDepth 100000 in
theorem kX6_trace (l : Launch) (D : va_G) (κ : Kp) (ad : Nat → Nat) (σ : Sg) {r : Int32} (hf : fX6_trace σ = r) : Ci l D κ (wsX κ ad) yX6_trace wsX6_trace 0 0 [.ref (ad 0)] σ r σ := by
  refine Ci.of (cc := cX6_trace) (nL := 1) (ret := (some .int)) (by decide) rfl (Nat.le_of_ble_eq_true rfl) ?_
  intro p e s m below meth c A ls C h hl
  obtain ⟨hx, hb, hml, hr, hlk, hown, hts, hK, hA, hZ⟩ := id C
  have hl : lv_has ls 1 [(0, .ref (ad 0))] := hl
  unfold fX6_trace at hf
  refine lv_aload_n hx hb dX6_trace_0 rfl (lv_at hl 0 rfl) ?_
  refine x_get (v := .int (σ 0 3)) C h (gX_BM κ ad σ) rfl inX6_trace_X6 3 (by decide) (hts _ lkX6_trace_31) rfl dX6_trace_1 ?_
  subst hf
  exact x_iret C h dX6_trace_4

-- ===== X6_fault: ButtonMatch.fault()I
theorem lkX6_fault_35 : Cond.fieldLink RX6 35 "ButtonMatch" "fault" "I" ∈ wsX6_fault := by decide +kernel
theorem inX6_fault_X6 : ∀ w ∈ wsX60, w ∈ wsX6_fault := fun _ h => List.mem_cons_of_mem _ (List.mem_append_right _ h)
def fX6_fault (σ : Sg) : Int32 :=
  (σ 0 4)
set_option maxHeartbeats 4000000 in
set_option maxRecDepth 100000 in
theorem kX6_fault (l : Launch) (D : va_G) (κ : Kp) (ad : Nat → Nat) (σ : Sg) {r : Int32} (hf : fX6_fault σ = r) : Ci l D κ (wsX κ ad) yX6_fault wsX6_fault 0 0 [.ref (ad 0)] σ r σ := by
  refine Ci.of (cc := cX6_fault) (nL := 1) (ret := (some .int)) (by decide) rfl (Nat.le_of_ble_eq_true rfl) ?_
  intro p e s m below meth c A ls C h hl
  obtain ⟨hx, hb, hml, hr, hlk, hown, hts, hK, hA, hZ⟩ := id C
  have hl : lv_has ls 1 [(0, .ref (ad 0))] := hl
  unfold fX6_fault at hf
  refine lv_aload_n hx hb dX6_fault_0 rfl (lv_at hl 0 rfl) ?_
  refine x_get (v := .int (σ 0 4)) C h (gX_BM κ ad σ) rfl inX6_fault_X6 4 (by decide) (hts _ lkX6_fault_35) rfl dX6_fault_1 ?_
  subst hf
  exact x_iret C h dX6_fault_4

-- ===== X6_many: ButtonMatch.many(I)I
theorem lkX6_many_20 : Cond.fieldLink RX6 20 "ButtonMatch" "shop" "LButtonMatch$Shop;" ∈ wsX6_many := by decide +kernel
theorem inX6_many_X6 : ∀ w ∈ wsX60, w ∈ wsX6_many := fun _ h => List.mem_cons_of_mem _ (List.mem_append_left _ (List.mem_append_left _ (List.mem_append_left _ (List.mem_append_right _ h))))
theorem inX6_many_X2 : ∀ w ∈ wsX20, w ∈ wsX6_many := fun _ h => List.mem_cons_of_mem _ (List.mem_append_left _ (List.mem_append_left _ (List.mem_append_right _ h)))
theorem lkX6_many_27 : Cond.fieldLink RX6 27 "ButtonMatch" "readings" "LButtonMatch$Readings;" ∈ wsX6_many := by decide +kernel
theorem inX6_many_X0 : ∀ w ∈ wsX00, w ∈ wsX6_many := fun _ h => List.mem_cons_of_mem _ (List.mem_append_left _ (List.mem_append_right _ h))
def fX6_many (x1 : Int32) (σ : Sg) : Option (Int32) :=
  (if x1 = 0 then some (σ 10 2) else (if x1 = 1 then ((fX2_buttons σ).bind fun r4 => some r4) else (if x1 = 2 then some (σ 19 2) else (if x1 = 3 then some (σ 10 9) else some (-2)))))
set_option maxHeartbeats 4000000 in
set_option maxRecDepth 100000 in
theorem kX6_many (l : Launch) (D : va_G) (κ : Kp) (ad : Nat → Nat) (x1 : Int32) (σ : Sg) {r : Int32} (hf : fX6_many x1 σ = some r) : Ci l D κ (wsX κ ad) yX6_many wsX6_many 1 22 [.ref (ad 0), .int x1] σ r σ := by
  refine Ci.of (cc := cX6_many) (nL := 2) (ret := (some .int)) (by decide) rfl (Nat.le_of_ble_eq_true rfl) ?_
  intro p e s m below meth c A ls C h hl
  obtain ⟨hx, hb, hml, hr, hlk, hown, hts, hK, hA, hZ⟩ := id C
  have hl : lv_has ls 2 [(0, .ref (ad 0)), (1, .int x1)] := hl
  unfold fX6_many at hf
  refine lv_iload_n hx hb dX6_many_0 rfl (lv_at hl 1 rfl) ?_
  by_cases c1 : x1 = 0
  · have hf := tk_t c1 hf
    refine lv_tableIn (off := 31) (tgt := 32) hx hb dX6_many_1 (by rw [c1]; decide) (by rw [c1]; decide) (by rw [c1]; rfl) (by decide) ?_
    refine lv_aload_n hx hb dX6_many_32 rfl (lv_at hl 0 rfl) ?_
    refine x_get (v := .ref (ad 10)) C h (gX_BM κ ad σ) rfl inX6_many_X6 1 (by decide) (hts _ lkX6_many_20) rfl dX6_many_33 ?_
    refine x_getN (v := .int (σ 10 2)) C h (gX_Sp κ ad σ) rfl inX6_many_X2 2 (by decide) ((hZ.2.2.2.2.2.2.2.1 _ nkRX6_56).use rfl) rfl dX6_many_36 ?_
    obtain rfl := so_ok hf
    exact x_iret C h dX6_many_39
  have hf := tk_f c1 hf
  by_cases c2 : x1 = 1
  · have hf := tk_t c2 hf
    refine lv_tableIn (off := 39) (tgt := 40) hx hb dX6_many_1 (by rw [c2]; decide) (by rw [c2]; decide) (by rw [c2]; rfl) (by decide) ?_
    refine lv_aload_n hx hb dX6_many_40 rfl (lv_at hl 0 rfl) ?_
    refine x_get (v := .ref (ad 10)) C h (gX_BM κ ad σ) rfl inX6_many_X6 1 (by decide) (hts _ lkX6_many_20) rfl dX6_many_41 ?_
    obtain ⟨r4, hg3, hf⟩ := bd_ok hf
    refine x_vi (As := []) (rest := []) C h (gX_Sp κ ad σ) rfl (kX2_buttons l D κ ad σ (r := r4) hg3) (fun hts => cwV 0 hts gX6_many_X2_buttons rfl rfl rfl (by decide +kernel) ⟨Nat.le_of_ble_eq_true rfl, Nat.le_of_ble_eq_true rfl⟩) rfl hl.1 (Nat.le_of_ble_eq_true rfl) rfl dX6_many_44 (fun H locs h => ?_)
    obtain rfl := so_ok hf
    exact x_iret C h dX6_many_47
  have hf := tk_f c2 hf
  by_cases c5 : x1 = 2
  · have hf := tk_t c5 hf
    refine lv_tableIn (off := 47) (tgt := 48) hx hb dX6_many_1 (by rw [c5]; decide) (by rw [c5]; decide) (by rw [c5]; rfl) (by decide) ?_
    refine lv_aload_n hx hb dX6_many_48 rfl (lv_at hl 0 rfl) ?_
    refine x_get (v := .ref (ad 19)) C h (gX_BM κ ad σ) rfl inX6_many_X6 2 (by decide) (hts _ lkX6_many_27) rfl dX6_many_49 ?_
    refine x_getN (v := .int (σ 19 2)) C h (gX_Rd κ ad σ) rfl inX6_many_X0 2 (by decide) ((hZ.2.2.2.2.2.2.2.1 _ nkRX6_53).use rfl) rfl dX6_many_52 ?_
    obtain rfl := so_ok hf
    exact x_iret C h dX6_many_55
  have hf := tk_f c5 hf
  by_cases c6 : x1 = 3
  · have hf := tk_t c6 hf
    refine lv_tableIn (off := 55) (tgt := 56) hx hb dX6_many_1 (by rw [c6]; decide) (by rw [c6]; decide) (by rw [c6]; rfl) (by decide) ?_
    refine lv_aload_n hx hb dX6_many_56 rfl (lv_at hl 0 rfl) ?_
    refine x_get (v := .ref (ad 10)) C h (gX_BM κ ad σ) rfl inX6_many_X6 1 (by decide) (hts _ lkX6_many_20) rfl dX6_many_57 ?_
    refine x_getN (v := .int (σ 10 9)) C h (gX_Sp κ ad σ) rfl inX6_many_X2 9 (by decide) ((hZ.2.2.2.2.2.2.2.1 _ nkRX6_97).use rfl) rfl dX6_many_60 ?_
    obtain rfl := so_ok hf
    exact x_iret C h dX6_many_63
  have hf := tk_f c6 hf
  have ec1 : ¬ x1.toInt = 0 := sw_ne c1
  have ec2 : ¬ x1.toInt = 1 := sw_ne c2
  have ec5 : ¬ x1.toInt = 2 := sw_ne c5
  have ec6 : ¬ x1.toInt = 3 := sw_ne c6
  refine lv_tableOut (tgt := 64) hx hb dX6_many_1 (by omega) (by decide) ?_
  refine lv_bipush (v := (-2)) hx hb dX6_many_64 (by decide) ?_
  obtain rfl := so_ok hf
  exact x_iret C h dX6_many_66
