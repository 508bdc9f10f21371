-- ===== X7_isSign: ButtonMatchModel.isSign(II)Z
theorem lkX7_isSign_75 : Cond.fieldLink RX7 75 "ButtonMatchModel" "at" "I" ∈ wsX7_isSign := by decide +kernel
theorem inX7_isSign_X7 : ∀ w ∈ wsX70, w ∈ wsX7_isSign := fun _ h => List.mem_cons_of_mem _ (List.mem_append_right _ h)
theorem lkX7_isSign_16 : Cond.fieldLink RX7 16 "ButtonMatchModel" "cells" "[I" ∈ wsX7_isSign := by decide +kernel
def fX7_isSign (x1 : Int32) (x2 : Int32) (σ : Sg) : Option (Int32 × Sg) :=
  (if x1 ≤ (σ 0 20) then some (0, σ) else (if gIn (σ 0 20) 240 then (if (σ 3 ((σ 0 20).toNatClampNeg)) = x2 then some (1, (up2 σ 0 20 ((σ 0 20) + 1))) else some (0, σ)) else none))
set_option maxHeartbeats 4000000 in
set_option maxRecDepth 100000 in
theorem kX7_isSign (l : Launch) (D : va_G) (κ : Kp) (ad : Nat → Nat) (x1 : Int32) (x2 : Int32) (σ : Sg) {r : Int32} {τ : Sg} (hf : fX7_isSign x1 x2 σ = some (r, τ)) : Ci l D κ (wsM κ ad) yX7_isSign wsX7_isSign 0 0 [.ref (ad 0), .int x1, .int x2] σ r τ := by
  refine Ci.of (cc := cX7_isSign) (nL := 3) (ret := (some .boolean)) (by decide) rfl (Nat.le_of_ble_eq_true rfl) ?_
  intro p e s m below meth c A ls C h hl
  obtain ⟨hx, hb, hml, hr, hlk, hown, hts, hK, hA, hZ⟩ := id C
  have hl : lv_has ls 3 [(0, .ref (ad 0)), (1, .int x1), (2, .int x2)] := hl
  unfold fX7_isSign at hf
  refine lv_aload_n hx hb dX7_isSign_0 rfl (lv_at hl 0 rfl) ?_
  refine x_get (v := .int (σ 0 20)) C h (gM_Mo κ ad σ) rfl inX7_isSign_X7 20 (by decide) (hts _ lkX7_isSign_75) rfl dX7_isSign_1 ?_
  refine lv_iload_n hx hb dX7_isSign_4 rfl (lv_at hl 1 rfl) ?_
  refine lv_icmp_ge (tgt := 21) hx hb dX7_isSign_5 (by decide) (fun c1 => ?_) (fun c1 => ?_)
  · have hf := tk_t c1 hf
    refine lv_iconst (v := 0) hx hb dX7_isSign_21 (by decide) ?_
    obtain ⟨rfl, rfl⟩ := pr_ok hf
    exact x_zret C rfl h dX7_isSign_22
  · have hf := tk_f c1 hf
    refine lv_aload_n hx hb dX7_isSign_8 rfl (lv_at hl 0 rfl) ?_
    refine x_get (v := .ref (ad 3)) C h (gM_Mo κ ad σ) rfl inX7_isSign_X7 4 (by decide) (hts _ lkX7_isSign_16) rfl dX7_isSign_9 ?_
    refine lv_aload_n hx hb dX7_isSign_12 rfl (lv_at hl 0 rfl) ?_
    refine x_get (v := .int (σ 0 20)) C h (gM_Mo κ ad σ) rfl inX7_isSign_X7 20 (by decide) (hts _ lkX7_isSign_75) rfl dX7_isSign_13 ?_
    obtain ⟨g2, hf⟩ := gd_ok hf
    refine x_iald (v := (σ 3 ((σ 0 20).toNatClampNeg))) C h (gM_m_cells κ ad σ) g2 rfl dX7_isSign_16 ?_
    refine lv_iload_n hx hb dX7_isSign_17 rfl (lv_at hl 2 rfl) ?_
    refine lv_icmp_eq (tgt := 23) hx hb dX7_isSign_18 (by decide) (fun c3 => ?_) (fun c3 => ?_)
    · have hf := tk_t c3 hf
      refine lv_aload_n hx hb dX7_isSign_23 rfl (lv_at hl 0 rfl) ?_
      refine lv_dup hx hb dX7_isSign_24 rfl ?_
      refine x_get (v := .int (σ 0 20)) C h (gM_Mo κ ad σ) rfl inX7_isSign_X7 20 (by decide) (hts _ lkX7_isSign_75) rfl dX7_isSign_25 ?_
      refine lv_iconst (v := 1) hx hb dX7_isSign_28 (by decide) ?_
      refine lv_iadd hx hb dX7_isSign_29 ?_
      refine x_put C h (gM_Mo κ ad σ) rfl inX7_isSign_X7 tyX7 tyX7_ok nmX7 20 (by decide) (hts _ lkX7_isSign_75) rfl (tyX7_ok 20 (by decide)) (Nat.le_of_ble_eq_true rfl) (sM_Mo_20 κ ad σ ((σ 0 20) + 1)) dX7_isSign_30 (fun H locs h => ?_)
      refine lv_iconst (v := 1) hx hb dX7_isSign_33 (by decide) ?_
      obtain ⟨rfl, rfl⟩ := pr_ok hf
      exact x_zret C rfl h dX7_isSign_34
    · have hf := tk_f c3 hf
      refine lv_iconst (v := 0) hx hb dX7_isSign_21 (by decide) ?_
      obtain ⟨rfl, rfl⟩ := pr_ok hf
      exact x_zret C rfl h dX7_isSign_22

-- ===== X7_readHoles: ButtonMatchModel.readHoles(I)I
theorem lkX7_readHoles_75 : Cond.fieldLink RX7 75 "ButtonMatchModel" "at" "I" ∈ wsX7_readHoles := by decide +kernel
theorem inX7_readHoles_X7 : ∀ w ∈ wsX70, w ∈ wsX7_readHoles := fun _ h => List.mem_cons_of_mem _ (List.mem_append_right _ h)
theorem lkX7_readHoles_16 : Cond.fieldLink RX7 16 "ButtonMatchModel" "cells" "[I" ∈ wsX7_readHoles := by decide +kernel
def fX7_readHoles_39  (σ : Sg) : Option (Int32 × Sg) :=
  (if gIn (((σ 0 20) + 1) - 1) 240 then some (((σ 3 ((((σ 0 20) + 1) - 1).toNatClampNeg)) - 48), (up2 σ 0 20 ((σ 0 20) + 1))) else none)
set_option maxHeartbeats 4000000 in
set_option maxRecDepth 100000 in
theorem jX7_readHoles_39 {p : Program} {l : Launch} {e : Env} {s : State} {m : MethodId} {args : Array Value} {below : List Frame} {meth : Method} {c : Code} {D : va_G} {κ : Kp} {ad : Nat → Nat} {A : Nat → Prop} {r : Int32} {τ : Sg} (C : Mc p s m args meth c cX7_readHoles 2 (some .int) wsX7_readHoles RX7 D κ A)  (σ : Sg) (H : Heap) (locs : List Loc) (ls : Array Slot) (h : Wd D (wsM κ ad) A s.heap H locs σ) (hl : lv_has ls 2 [(0, .ref (ad 0))]) (hf : fX7_readHoles_39  σ = some (r, τ)) : W p l e { frames := 0, cells := 0, slots := 0, locals := 0 } s m args below meth c H locs 0 0 (Qi below args s D (wsM κ ad) A r τ) (F0 m 39 ls []) := by
  obtain ⟨hx, hb, hml, hr, hlk, hown, hts, hK, hA, hZ⟩ := id C
  unfold fX7_readHoles_39 at hf
  refine lv_aload_n hx hb dX7_readHoles_39 rfl (lv_at hl 0 rfl) ?_
  refine lv_dup hx hb dX7_readHoles_40 rfl ?_
  refine x_get (v := .int (σ 0 20)) C h (gM_Mo κ ad σ) rfl inX7_readHoles_X7 20 (by decide) (hts _ lkX7_readHoles_75) rfl dX7_readHoles_41 ?_
  refine lv_iconst (v := 1) hx hb dX7_readHoles_44 (by decide) ?_
  refine lv_iadd hx hb dX7_readHoles_45 ?_
  refine x_put C h (gM_Mo κ ad σ) rfl inX7_readHoles_X7 tyX7 tyX7_ok nmX7 20 (by decide) (hts _ lkX7_readHoles_75) rfl (tyX7_ok 20 (by decide)) (Nat.le_of_ble_eq_true rfl) (sM_Mo_20 κ ad σ ((σ 0 20) + 1)) dX7_readHoles_46 (fun H locs h => ?_)
  refine lv_aload_n hx hb dX7_readHoles_49 rfl (lv_at hl 0 rfl) ?_
  refine x_get (v := .ref (ad 3)) C h (gM_Mo κ ad (up2 σ 0 20 ((σ 0 20) + 1))) rfl inX7_readHoles_X7 4 (by decide) (hts _ lkX7_readHoles_16) rfl dX7_readHoles_50 ?_
  refine lv_aload_n hx hb dX7_readHoles_53 rfl (lv_at hl 0 rfl) ?_
  refine x_get (v := .int ((σ 0 20) + 1)) C h (gM_Mo κ ad (up2 σ 0 20 ((σ 0 20) + 1))) rfl inX7_readHoles_X7 20 (by decide) (hts _ lkX7_readHoles_75) rfl dX7_readHoles_54 ?_
  refine lv_iconst (v := 1) hx hb dX7_readHoles_57 (by decide) ?_
  refine lv_isub hx hb dX7_readHoles_58 ?_
  obtain ⟨g1, hf⟩ := gd_ok hf
  refine x_iald (v := (σ 3 ((((σ 0 20) + 1) - 1).toNatClampNeg))) C h (gM_m_cells κ ad (up2 σ 0 20 ((σ 0 20) + 1))) g1 rfl dX7_readHoles_59 ?_
  refine lv_bipush (v := 48) hx hb dX7_readHoles_60 (by decide) ?_
  refine lv_isub hx hb dX7_readHoles_62 ?_
  obtain ⟨rfl, rfl⟩ := pr_ok hf
  exact x_iret C h dX7_readHoles_63
def fX7_readHoles (x1 : Int32) (σ : Sg) : Option (Int32 × Sg) :=
  (if x1 ≤ (σ 0 20) then some ((-9), σ) else (if gIn (σ 0 20) 240 then (if (σ 3 ((σ 0 20).toNatClampNeg)) = 50 then fX7_readHoles_39 σ else (if (σ 3 ((σ 0 20).toNatClampNeg)) = 52 then fX7_readHoles_39 σ else some ((-9), σ))) else none))
set_option maxHeartbeats 4000000 in
set_option maxRecDepth 100000 in
theorem kX7_readHoles (l : Launch) (D : va_G) (κ : Kp) (ad : Nat → Nat) (x1 : Int32) (σ : Sg) {r : Int32} {τ : Sg} (hf : fX7_readHoles x1 σ = some (r, τ)) : Ci l D κ (wsM κ ad) yX7_readHoles wsX7_readHoles 0 0 [.ref (ad 0), .int x1] σ r τ := by
  refine Ci.of (cc := cX7_readHoles) (nL := 2) (ret := (some .int)) (by decide) rfl (Nat.le_of_ble_eq_true rfl) ?_
  intro p e s m below meth c A ls C h hl
  obtain ⟨hx, hb, hml, hr, hlk, hown, hts, hK, hA, hZ⟩ := id C
  have hl : lv_has ls 2 [(0, .ref (ad 0)), (1, .int x1)] := hl
  unfold fX7_readHoles at hf
  refine lv_aload_n hx hb dX7_readHoles_0 rfl (lv_at hl 0 rfl) ?_
  refine x_get (v := .int (σ 0 20)) C h (gM_Mo κ ad σ) rfl inX7_readHoles_X7 20 (by decide) (hts _ lkX7_readHoles_75) rfl dX7_readHoles_1 ?_
  refine lv_iload_n hx hb dX7_readHoles_4 rfl (lv_at hl 1 rfl) ?_
  refine lv_icmp_ge (tgt := 36) hx hb dX7_readHoles_5 (by decide) (fun c2 => ?_) (fun c2 => ?_)
  · have hf := tk_t c2 hf
    refine lv_bipush (v := (-9)) hx hb dX7_readHoles_36 (by decide) ?_
    obtain ⟨rfl, rfl⟩ := pr_ok hf
    exact x_iret C h dX7_readHoles_38
  · have hf := tk_f c2 hf
    refine lv_aload_n hx hb dX7_readHoles_8 rfl (lv_at hl 0 rfl) ?_
    refine x_get (v := .ref (ad 3)) C h (gM_Mo κ ad σ) rfl inX7_readHoles_X7 4 (by decide) (hts _ lkX7_readHoles_16) rfl dX7_readHoles_9 ?_
    refine lv_aload_n hx hb dX7_readHoles_12 rfl (lv_at hl 0 rfl) ?_
    refine x_get (v := .int (σ 0 20)) C h (gM_Mo κ ad σ) rfl inX7_readHoles_X7 20 (by decide) (hts _ lkX7_readHoles_75) rfl dX7_readHoles_13 ?_
    obtain ⟨g3, hf⟩ := gd_ok hf
    refine x_iald (v := (σ 3 ((σ 0 20).toNatClampNeg))) C h (gM_m_cells κ ad σ) g3 rfl dX7_readHoles_16 ?_
    refine lv_bipush (v := 50) hx hb dX7_readHoles_17 (by decide) ?_
    refine lv_icmp_eq (tgt := 39) hx hb dX7_readHoles_19 (by decide) (fun c4 => ?_) (fun c4 => ?_)
    · have hf := tk_t c4 hf
      exact jX7_readHoles_39 C σ _ _ _ h (lv_sub hl [0] rfl) hf
    · have hf := tk_f c4 hf
      refine lv_aload_n hx hb dX7_readHoles_22 rfl (lv_at hl 0 rfl) ?_
      refine x_get (v := .ref (ad 3)) C h (gM_Mo κ ad σ) rfl inX7_readHoles_X7 4 (by decide) (hts _ lkX7_readHoles_16) rfl dX7_readHoles_23 ?_
      refine lv_aload_n hx hb dX7_readHoles_26 rfl (lv_at hl 0 rfl) ?_
      refine x_get (v := .int (σ 0 20)) C h (gM_Mo κ ad σ) rfl inX7_readHoles_X7 20 (by decide) (hts _ lkX7_readHoles_75) rfl dX7_readHoles_27 ?_
      refine x_iald (v := (σ 3 ((σ 0 20).toNatClampNeg))) C h (gM_m_cells κ ad σ) g3 rfl dX7_readHoles_30 ?_
      refine lv_bipush (v := 52) hx hb dX7_readHoles_31 (by decide) ?_
      refine lv_icmp_eq (tgt := 39) hx hb dX7_readHoles_33 (by decide) (fun c5 => ?_) (fun c5 => ?_)
      · have hf := tk_t c5 hf
        exact jX7_readHoles_39 C σ _ _ _ h (lv_sub hl [0] rfl) hf
      · have hf := tk_f c5 hf
        refine lv_bipush (v := (-9)) hx hb dX7_readHoles_36 (by decide) ?_
        obtain ⟨rfl, rfl⟩ := pr_ok hf
        exact x_iret C h dX7_readHoles_38

-- ===== X7_digit: ButtonMatchModel.digit(III)I
theorem lkX7_digit_75 : Cond.fieldLink RX7 75 "ButtonMatchModel" "at" "I" ∈ wsX7_digit := by decide +kernel
theorem inX7_digit_X7 : ∀ w ∈ wsX70, w ∈ wsX7_digit := fun _ h => List.mem_cons_of_mem _ (List.mem_append_right _ h)
theorem lkX7_digit_16 : Cond.fieldLink RX7 16 "ButtonMatchModel" "cells" "[I" ∈ wsX7_digit := by decide +kernel
def fX7_digit (x1 : Int32) (x2 : Int32) (x3 : Int32) (σ : Sg) : Option (Int32 × Sg) :=
  (if x1 ≤ (σ 0 20) then some ((-9), σ) else (if gIn (σ 0 20) 240 then (if (fX7_within (σ 3 ((σ 0 20).toNatClampNeg)) (48 + x2) (48 + x3) σ) = 0 then some ((-9), σ) else (if gIn (((σ 0 20) + 1) - 1) 240 then some (((σ 3 ((((σ 0 20) + 1) - 1).toNatClampNeg)) - 48), (up2 σ 0 20 ((σ 0 20) + 1))) else none)) else none))
set_option maxHeartbeats 4000000 in
set_option maxRecDepth 100000 in
theorem kX7_digit (l : Launch) (D : va_G) (κ : Kp) (ad : Nat → Nat) (x1 : Int32) (x2 : Int32) (x3 : Int32) (σ : Sg) {r : Int32} {τ : Sg} (hf : fX7_digit x1 x2 x3 σ = some (r, τ)) : Ci l D κ (wsM κ ad) yX7_digit wsX7_digit 1 22 [.ref (ad 0), .int x1, .int x2, .int x3] σ r τ := by
  refine Ci.of (cc := cX7_digit) (nL := 4) (ret := (some .int)) (by decide) rfl (Nat.le_of_ble_eq_true rfl) ?_
  intro p e s m below meth c A ls C h hl
  obtain ⟨hx, hb, hml, hr, hlk, hown, hts, hK, hA, hZ⟩ := id C
  have hl : lv_has ls 4 [(0, .ref (ad 0)), (1, .int x1), (2, .int x2), (3, .int x3)] := hl
  unfold fX7_digit at hf
  refine lv_aload_n hx hb dX7_digit_0 rfl (lv_at hl 0 rfl) ?_
  refine x_get (v := .int (σ 0 20)) C h (gM_Mo κ ad σ) rfl inX7_digit_X7 20 (by decide) (hts _ lkX7_digit_75) rfl dX7_digit_1 ?_
  refine lv_iload_n hx hb dX7_digit_4 rfl (lv_at hl 1 rfl) ?_
  refine lv_icmp_ge (tgt := 31) hx hb dX7_digit_5 (by decide) (fun c1 => ?_) (fun c1 => ?_)
  · have hf := tk_t c1 hf
    refine lv_bipush (v := (-9)) hx hb dX7_digit_31 (by decide) ?_
    obtain ⟨rfl, rfl⟩ := pr_ok hf
    exact x_iret C h dX7_digit_33
  · have hf := tk_f c1 hf
    refine lv_aload_n hx hb dX7_digit_8 rfl (lv_at hl 0 rfl) ?_
    refine x_get (v := .ref (ad 3)) C h (gM_Mo κ ad σ) rfl inX7_digit_X7 4 (by decide) (hts _ lkX7_digit_16) rfl dX7_digit_9 ?_
    refine lv_aload_n hx hb dX7_digit_12 rfl (lv_at hl 0 rfl) ?_
    refine x_get (v := .int (σ 0 20)) C h (gM_Mo κ ad σ) rfl inX7_digit_X7 20 (by decide) (hts _ lkX7_digit_75) rfl dX7_digit_13 ?_
    obtain ⟨g2, hf⟩ := gd_ok hf
    refine x_iald (v := (σ 3 ((σ 0 20).toNatClampNeg))) C h (gM_m_cells κ ad σ) g2 rfl dX7_digit_16 ?_
    refine lv_bipush (v := 48) hx hb dX7_digit_17 (by decide) ?_
    refine lv_iload_n hx hb dX7_digit_19 rfl (lv_at hl 2 rfl) ?_
    refine lv_iadd hx hb dX7_digit_20 ?_
    refine lv_bipush (v := 48) hx hb dX7_digit_21 (by decide) ?_
    refine lv_iload_n hx hb dX7_digit_23 rfl (lv_at hl 3 rfl) ?_
    refine lv_iadd hx hb dX7_digit_24 ?_
    refine x_si (As := [.int (σ 3 ((σ 0 20).toNatClampNeg)), .int (48 + x2), .int (48 + x3)]) (rest := []) C h (kX7_within l D κ ad (σ 3 ((σ 0 20).toNatClampNeg)) (48 + x2) (48 + x3) σ (r := (fX7_within (σ 3 ((σ 0 20).toNatClampNeg)) (48 + x2) (48 + x3) σ)) rfl) (fun hts => va_cwS 3 hts gX7_digit_X7_within rfl rfl rfl (by decide +kernel) ⟨Nat.le_of_ble_eq_true rfl, Nat.le_of_ble_eq_true rfl⟩) rfl hl.1 (Nat.le_of_ble_eq_true rfl) rfl dX7_digit_25 (fun H locs h => ?_)
    refine lv_if_ne (tgt := 34) hx hb dX7_digit_28 (by decide) (fun c3 => ?_) (fun c3 => ?_)
    · have hf := tk_f c3 hf
      refine lv_aload_n hx hb dX7_digit_34 rfl (lv_at hl 0 rfl) ?_
      refine lv_dup hx hb dX7_digit_35 rfl ?_
      refine x_get (v := .int (σ 0 20)) C h (gM_Mo κ ad σ) rfl inX7_digit_X7 20 (by decide) (hts _ lkX7_digit_75) rfl dX7_digit_36 ?_
      refine lv_iconst (v := 1) hx hb dX7_digit_39 (by decide) ?_
      refine lv_iadd hx hb dX7_digit_40 ?_
      refine x_put C h (gM_Mo κ ad σ) rfl inX7_digit_X7 tyX7 tyX7_ok nmX7 20 (by decide) (hts _ lkX7_digit_75) rfl (tyX7_ok 20 (by decide)) (Nat.le_of_ble_eq_true rfl) (sM_Mo_20 κ ad σ ((σ 0 20) + 1)) dX7_digit_41 (fun H locs h => ?_)
      refine lv_aload_n hx hb dX7_digit_44 rfl (lv_at hl 0 rfl) ?_
      refine x_get (v := .ref (ad 3)) C h (gM_Mo κ ad (up2 σ 0 20 ((σ 0 20) + 1))) rfl inX7_digit_X7 4 (by decide) (hts _ lkX7_digit_16) rfl dX7_digit_45 ?_
      refine lv_aload_n hx hb dX7_digit_48 rfl (lv_at hl 0 rfl) ?_
      refine x_get (v := .int ((σ 0 20) + 1)) C h (gM_Mo κ ad (up2 σ 0 20 ((σ 0 20) + 1))) rfl inX7_digit_X7 20 (by decide) (hts _ lkX7_digit_75) rfl dX7_digit_49 ?_
      refine lv_iconst (v := 1) hx hb dX7_digit_52 (by decide) ?_
      refine lv_isub hx hb dX7_digit_53 ?_
      obtain ⟨g4, hf⟩ := gd_ok hf
      refine x_iald (v := (σ 3 ((((σ 0 20) + 1) - 1).toNatClampNeg))) C h (gM_m_cells κ ad (up2 σ 0 20 ((σ 0 20) + 1))) g4 rfl dX7_digit_54 ?_
      refine lv_bipush (v := 48) hx hb dX7_digit_55 (by decide) ?_
      refine lv_isub hx hb dX7_digit_57 ?_
      obtain ⟨rfl, rfl⟩ := pr_ok hf
      exact x_iret C h dX7_digit_58
    · have hf := tk_t c3 hf
      refine lv_bipush (v := (-9)) hx hb dX7_digit_31 (by decide) ?_
      obtain ⟨rfl, rfl⟩ := pr_ok hf
      exact x_iret C h dX7_digit_33

-- ===== X7_readTube: ButtonMatchModel.readTube(I)Z
theorem lkX7_readTube_43 : Cond.fieldLink RX7 43 "ButtonMatchModel" "read" "[I" ∈ wsX7_readTube := by decide +kernel
theorem inX7_readTube_X7 : ∀ w ∈ wsX70, w ∈ wsX7_readTube := fun _ h => List.mem_cons_of_mem _ (List.mem_append_right _ h)
theorem lkX7_readTube_111 : Cond.fieldLink RX7 111 "ButtonMatchModel" "readMany" "I" ∈ wsX7_readTube := by decide +kernel
theorem lkX7_readTube_75 : Cond.fieldLink RX7 75 "ButtonMatchModel" "at" "I" ∈ wsX7_readTube := by decide +kernel
theorem lkX7_readTube_16 : Cond.fieldLink RX7 16 "ButtonMatchModel" "cells" "[I" ∈ wsX7_readTube := by decide +kernel
def fX7_readTube_142 (x1 : Int32) (x2 : Int32) (K94 : Int32 → Sg → Option (Int32 × Sg)) (x4 : Int32) (z0 : Int32) (z1 : Int32) (σ : Sg) : Option (Int32 × Sg) :=
  (if gIn z1 36 then (if gIn (x2 + x4) 36 then (if ((up2 σ 12 z1.toNatClampNeg z0) 12 ((x2 + x4).toNatClampNeg)) = (-9) then some (0, (up2 σ 12 z1.toNatClampNeg z0)) else K94 (x4 + 1) (up2 σ 12 z1.toNatClampNeg z0)) else none) else none)
set_option maxHeartbeats 4000000 in
set_option maxRecDepth 100000 in
theorem jX7_readTube_142 {p : Program} {l : Launch} {e : Env} {s : State} {m : MethodId} {args : Array Value} {below : List Frame} {meth : Method} {c : Code} {D : va_G} {κ : Kp} {ad : Nat → Nat} {A : Nat → Prop} {r : Int32} {τ : Sg} (C : Mc p s m args meth c cX7_readTube 5 (some .boolean) wsX7_readTube RX7 D κ A) (x1 : Int32) (x2 : Int32) (K94 : Int32 → Sg → Option (Int32 × Sg)) (hK94 : ∀ (x4 : Int32) (σ : Sg) (H : Heap) (locs : List Loc) (ls : Array Slot), Wd D (wsM κ ad) A s.heap H locs σ → lv_has ls 5 [(0, .ref (ad 0)), (1, .int x1), (2, .int x2), (4, .int x4)] → K94 x4 σ = some (r, τ) → W p l e { frames := 2, cells := 0, slots := 0, locals := 45 } s m args below meth c H locs 0 0 (Qi below args s D (wsM κ ad) A r τ) (F0 m 94 ls [])) (x4 : Int32) (z0 : Int32) (z1 : Int32) (σ : Sg) (H : Heap) (locs : List Loc) (ls : Array Slot) (h : Wd D (wsM κ ad) A s.heap H locs σ) (hl : lv_has ls 5 [(0, .ref (ad 0)), (1, .int x1), (2, .int x2), (4, .int x4)]) (hf : fX7_readTube_142 x1 x2 K94 x4 z0 z1 σ = some (r, τ)) : W p l e { frames := 2, cells := 0, slots := 0, locals := 45 } s m args below meth c H locs 0 0 (Qi below args s D (wsM κ ad) A r τ) (F0 m 142 ls [.int z0, .int z1, .ref (ad 12)]) := by
  obtain ⟨hx, hb, hml, hr, hlk, hown, hts, hK, hA, hZ⟩ := id C
  unfold fX7_readTube_142 at hf
  obtain ⟨g1, hf⟩ := gd_ok hf
  refine x_iast C h (gM_m_read κ ad σ) (sM_m_read κ ad σ z1.toNatClampNeg z0) g1 dX7_readTube_142 (fun H locs h => ?_)
  refine lv_aload_n hx hb dX7_readTube_143 rfl (lv_at hl 0 rfl) ?_
  refine x_get (v := .ref (ad 12)) C h (gM_Mo κ ad (up2 σ 12 z1.toNatClampNeg z0)) rfl inX7_readTube_X7 23 (by decide) (hts _ lkX7_readTube_43) rfl dX7_readTube_144 ?_
  refine lv_iload_n hx hb dX7_readTube_147 rfl (lv_at hl 2 rfl) ?_
  refine lv_iload hx hb dX7_readTube_148 (lv_at hl 3 rfl) ?_
  refine lv_iadd hx hb dX7_readTube_150 ?_
  obtain ⟨g2, hf⟩ := gd_ok hf
  refine x_iald (v := ((up2 σ 12 z1.toNatClampNeg z0) 12 ((x2 + x4).toNatClampNeg))) C h (gM_m_read κ ad (up2 σ 12 z1.toNatClampNeg z0)) g2 rfl dX7_readTube_151 ?_
  refine lv_bipush (v := (-9)) hx hb dX7_readTube_152 (by decide) ?_
  refine lv_icmp_ne (tgt := 159) hx hb dX7_readTube_154 (by decide) (fun c3 => ?_) (fun c3 => ?_)
  · have hf := tk_f c3 hf
    refine lv_iinc (v := (x4 + 1)) (lv' := [(4, .int (x4 + 1)), (0, .ref (ad 0)), (1, .int x1), (2, .int x2)]) hx hb dX7_readTube_159 hl (k := 3) rfl rfl (by decide) rfl (fun ls hl => ?_)
    refine lv_goto (tgt := 94) hx hb dX7_readTube_162 (by decide) ?_
    exact hK94 (x4 + 1) (up2 σ 12 z1.toNatClampNeg z0) _ _ _ h (lv_sub hl [1, 2, 3, 0] rfl) hf
  · have hf := tk_t c3 hf
    refine lv_iconst (v := 0) hx hb dX7_readTube_157 (by decide) ?_
    obtain ⟨rfl, rfl⟩ := pr_ok hf
    exact x_zret C rfl h dX7_readTube_158
def fX7_readTube_94 (x1 : Int32) (x2 : Int32) : Nat → Int32 → Sg → Option (Int32 × Sg)
  | 0, _, _ => none
  | n + 1, x4, σ => (if 6 ≤ x4 then some (1, (up2 σ 0 21 ((σ 0 21) + 1))) else (if x4 = 3 then ((fX7_readHoles x1 σ).bind fun q12 => fX7_readTube_142 x1 x2 (fX7_readTube_94 x1 x2 n) x4 q12.1 (x2 + x4) q12.2) else (if x4 = 1 then ((fX7_digit x1 0 7 σ).bind fun q10 => fX7_readTube_142 x1 x2 (fX7_readTube_94 x1 x2 n) x4 q10.1 (x2 + x4) q10.2) else ((fX7_digit x1 0 9 σ).bind fun q8 => fX7_readTube_142 x1 x2 (fX7_readTube_94 x1 x2 n) x4 q8.1 (x2 + x4) q8.2))))
set_option maxHeartbeats 4000000 in
set_option maxRecDepth 100000 in
theorem jX7_readTube_94 {p : Program} {l : Launch} {e : Env} {s : State} {m : MethodId} {args : Array Value} {below : List Frame} {meth : Method} {c : Code} {D : va_G} {κ : Kp} {ad : Nat → Nat} {A : Nat → Prop} {r : Int32} {τ : Sg} (C : Mc p s m args meth c cX7_readTube 5 (some .boolean) wsX7_readTube RX7 D κ A) (x1 : Int32) (x2 : Int32) : ∀ (n : Nat) (x4 : Int32) (σ : Sg) (H : Heap) (locs : List Loc) (ls : Array Slot), Wd D (wsM κ ad) A s.heap H locs σ → lv_has ls 5 [(0, .ref (ad 0)), (1, .int x1), (2, .int x2), (4, .int x4)] → fX7_readTube_94 x1 x2 n x4 σ = some (r, τ) → W p l e { frames := 2, cells := 0, slots := 0, locals := 45 } s m args below meth c H locs 0 0 (Qi below args s D (wsM κ ad) A r τ) (F0 m 94 ls []) := by
  obtain ⟨hx, hb, hml, hr, hlk, hown, hts, hK, hA, hZ⟩ := id C
  intro n
  induction n with
  | zero =>
    intro x4 σ H locs ls h hl hf
    rw [fX7_readTube_94] at hf
    cases hf
  | succ n ih =>
    intro x4 σ H locs ls h hl hf
    rw [fX7_readTube_94] at hf
    refine lv_iload hx hb dX7_readTube_94 (lv_at hl 3 rfl) ?_
    refine lv_bipush (v := 6) hx hb dX7_readTube_96 (by decide) ?_
    refine lv_icmp_ge (tgt := 165) hx hb dX7_readTube_98 (by decide) (fun c4 => ?_) (fun c4 => ?_)
    · have hf := tk_t c4 hf
      refine lv_aload_n hx hb dX7_readTube_165 rfl (lv_at hl 0 rfl) ?_
      refine lv_dup hx hb dX7_readTube_166 rfl ?_
      refine x_get (v := .int (σ 0 21)) C h (gM_Mo κ ad σ) rfl inX7_readTube_X7 21 (by decide) (hts _ lkX7_readTube_111) rfl dX7_readTube_167 ?_
      refine lv_iconst (v := 1) hx hb dX7_readTube_170 (by decide) ?_
      refine lv_iadd hx hb dX7_readTube_171 ?_
      refine x_put C h (gM_Mo κ ad σ) rfl inX7_readTube_X7 tyX7 tyX7_ok nmX7 21 (by decide) (hts _ lkX7_readTube_111) rfl (tyX7_ok 21 (by decide)) (Nat.le_of_ble_eq_true rfl) (sM_Mo_21 κ ad σ ((σ 0 21) + 1)) dX7_readTube_172 (fun H locs h => ?_)
      refine lv_iconst (v := 1) hx hb dX7_readTube_175 (by decide) ?_
      obtain ⟨rfl, rfl⟩ := pr_ok hf
      exact x_zret C rfl h dX7_readTube_176
    · have hf := tk_f c4 hf
      refine lv_aload_n hx hb dX7_readTube_101 rfl (lv_at hl 0 rfl) ?_
      refine x_get (v := .ref (ad 12)) C h (gM_Mo κ ad σ) rfl inX7_readTube_X7 23 (by decide) (hts _ lkX7_readTube_43) rfl dX7_readTube_102 ?_
      refine lv_iload_n hx hb dX7_readTube_105 rfl (lv_at hl 2 rfl) ?_
      refine lv_iload hx hb dX7_readTube_106 (lv_at hl 3 rfl) ?_
      refine lv_iadd hx hb dX7_readTube_108 ?_
      refine lv_iload hx hb dX7_readTube_109 (lv_at hl 3 rfl) ?_
      refine lv_iconst (v := 3) hx hb dX7_readTube_111 (by decide) ?_
      refine lv_icmp_ne (tgt := 123) hx hb dX7_readTube_112 (by decide) (fun c5 => ?_) (fun c5 => ?_)
      · have hf := tk_f c5 hf
        refine lv_aload_n hx hb dX7_readTube_123 rfl (lv_at hl 0 rfl) ?_
        refine lv_iload_n hx hb dX7_readTube_124 rfl (lv_at hl 1 rfl) ?_
        refine lv_iconst (v := 0) hx hb dX7_readTube_125 (by decide) ?_
        refine lv_iload hx hb dX7_readTube_126 (lv_at hl 3 rfl) ?_
        refine lv_iconst (v := 1) hx hb dX7_readTube_128 (by decide) ?_
        refine lv_icmp_ne (tgt := 137) hx hb dX7_readTube_129 (by decide) (fun c6 => ?_) (fun c6 => ?_)
        · have hf := tk_f c6 hf
          refine lv_bipush (v := 9) hx hb dX7_readTube_137 (by decide) ?_
          obtain ⟨q8, hg7, hf⟩ := bd_ok hf
          refine x_vi (As := [.int x1, .int 0, .int 9]) (rest := [.int (x2 + x4), .ref (ad 12)]) C h (gM_Mo κ ad σ) rfl (kX7_digit l D κ ad x1 0 9 σ (r := q8.1) (τ := q8.2) hg7) (fun hts => cwV 3 hts gX7_readTube_X7_digit rfl rfl rfl (by decide +kernel) ⟨Nat.le_of_ble_eq_true rfl, Nat.le_of_ble_eq_true rfl⟩) rfl hl.1 (Nat.le_of_ble_eq_true rfl) rfl dX7_readTube_139 (fun H locs h => ?_)
          exact jX7_readTube_142 C x1 x2 (fX7_readTube_94 x1 x2 n) ih x4 q8.1 (x2 + x4) q8.2 _ _ _ h (lv_sub hl [0, 1, 2, 3] rfl) hf
        · have hf := tk_t c6 hf
          refine lv_bipush (v := 7) hx hb dX7_readTube_132 (by decide) ?_
          refine lv_goto (tgt := 139) hx hb dX7_readTube_134 (by decide) ?_
          obtain ⟨q10, hg9, hf⟩ := bd_ok hf
          refine x_vi (As := [.int x1, .int 0, .int 7]) (rest := [.int (x2 + x4), .ref (ad 12)]) C h (gM_Mo κ ad σ) rfl (kX7_digit l D κ ad x1 0 7 σ (r := q10.1) (τ := q10.2) hg9) (fun hts => cwV 3 hts gX7_readTube_X7_digit rfl rfl rfl (by decide +kernel) ⟨Nat.le_of_ble_eq_true rfl, Nat.le_of_ble_eq_true rfl⟩) rfl hl.1 (Nat.le_of_ble_eq_true rfl) rfl dX7_readTube_139 (fun H locs h => ?_)
          exact jX7_readTube_142 C x1 x2 (fX7_readTube_94 x1 x2 n) ih x4 q10.1 (x2 + x4) q10.2 _ _ _ h (lv_sub hl [0, 1, 2, 3] rfl) hf
      · have hf := tk_t c5 hf
        refine lv_aload_n hx hb dX7_readTube_115 rfl (lv_at hl 0 rfl) ?_
        refine lv_iload_n hx hb dX7_readTube_116 rfl (lv_at hl 1 rfl) ?_
        obtain ⟨q12, hg11, hf⟩ := bd_ok hf
        refine x_vi (As := [.int x1]) (rest := [.int (x2 + x4), .ref (ad 12)]) C h (gM_Mo κ ad σ) rfl (kX7_readHoles l D κ ad x1 σ (r := q12.1) (τ := q12.2) hg11) (fun hts => cwV 1 hts gX7_readTube_X7_readHoles rfl rfl rfl (by decide +kernel) ⟨Nat.le_of_ble_eq_true rfl, Nat.le_of_ble_eq_true rfl⟩) rfl hl.1 (Nat.le_of_ble_eq_true rfl) rfl dX7_readTube_117 (fun H locs h => ?_)
        refine lv_goto (tgt := 142) hx hb dX7_readTube_120 (by decide) ?_
        exact jX7_readTube_142 C x1 x2 (fX7_readTube_94 x1 x2 n) ih x4 q12.1 (x2 + x4) q12.2 _ _ _ h (lv_sub hl [0, 1, 2, 3] rfl) hf
def fX7_readTube_67 (x1 : Int32) (x2 : Int32) (z0 : Int32) (z1 : Int32) (σ : Sg) : Option (Int32 × Sg) :=
  (if gIn z1 36 then (if gIn x2 36 then (if ((up2 σ 12 z1.toNatClampNeg z0) 12 x2.toNatClampNeg) = (-9) then some (0, (up2 σ 12 z1.toNatClampNeg z0)) else fX7_readTube_94 x1 x2 1000 1 (up2 (up2 σ 12 z1.toNatClampNeg z0) 0 20 ((σ 0 20) + 1))) else none) else none)
set_option maxHeartbeats 4000000 in
set_option maxRecDepth 100000 in
theorem jX7_readTube_67 {p : Program} {l : Launch} {e : Env} {s : State} {m : MethodId} {args : Array Value} {below : List Frame} {meth : Method} {c : Code} {D : va_G} {κ : Kp} {ad : Nat → Nat} {A : Nat → Prop} {r : Int32} {τ : Sg} (C : Mc p s m args meth c cX7_readTube 5 (some .boolean) wsX7_readTube RX7 D κ A) (x1 : Int32) (x2 : Int32) (z0 : Int32) (z1 : Int32) (σ : Sg) (H : Heap) (locs : List Loc) (ls : Array Slot) (h : Wd D (wsM κ ad) A s.heap H locs σ) (hl : lv_has ls 5 [(0, .ref (ad 0)), (1, .int x1), (2, .int x2)]) (hf : fX7_readTube_67  x1 x2 z0 z1 σ = some (r, τ)) : W p l e { frames := 2, cells := 0, slots := 0, locals := 45 } s m args below meth c H locs 0 0 (Qi below args s D (wsM κ ad) A r τ) (F0 m 67 ls [.int z0, .int z1, .ref (ad 12)]) := by
  obtain ⟨hx, hb, hml, hr, hlk, hown, hts, hK, hA, hZ⟩ := id C
  unfold fX7_readTube_67 at hf
  obtain ⟨g13, hf⟩ := gd_ok hf
  refine x_iast C h (gM_m_read κ ad σ) (sM_m_read κ ad σ z1.toNatClampNeg z0) g13 dX7_readTube_67 (fun H locs h => ?_)
  refine lv_aload_n hx hb dX7_readTube_68 rfl (lv_at hl 0 rfl) ?_
  refine x_get (v := .ref (ad 12)) C h (gM_Mo κ ad (up2 σ 12 z1.toNatClampNeg z0)) rfl inX7_readTube_X7 23 (by decide) (hts _ lkX7_readTube_43) rfl dX7_readTube_69 ?_
  refine lv_iload_n hx hb dX7_readTube_72 rfl (lv_at hl 2 rfl) ?_
  obtain ⟨g14, hf⟩ := gd_ok hf
  refine x_iald (v := ((up2 σ 12 z1.toNatClampNeg z0) 12 x2.toNatClampNeg)) C h (gM_m_read κ ad (up2 σ 12 z1.toNatClampNeg z0)) g14 rfl dX7_readTube_73 ?_
  refine lv_bipush (v := (-9)) hx hb dX7_readTube_74 (by decide) ?_
  refine lv_icmp_ne (tgt := 81) hx hb dX7_readTube_76 (by decide) (fun c15 => ?_) (fun c15 => ?_)
  · have hf := tk_f c15 hf
    refine lv_aload_n hx hb dX7_readTube_81 rfl (lv_at hl 0 rfl) ?_
    refine lv_dup hx hb dX7_readTube_82 rfl ?_
    refine x_get (v := .int (σ 0 20)) C h (gM_Mo κ ad (up2 σ 12 z1.toNatClampNeg z0)) rfl inX7_readTube_X7 20 (by decide) (hts _ lkX7_readTube_75) rfl dX7_readTube_83 ?_
    refine lv_iconst (v := 1) hx hb dX7_readTube_86 (by decide) ?_
    refine lv_iadd hx hb dX7_readTube_87 ?_
    refine x_put C h (gM_Mo κ ad (up2 σ 12 z1.toNatClampNeg z0)) rfl inX7_readTube_X7 tyX7 tyX7_ok nmX7 20 (by decide) (hts _ lkX7_readTube_75) rfl (tyX7_ok 20 (by decide)) (Nat.le_of_ble_eq_true rfl) (sM_Mo_20 κ ad (up2 σ 12 z1.toNatClampNeg z0) ((σ 0 20) + 1)) dX7_readTube_88 (fun H locs h => ?_)
    refine lv_iconst (v := 1) hx hb dX7_readTube_91 (by decide) ?_
    refine lv_istore (lv' := [(4, .int 1), (0, .ref (ad 0)), (1, .int x1), (2, .int x2)]) hx hb dX7_readTube_92 hl (by decide) rfl (fun ls hl => ?_)
    exact jX7_readTube_94 C x1 x2 1000 1 (up2 (up2 σ 12 z1.toNatClampNeg z0) 0 20 ((σ 0 20) + 1)) _ _ _ h (lv_sub hl [1, 2, 3, 0] rfl) hf
  · have hf := tk_t c15 hf
    refine lv_iconst (v := 0) hx hb dX7_readTube_79 (by decide) ?_
    obtain ⟨rfl, rfl⟩ := pr_ok hf
    exact x_zret C rfl h dX7_readTube_80
def fX7_readTube_29 (x1 : Int32) (x2 : Int32) (z0 : Int32) (σ : Sg) : Option (Int32 × Sg) :=
  (if z0 = 116 then fX7_readTube_67 x1 x2 0 x2 σ else (if z0 = 115 then fX7_readTube_67 x1 x2 1 x2 σ else (if z0 = 111 then fX7_readTube_67 x1 x2 2 x2 σ else fX7_readTube_67 x1 x2 (-9) x2 σ)))
set_option maxHeartbeats 4000000 in
set_option maxRecDepth 100000 in
theorem jX7_readTube_29 {p : Program} {l : Launch} {e : Env} {s : State} {m : MethodId} {args : Array Value} {below : List Frame} {meth : Method} {c : Code} {D : va_G} {κ : Kp} {ad : Nat → Nat} {A : Nat → Prop} {r : Int32} {τ : Sg} (C : Mc p s m args meth c cX7_readTube 5 (some .boolean) wsX7_readTube RX7 D κ A) (x1 : Int32) (x2 : Int32) (z0 : Int32) (σ : Sg) (H : Heap) (locs : List Loc) (ls : Array Slot) (h : Wd D (wsM κ ad) A s.heap H locs σ) (hl : lv_has ls 5 [(0, .ref (ad 0)), (1, .int x1), (2, .int x2)]) (hf : fX7_readTube_29  x1 x2 z0 σ = some (r, τ)) : W p l e { frames := 2, cells := 0, slots := 0, locals := 45 } s m args below meth c H locs 0 0 (Qi below args s D (wsM κ ad) A r τ) (F0 m 29 ls [.int z0]) := by
  obtain ⟨hx, hb, hml, hr, hlk, hown, hts, hK, hA, hZ⟩ := id C
  unfold fX7_readTube_29 at hf
  refine lv_istore_n (lv' := [(3, .int z0), (0, .ref (ad 0)), (1, .int x1), (2, .int x2)]) hx hb dX7_readTube_29 rfl hl (by decide) rfl (fun ls hl => ?_)
  refine lv_aload_n hx hb dX7_readTube_30 rfl (lv_at hl 1 rfl) ?_
  refine x_get (v := .ref (ad 12)) C h (gM_Mo κ ad σ) rfl inX7_readTube_X7 23 (by decide) (hts _ lkX7_readTube_43) rfl dX7_readTube_31 ?_
  refine lv_iload_n hx hb dX7_readTube_34 rfl (lv_at hl 3 rfl) ?_
  refine lv_iload_n hx hb dX7_readTube_35 rfl (lv_at hl 0 rfl) ?_
  refine lv_bipush (v := 116) hx hb dX7_readTube_36 (by decide) ?_
  refine lv_icmp_ne (tgt := 45) hx hb dX7_readTube_38 (by decide) (fun c16 => ?_) (fun c16 => ?_)
  · have hf := tk_f c16 hf
    refine lv_iload_n hx hb dX7_readTube_45 rfl (lv_at hl 0 rfl) ?_
    refine lv_bipush (v := 115) hx hb dX7_readTube_46 (by decide) ?_
    refine lv_icmp_ne (tgt := 55) hx hb dX7_readTube_48 (by decide) (fun c17 => ?_) (fun c17 => ?_)
    · have hf := tk_f c17 hf
      refine lv_iload_n hx hb dX7_readTube_55 rfl (lv_at hl 0 rfl) ?_
      refine lv_bipush (v := 111) hx hb dX7_readTube_56 (by decide) ?_
      refine lv_icmp_ne (tgt := 65) hx hb dX7_readTube_58 (by decide) (fun c18 => ?_) (fun c18 => ?_)
      · have hf := tk_f c18 hf
        refine lv_bipush (v := (-9)) hx hb dX7_readTube_65 (by decide) ?_
        exact jX7_readTube_67 C x1 x2 (-9) x2 σ _ _ _ h (lv_sub hl [1, 2, 3] rfl) hf
      · have hf := tk_t c18 hf
        refine lv_iconst (v := 2) hx hb dX7_readTube_61 (by decide) ?_
        refine lv_goto (tgt := 67) hx hb dX7_readTube_62 (by decide) ?_
        exact jX7_readTube_67 C x1 x2 2 x2 σ _ _ _ h (lv_sub hl [1, 2, 3] rfl) hf
    · have hf := tk_t c17 hf
      refine lv_iconst (v := 1) hx hb dX7_readTube_51 (by decide) ?_
      refine lv_goto (tgt := 67) hx hb dX7_readTube_52 (by decide) ?_
      exact jX7_readTube_67 C x1 x2 1 x2 σ _ _ _ h (lv_sub hl [1, 2, 3] rfl) hf
  · have hf := tk_t c16 hf
    refine lv_iconst (v := 0) hx hb dX7_readTube_41 (by decide) ?_
    refine lv_goto (tgt := 67) hx hb dX7_readTube_42 (by decide) ?_
    exact jX7_readTube_67 C x1 x2 0 x2 σ _ _ _ h (lv_sub hl [1, 2, 3] rfl) hf
def fX7_readTube (x1 : Int32) (σ : Sg) : Option (Int32 × Sg) :=
  (if x1 ≤ (σ 0 20) then fX7_readTube_29 x1 (6 * (σ 0 21)) 0 σ else (if gIn (σ 0 20) 240 then fX7_readTube_29 x1 (6 * (σ 0 21)) (σ 3 ((σ 0 20).toNatClampNeg)) σ else none))
set_option maxHeartbeats 4000000 in
set_option maxRecDepth 100000 in
theorem kX7_readTube (l : Launch) (D : va_G) (κ : Kp) (ad : Nat → Nat) (x1 : Int32) (σ : Sg) {r : Int32} {τ : Sg} (hf : fX7_readTube x1 σ = some (r, τ)) : Ci l D κ (wsM κ ad) yX7_readTube wsX7_readTube 2 45 [.ref (ad 0), .int x1] σ r τ := by
  refine Ci.of (cc := cX7_readTube) (nL := 5) (ret := (some .boolean)) (by decide) rfl (Nat.le_of_ble_eq_true rfl) ?_
  intro p e s m below meth c A ls C h hl
  obtain ⟨hx, hb, hml, hr, hlk, hown, hts, hK, hA, hZ⟩ := id C
  have hl : lv_has ls 5 [(0, .ref (ad 0)), (1, .int x1)] := hl
  unfold fX7_readTube at hf
  refine lv_bipush (v := 6) hx hb dX7_readTube_0 (by decide) ?_
  refine lv_aload_n hx hb dX7_readTube_2 rfl (lv_at hl 0 rfl) ?_
  refine x_get (v := .int (σ 0 21)) C h (gM_Mo κ ad σ) rfl inX7_readTube_X7 21 (by decide) (hts _ lkX7_readTube_111) rfl dX7_readTube_3 ?_
  refine lv_imul hx hb dX7_readTube_6 ?_
  refine lv_istore_n (lv' := [(2, .int (6 * (σ 0 21))), (0, .ref (ad 0)), (1, .int x1)]) hx hb dX7_readTube_7 rfl hl (by decide) rfl (fun ls hl => ?_)
  refine lv_aload_n hx hb dX7_readTube_8 rfl (lv_at hl 1 rfl) ?_
  refine x_get (v := .int (σ 0 20)) C h (gM_Mo κ ad σ) rfl inX7_readTube_X7 20 (by decide) (hts _ lkX7_readTube_75) rfl dX7_readTube_9 ?_
  refine lv_iload_n hx hb dX7_readTube_12 rfl (lv_at hl 2 rfl) ?_
  refine lv_icmp_ge (tgt := 28) hx hb dX7_readTube_13 (by decide) (fun c19 => ?_) (fun c19 => ?_)
  · have hf := tk_t c19 hf
    refine lv_iconst (v := 0) hx hb dX7_readTube_28 (by decide) ?_
    exact jX7_readTube_29 C x1 (6 * (σ 0 21)) 0 σ _ _ _ h (lv_sub hl [1, 2, 0] rfl) hf
  · have hf := tk_f c19 hf
    refine lv_aload_n hx hb dX7_readTube_16 rfl (lv_at hl 1 rfl) ?_
    refine x_get (v := .ref (ad 3)) C h (gM_Mo κ ad σ) rfl inX7_readTube_X7 4 (by decide) (hts _ lkX7_readTube_16) rfl dX7_readTube_17 ?_
    refine lv_aload_n hx hb dX7_readTube_20 rfl (lv_at hl 1 rfl) ?_
    refine x_get (v := .int (σ 0 20)) C h (gM_Mo κ ad σ) rfl inX7_readTube_X7 20 (by decide) (hts _ lkX7_readTube_75) rfl dX7_readTube_21 ?_
    obtain ⟨g20, hf⟩ := gd_ok hf
    refine x_iald (v := (σ 3 ((σ 0 20).toNatClampNeg))) C h (gM_m_cells κ ad σ) g20 rfl dX7_readTube_24 ?_
    refine lv_goto (tgt := 29) hx hb dX7_readTube_25 (by decide) ?_
    exact jX7_readTube_29 C x1 (6 * (σ 0 21)) (σ 3 ((σ 0 20).toNatClampNeg)) σ _ _ _ h (lv_sub hl [1, 2, 0] rfl) hf

-- ===== X7_readShop: ButtonMatchModel.readShop(I)Z
theorem lkX7_readShop_75 : Cond.fieldLink RX7 75 "ButtonMatchModel" "at" "I" ∈ wsX7_readShop := by decide +kernel
theorem inX7_readShop_X7 : ∀ w ∈ wsX70, w ∈ wsX7_readShop := fun _ h => List.mem_cons_of_mem _ (List.mem_append_right _ h)
theorem lkX7_readShop_111 : Cond.fieldLink RX7 111 "ButtonMatchModel" "readMany" "I" ∈ wsX7_readShop := by decide +kernel
theorem lkX7_readShop_40 : Cond.fieldLink RX7 40 "ButtonMatchModel" "readHead" "[I" ∈ wsX7_readShop := by decide +kernel
def fX7_readShop_124 (x1 : Int32) (σ : Sg) : Option (Int32 × Sg) :=
  (if (σ 0 20) = x1 then some (1, σ) else some (0, σ))
set_option maxHeartbeats 4000000 in
set_option maxRecDepth 100000 in
theorem jX7_readShop_124 {p : Program} {l : Launch} {e : Env} {s : State} {m : MethodId} {args : Array Value} {below : List Frame} {meth : Method} {c : Code} {D : va_G} {κ : Kp} {ad : Nat → Nat} {A : Nat → Prop} {r : Int32} {τ : Sg} (C : Mc p s m args meth c cX7_readShop 3 (some .boolean) wsX7_readShop RX7 D κ A) (x1 : Int32) (σ : Sg) (H : Heap) (locs : List Loc) (ls : Array Slot) (h : Wd D (wsM κ ad) A s.heap H locs σ) (hl : lv_has ls 3 [(0, .ref (ad 0)), (1, .int x1)]) (hf : fX7_readShop_124  x1 σ = some (r, τ)) : W p l e { frames := 3, cells := 0, slots := 0, locals := 69 } s m args below meth c H locs 0 0 (Qi below args s D (wsM κ ad) A r τ) (F0 m 124 ls []) := by
  obtain ⟨hx, hb, hml, hr, hlk, hown, hts, hK, hA, hZ⟩ := id C
  unfold fX7_readShop_124 at hf
  refine lv_aload_n hx hb dX7_readShop_124 rfl (lv_at hl 0 rfl) ?_
  refine x_get (v := .int (σ 0 20)) C h (gM_Mo κ ad σ) rfl inX7_readShop_X7 20 (by decide) (hts _ lkX7_readShop_75) rfl dX7_readShop_125 ?_
  refine lv_iload_n hx hb dX7_readShop_128 rfl (lv_at hl 1 rfl) ?_
  refine lv_icmp_ne (tgt := 136) hx hb dX7_readShop_129 (by decide) (fun c1 => ?_) (fun c1 => ?_)
  · have hf := tk_f c1 hf
    refine lv_iconst (v := 0) hx hb dX7_readShop_136 (by decide) ?_
    obtain ⟨rfl, rfl⟩ := pr_ok hf
    exact x_zret C rfl h dX7_readShop_137
  · have hf := tk_t c1 hf
    refine lv_iconst (v := 1) hx hb dX7_readShop_132 (by decide) ?_
    refine lv_goto (tgt := 137) hx hb dX7_readShop_133 (by decide) ?_
    obtain ⟨rfl, rfl⟩ := pr_ok hf
    exact x_zret C rfl h dX7_readShop_137
def fX7_readShop_104 (x1 : Int32) (K80 : Sg → Option (Int32 × Sg))  (σ : Sg) : Option (Int32 × Sg) :=
  ((fX7_isSign x1 59 σ).bind fun q3 => (if q3.1 = 0 then some (0, q3.2) else ((fX7_readTube x1 q3.2).bind fun q6 => (if q6.1 = 0 then some (0, q6.2) else K80 q6.2))))
set_option maxHeartbeats 4000000 in
set_option maxRecDepth 100000 in
theorem jX7_readShop_104 {p : Program} {l : Launch} {e : Env} {s : State} {m : MethodId} {args : Array Value} {below : List Frame} {meth : Method} {c : Code} {D : va_G} {κ : Kp} {ad : Nat → Nat} {A : Nat → Prop} {r : Int32} {τ : Sg} (C : Mc p s m args meth c cX7_readShop 3 (some .boolean) wsX7_readShop RX7 D κ A) (x1 : Int32) (K80 : Sg → Option (Int32 × Sg)) (hK80 : ∀ (σ : Sg) (H : Heap) (locs : List Loc) (ls : Array Slot), Wd D (wsM κ ad) A s.heap H locs σ → lv_has ls 3 [(0, .ref (ad 0)), (1, .int x1)] → K80  σ = some (r, τ) → W p l e { frames := 3, cells := 0, slots := 0, locals := 69 } s m args below meth c H locs 0 0 (Qi below args s D (wsM κ ad) A r τ) (F0 m 80 ls []))  (σ : Sg) (H : Heap) (locs : List Loc) (ls : Array Slot) (h : Wd D (wsM κ ad) A s.heap H locs σ) (hl : lv_has ls 3 [(0, .ref (ad 0)), (1, .int x1)]) (hf : fX7_readShop_104 x1 K80 σ = some (r, τ)) : W p l e { frames := 3, cells := 0, slots := 0, locals := 69 } s m args below meth c H locs 0 0 (Qi below args s D (wsM κ ad) A r τ) (F0 m 104 ls []) := by
  obtain ⟨hx, hb, hml, hr, hlk, hown, hts, hK, hA, hZ⟩ := id C
  unfold fX7_readShop_104 at hf
  refine lv_aload_n hx hb dX7_readShop_104 rfl (lv_at hl 0 rfl) ?_
  refine lv_iload_n hx hb dX7_readShop_105 rfl (lv_at hl 1 rfl) ?_
  refine lv_bipush (v := 59) hx hb dX7_readShop_106 (by decide) ?_
  obtain ⟨q3, hg2, hf⟩ := bd_ok hf
  refine x_vi (As := [.int x1, .int 59]) (rest := []) C h (gM_Mo κ ad σ) rfl (kX7_isSign l D κ ad x1 59 σ (r := q3.1) (τ := q3.2) hg2) (fun hts => cwV 2 hts gX7_readShop_X7_isSign rfl rfl rfl (by decide +kernel) ⟨Nat.le_of_ble_eq_true rfl, Nat.le_of_ble_eq_true rfl⟩) rfl hl.1 (Nat.le_of_ble_eq_true rfl) rfl dX7_readShop_108 (fun H locs h => ?_)
  refine lv_if_eq (tgt := 122) hx hb dX7_readShop_111 (by decide) (fun c4 => ?_) (fun c4 => ?_)
  · have hf := tk_t c4 hf
    refine lv_iconst (v := 0) hx hb dX7_readShop_122 (by decide) ?_
    obtain ⟨rfl, rfl⟩ := pr_ok hf
    exact x_zret C rfl h dX7_readShop_123
  · have hf := tk_f c4 hf
    refine lv_aload_n hx hb dX7_readShop_114 rfl (lv_at hl 0 rfl) ?_
    refine lv_iload_n hx hb dX7_readShop_115 rfl (lv_at hl 1 rfl) ?_
    obtain ⟨q6, hg5, hf⟩ := bd_ok hf
    refine x_vi (As := [.int x1]) (rest := []) C h (gM_Mo κ ad q3.2) rfl (kX7_readTube l D κ ad x1 q3.2 (r := q6.1) (τ := q6.2) hg5) (fun hts => cwV 1 hts gX7_readShop_X7_readTube rfl rfl rfl (by decide +kernel) ⟨Nat.le_of_ble_eq_true rfl, Nat.le_of_ble_eq_true rfl⟩) rfl hl.1 (Nat.le_of_ble_eq_true rfl) rfl dX7_readShop_116 (fun H locs h => ?_)
    refine lv_if_ne (tgt := 80) hx hb dX7_readShop_119 (by decide) (fun c7 => ?_) (fun c7 => ?_)
    · have hf := tk_f c7 hf
      exact hK80 q6.2 _ _ _ h (lv_sub hl [0, 1] rfl) hf
    · have hf := tk_t c7 hf
      refine lv_iconst (v := 0) hx hb dX7_readShop_122 (by decide) ?_
      obtain ⟨rfl, rfl⟩ := pr_ok hf
      exact x_zret C rfl h dX7_readShop_123
def fX7_readShop_80 (x1 : Int32) : Nat → Sg → Option (Int32 × Sg)
  | 0, _ => none
  | n + 1, σ => (if (σ 0 21) = 0 then fX7_readShop_104 x1 (fX7_readShop_80 x1 n) σ else (if 6 ≤ (σ 0 21) then fX7_readShop_124 x1 σ else (if x1 ≤ (σ 0 20) then fX7_readShop_124 x1 σ else fX7_readShop_104 x1 (fX7_readShop_80 x1 n) σ)))
set_option maxHeartbeats 4000000 in
set_option maxRecDepth 100000 in
theorem jX7_readShop_80 {p : Program} {l : Launch} {e : Env} {s : State} {m : MethodId} {args : Array Value} {below : List Frame} {meth : Method} {c : Code} {D : va_G} {κ : Kp} {ad : Nat → Nat} {A : Nat → Prop} {r : Int32} {τ : Sg} (C : Mc p s m args meth c cX7_readShop 3 (some .boolean) wsX7_readShop RX7 D κ A) (x1 : Int32) : ∀ (n : Nat)  (σ : Sg) (H : Heap) (locs : List Loc) (ls : Array Slot), Wd D (wsM κ ad) A s.heap H locs σ → lv_has ls 3 [(0, .ref (ad 0)), (1, .int x1)] → fX7_readShop_80 x1 n σ = some (r, τ) → W p l e { frames := 3, cells := 0, slots := 0, locals := 69 } s m args below meth c H locs 0 0 (Qi below args s D (wsM κ ad) A r τ) (F0 m 80 ls []) := by
  obtain ⟨hx, hb, hml, hr, hlk, hown, hts, hK, hA, hZ⟩ := id C
  intro n
  induction n with
  | zero =>
    intro σ H locs ls h hl hf
    rw [fX7_readShop_80] at hf
    cases hf
  | succ n ih =>
    intro σ H locs ls h hl hf
    rw [fX7_readShop_80] at hf
    refine lv_aload_n hx hb dX7_readShop_80 rfl (lv_at hl 0 rfl) ?_
    refine x_get (v := .int (σ 0 21)) C h (gM_Mo κ ad σ) rfl inX7_readShop_X7 21 (by decide) (hts _ lkX7_readShop_111) rfl dX7_readShop_81 ?_
    refine lv_if_eq (tgt := 104) hx hb dX7_readShop_84 (by decide) (fun c8 => ?_) (fun c8 => ?_)
    · have hf := tk_t c8 hf
      exact jX7_readShop_104 C x1 (fX7_readShop_80 x1 n) ih σ _ _ _ h (lv_sub hl [0, 1] rfl) hf
    · have hf := tk_f c8 hf
      refine lv_aload_n hx hb dX7_readShop_87 rfl (lv_at hl 0 rfl) ?_
      refine x_get (v := .int (σ 0 21)) C h (gM_Mo κ ad σ) rfl inX7_readShop_X7 21 (by decide) (hts _ lkX7_readShop_111) rfl dX7_readShop_88 ?_
      refine lv_bipush (v := 6) hx hb dX7_readShop_91 (by decide) ?_
      refine lv_icmp_ge (tgt := 124) hx hb dX7_readShop_93 (by decide) (fun c9 => ?_) (fun c9 => ?_)
      · have hf := tk_t c9 hf
        exact jX7_readShop_124 C x1 σ _ _ _ h (lv_sub hl [0, 1] rfl) hf
      · have hf := tk_f c9 hf
        refine lv_aload_n hx hb dX7_readShop_96 rfl (lv_at hl 0 rfl) ?_
        refine x_get (v := .int (σ 0 20)) C h (gM_Mo κ ad σ) rfl inX7_readShop_X7 20 (by decide) (hts _ lkX7_readShop_75) rfl dX7_readShop_97 ?_
        refine lv_iload_n hx hb dX7_readShop_100 rfl (lv_at hl 1 rfl) ?_
        refine lv_icmp_ge (tgt := 124) hx hb dX7_readShop_101 (by decide) (fun c10 => ?_) (fun c10 => ?_)
        · have hf := tk_t c10 hf
          exact jX7_readShop_124 C x1 σ _ _ _ h (lv_sub hl [0, 1] rfl) hf
        · have hf := tk_f c10 hf
          exact jX7_readShop_104 C x1 (fX7_readShop_80 x1 n) ih σ _ _ _ h (lv_sub hl [0, 1] rfl) hf
def fX7_readShop_60 (x1 : Int32) (K19 : Int32 → Sg → Option (Int32 × Sg)) (x2 : Int32) (z0 : Int32) (z1 : Int32) (σ : Sg) : Option (Int32 × Sg) :=
  (if gIn z1 10 then (if gIn x2 10 then (if ((up2 σ 11 z1.toNatClampNeg z0) 11 x2.toNatClampNeg) = (-9) then some (0, (up2 σ 11 z1.toNatClampNeg z0)) else K19 (x2 + 1) (up2 σ 11 z1.toNatClampNeg z0)) else none) else none)
set_option maxHeartbeats 4000000 in
set_option maxRecDepth 100000 in
theorem jX7_readShop_60 {p : Program} {l : Launch} {e : Env} {s : State} {m : MethodId} {args : Array Value} {below : List Frame} {meth : Method} {c : Code} {D : va_G} {κ : Kp} {ad : Nat → Nat} {A : Nat → Prop} {r : Int32} {τ : Sg} (C : Mc p s m args meth c cX7_readShop 3 (some .boolean) wsX7_readShop RX7 D κ A) (x1 : Int32) (K19 : Int32 → Sg → Option (Int32 × Sg)) (hK19 : ∀ (x2 : Int32) (σ : Sg) (H : Heap) (locs : List Loc) (ls : Array Slot), Wd D (wsM κ ad) A s.heap H locs σ → lv_has ls 3 [(0, .ref (ad 0)), (1, .int x1), (2, .int x2)] → K19 x2 σ = some (r, τ) → W p l e { frames := 3, cells := 0, slots := 0, locals := 69 } s m args below meth c H locs 0 0 (Qi below args s D (wsM κ ad) A r τ) (F0 m 19 ls [])) (x2 : Int32) (z0 : Int32) (z1 : Int32) (σ : Sg) (H : Heap) (locs : List Loc) (ls : Array Slot) (h : Wd D (wsM κ ad) A s.heap H locs σ) (hl : lv_has ls 3 [(0, .ref (ad 0)), (1, .int x1), (2, .int x2)]) (hf : fX7_readShop_60 x1 K19 x2 z0 z1 σ = some (r, τ)) : W p l e { frames := 3, cells := 0, slots := 0, locals := 69 } s m args below meth c H locs 0 0 (Qi below args s D (wsM κ ad) A r τ) (F0 m 60 ls [.int z0, .int z1, .ref (ad 11)]) := by
  obtain ⟨hx, hb, hml, hr, hlk, hown, hts, hK, hA, hZ⟩ := id C
  unfold fX7_readShop_60 at hf
  obtain ⟨g11, hf⟩ := gd_ok hf
  refine x_iast C h (gM_m_readHead κ ad σ) (sM_m_readHead κ ad σ z1.toNatClampNeg z0) g11 dX7_readShop_60 (fun H locs h => ?_)
  refine lv_aload_n hx hb dX7_readShop_61 rfl (lv_at hl 0 rfl) ?_
  refine x_get (v := .ref (ad 11)) C h (gM_Mo κ ad (up2 σ 11 z1.toNatClampNeg z0)) rfl inX7_readShop_X7 22 (by decide) (hts _ lkX7_readShop_40) rfl dX7_readShop_62 ?_
  refine lv_iload_n hx hb dX7_readShop_65 rfl (lv_at hl 2 rfl) ?_
  obtain ⟨g12, hf⟩ := gd_ok hf
  refine x_iald (v := ((up2 σ 11 z1.toNatClampNeg z0) 11 x2.toNatClampNeg)) C h (gM_m_readHead κ ad (up2 σ 11 z1.toNatClampNeg z0)) g12 rfl dX7_readShop_66 ?_
  refine lv_bipush (v := (-9)) hx hb dX7_readShop_67 (by decide) ?_
  refine lv_icmp_ne (tgt := 74) hx hb dX7_readShop_69 (by decide) (fun c13 => ?_) (fun c13 => ?_)
  · have hf := tk_f c13 hf
    refine lv_iinc (v := (x2 + 1)) (lv' := [(2, .int (x2 + 1)), (0, .ref (ad 0)), (1, .int x1)]) hx hb dX7_readShop_74 hl (k := 2) rfl rfl (by decide) rfl (fun ls hl => ?_)
    refine lv_goto (tgt := 19) hx hb dX7_readShop_77 (by decide) ?_
    exact hK19 (x2 + 1) (up2 σ 11 z1.toNatClampNeg z0) _ _ _ h (lv_sub hl [1, 2, 0] rfl) hf
  · have hf := tk_t c13 hf
    refine lv_iconst (v := 0) hx hb dX7_readShop_72 (by decide) ?_
    obtain ⟨rfl, rfl⟩ := pr_ok hf
    exact x_zret C rfl h dX7_readShop_73
def fX7_readShop_19 (x1 : Int32) : Nat → Int32 → Sg → Option (Int32 × Sg)
  | 0, _, _ => none
  | n + 1, x2, σ => (if 10 ≤ x2 then fX7_readShop_80 x1 1000 σ else (if x2 = 2 then ((fX7_readHoles x1 σ).bind fun q22 => fX7_readShop_60 x1 (fX7_readShop_19 x1 n) x2 q22.1 x2 q22.2) else (if x2 = 0 then ((fX7_digit x1 0 7 σ).bind fun q20 => fX7_readShop_60 x1 (fX7_readShop_19 x1 n) x2 q20.1 x2 q20.2) else ((fX7_digit x1 0 9 σ).bind fun q18 => fX7_readShop_60 x1 (fX7_readShop_19 x1 n) x2 q18.1 x2 q18.2))))
set_option maxHeartbeats 4000000 in
set_option maxRecDepth 100000 in
theorem jX7_readShop_19 {p : Program} {l : Launch} {e : Env} {s : State} {m : MethodId} {args : Array Value} {below : List Frame} {meth : Method} {c : Code} {D : va_G} {κ : Kp} {ad : Nat → Nat} {A : Nat → Prop} {r : Int32} {τ : Sg} (C : Mc p s m args meth c cX7_readShop 3 (some .boolean) wsX7_readShop RX7 D κ A) (x1 : Int32) : ∀ (n : Nat) (x2 : Int32) (σ : Sg) (H : Heap) (locs : List Loc) (ls : Array Slot), Wd D (wsM κ ad) A s.heap H locs σ → lv_has ls 3 [(0, .ref (ad 0)), (1, .int x1), (2, .int x2)] → fX7_readShop_19 x1 n x2 σ = some (r, τ) → W p l e { frames := 3, cells := 0, slots := 0, locals := 69 } s m args below meth c H locs 0 0 (Qi below args s D (wsM κ ad) A r τ) (F0 m 19 ls []) := by
  obtain ⟨hx, hb, hml, hr, hlk, hown, hts, hK, hA, hZ⟩ := id C
  intro n
  induction n with
  | zero =>
    intro x2 σ H locs ls h hl hf
    rw [fX7_readShop_19] at hf
    cases hf
  | succ n ih =>
    intro x2 σ H locs ls h hl hf
    rw [fX7_readShop_19] at hf
    refine lv_iload_n hx hb dX7_readShop_19 rfl (lv_at hl 2 rfl) ?_
    refine lv_bipush (v := 10) hx hb dX7_readShop_20 (by decide) ?_
    refine lv_icmp_ge (tgt := 80) hx hb dX7_readShop_22 (by decide) (fun c14 => ?_) (fun c14 => ?_)
    · have hf := tk_t c14 hf
      exact jX7_readShop_80 C x1 1000 σ _ _ _ h (lv_sub hl [0, 1] rfl) hf
    · have hf := tk_f c14 hf
      refine lv_aload_n hx hb dX7_readShop_25 rfl (lv_at hl 0 rfl) ?_
      refine x_get (v := .ref (ad 11)) C h (gM_Mo κ ad σ) rfl inX7_readShop_X7 22 (by decide) (hts _ lkX7_readShop_40) rfl dX7_readShop_26 ?_
      refine lv_iload_n hx hb dX7_readShop_29 rfl (lv_at hl 2 rfl) ?_
      refine lv_iload_n hx hb dX7_readShop_30 rfl (lv_at hl 2 rfl) ?_
      refine lv_iconst (v := 2) hx hb dX7_readShop_31 (by decide) ?_
      refine lv_icmp_ne (tgt := 43) hx hb dX7_readShop_32 (by decide) (fun c15 => ?_) (fun c15 => ?_)
      · have hf := tk_f c15 hf
        refine lv_aload_n hx hb dX7_readShop_43 rfl (lv_at hl 0 rfl) ?_
        refine lv_iload_n hx hb dX7_readShop_44 rfl (lv_at hl 1 rfl) ?_
        refine lv_iconst (v := 0) hx hb dX7_readShop_45 (by decide) ?_
        refine lv_iload_n hx hb dX7_readShop_46 rfl (lv_at hl 2 rfl) ?_
        refine lv_if_ne (tgt := 55) hx hb dX7_readShop_47 (by decide) (fun c16 => ?_) (fun c16 => ?_)
        · have hf := tk_f c16 hf
          refine lv_bipush (v := 9) hx hb dX7_readShop_55 (by decide) ?_
          obtain ⟨q18, hg17, hf⟩ := bd_ok hf
          refine x_vi (As := [.int x1, .int 0, .int 9]) (rest := [.int x2, .ref (ad 11)]) C h (gM_Mo κ ad σ) rfl (kX7_digit l D κ ad x1 0 9 σ (r := q18.1) (τ := q18.2) hg17) (fun hts => cwV 3 hts gX7_readShop_X7_digit rfl rfl rfl (by decide +kernel) ⟨Nat.le_of_ble_eq_true rfl, Nat.le_of_ble_eq_true rfl⟩) rfl hl.1 (Nat.le_of_ble_eq_true rfl) rfl dX7_readShop_57 (fun H locs h => ?_)
          exact jX7_readShop_60 C x1 (fX7_readShop_19 x1 n) ih x2 q18.1 x2 q18.2 _ _ _ h (lv_sub hl [0, 1, 2] rfl) hf
        · have hf := tk_t c16 hf
          refine lv_bipush (v := 7) hx hb dX7_readShop_50 (by decide) ?_
          refine lv_goto (tgt := 57) hx hb dX7_readShop_52 (by decide) ?_
          obtain ⟨q20, hg19, hf⟩ := bd_ok hf
          refine x_vi (As := [.int x1, .int 0, .int 7]) (rest := [.int x2, .ref (ad 11)]) C h (gM_Mo κ ad σ) rfl (kX7_digit l D κ ad x1 0 7 σ (r := q20.1) (τ := q20.2) hg19) (fun hts => cwV 3 hts gX7_readShop_X7_digit rfl rfl rfl (by decide +kernel) ⟨Nat.le_of_ble_eq_true rfl, Nat.le_of_ble_eq_true rfl⟩) rfl hl.1 (Nat.le_of_ble_eq_true rfl) rfl dX7_readShop_57 (fun H locs h => ?_)
          exact jX7_readShop_60 C x1 (fX7_readShop_19 x1 n) ih x2 q20.1 x2 q20.2 _ _ _ h (lv_sub hl [0, 1, 2] rfl) hf
      · have hf := tk_t c15 hf
        refine lv_aload_n hx hb dX7_readShop_35 rfl (lv_at hl 0 rfl) ?_
        refine lv_iload_n hx hb dX7_readShop_36 rfl (lv_at hl 1 rfl) ?_
        obtain ⟨q22, hg21, hf⟩ := bd_ok hf
        refine x_vi (As := [.int x1]) (rest := [.int x2, .ref (ad 11)]) C h (gM_Mo κ ad σ) rfl (kX7_readHoles l D κ ad x1 σ (r := q22.1) (τ := q22.2) hg21) (fun hts => cwV 1 hts gX7_readShop_X7_readHoles rfl rfl rfl (by decide +kernel) ⟨Nat.le_of_ble_eq_true rfl, Nat.le_of_ble_eq_true rfl⟩) rfl hl.1 (Nat.le_of_ble_eq_true rfl) rfl dX7_readShop_37 (fun H locs h => ?_)
        refine lv_goto (tgt := 60) hx hb dX7_readShop_40 (by decide) ?_
        exact jX7_readShop_60 C x1 (fX7_readShop_19 x1 n) ih x2 q22.1 x2 q22.2 _ _ _ h (lv_sub hl [0, 1, 2] rfl) hf
def fX7_readShop (x1 : Int32) (σ : Sg) : Option (Int32 × Sg) :=
  ((fX7_isSign x1 98 (up2 σ 0 21 0)).bind fun q24 => (if q24.1 = 0 then some (0, q24.2) else fX7_readShop_19 x1 1000 0 q24.2))
set_option maxHeartbeats 4000000 in
set_option maxRecDepth 100000 in
theorem kX7_readShop (l : Launch) (D : va_G) (κ : Kp) (ad : Nat → Nat) (x1 : Int32) (σ : Sg) {r : Int32} {τ : Sg} (hf : fX7_readShop x1 σ = some (r, τ)) : Ci l D κ (wsM κ ad) yX7_readShop wsX7_readShop 3 69 [.ref (ad 0), .int x1] σ r τ := by
  refine Ci.of (cc := cX7_readShop) (nL := 3) (ret := (some .boolean)) (by decide) rfl (Nat.le_of_ble_eq_true rfl) ?_
  intro p e s m below meth c A ls C h hl
  obtain ⟨hx, hb, hml, hr, hlk, hown, hts, hK, hA, hZ⟩ := id C
  have hl : lv_has ls 3 [(0, .ref (ad 0)), (1, .int x1)] := hl
  unfold fX7_readShop at hf
  refine lv_aload_n hx hb dX7_readShop_0 rfl (lv_at hl 0 rfl) ?_
  refine lv_iconst (v := 0) hx hb dX7_readShop_1 (by decide) ?_
  refine x_put C h (gM_Mo κ ad σ) rfl inX7_readShop_X7 tyX7 tyX7_ok nmX7 21 (by decide) (hts _ lkX7_readShop_111) rfl (tyX7_ok 21 (by decide)) (Nat.le_of_ble_eq_true rfl) (sM_Mo_21 κ ad σ 0) dX7_readShop_2 (fun H locs h => ?_)
  refine lv_aload_n hx hb dX7_readShop_5 rfl (lv_at hl 0 rfl) ?_
  refine lv_iload_n hx hb dX7_readShop_6 rfl (lv_at hl 1 rfl) ?_
  refine lv_bipush (v := 98) hx hb dX7_readShop_7 (by decide) ?_
  obtain ⟨q24, hg23, hf⟩ := bd_ok hf
  refine x_vi (As := [.int x1, .int 98]) (rest := []) C h (gM_Mo κ ad (up2 σ 0 21 0)) rfl (kX7_isSign l D κ ad x1 98 (up2 σ 0 21 0) (r := q24.1) (τ := q24.2) hg23) (fun hts => cwV 2 hts gX7_readShop_X7_isSign rfl rfl rfl (by decide +kernel) ⟨Nat.le_of_ble_eq_true rfl, Nat.le_of_ble_eq_true rfl⟩) rfl hl.1 (Nat.le_of_ble_eq_true rfl) rfl dX7_readShop_9 (fun H locs h => ?_)
  refine lv_if_ne (tgt := 17) hx hb dX7_readShop_12 (by decide) (fun c25 => ?_) (fun c25 => ?_)
  · have hf := tk_f c25 hf
    refine lv_iconst (v := 0) hx hb dX7_readShop_17 (by decide) ?_
    refine lv_istore_n (lv' := [(2, .int 0), (0, .ref (ad 0)), (1, .int x1)]) hx hb dX7_readShop_18 rfl hl (by decide) rfl (fun ls hl => ?_)
    exact jX7_readShop_19 C x1 1000 0 q24.2 _ _ _ h (lv_sub hl [1, 2, 0] rfl) hf
  · have hf := tk_t c25 hf
    refine lv_iconst (v := 0) hx hb dX7_readShop_15 (by decide) ?_
    obtain ⟨rfl, rfl⟩ := pr_ok hf
    exact x_zret C rfl h dX7_readShop_16

-- ===== X7_takeShop: ButtonMatchModel.takeShop()V
theorem lkX7_takeShop_72 : Cond.fieldLink RX7 72 "ButtonMatchModel" "tubes" "I" ∈ wsX7_takeShop := by decide +kernel
theorem inX7_takeShop_X7 : ∀ w ∈ wsX70, w ∈ wsX7_takeShop := fun _ h => List.mem_cons_of_mem _ (List.mem_append_right _ h)
theorem lkX7_takeShop_114 : Cond.fieldLink RX7 114 "ButtonMatchModel" "redder" "I" ∈ wsX7_takeShop := by decide +kernel
theorem lkX7_takeShop_117 : Cond.fieldLink RX7 117 "ButtonMatchModel" "larger" "I" ∈ wsX7_takeShop := by decide +kernel
theorem lkX7_takeShop_120 : Cond.fieldLink RX7 120 "ButtonMatchModel" "near" "I" ∈ wsX7_takeShop := by decide +kernel
theorem lkX7_takeShop_123 : Cond.fieldLink RX7 123 "ButtonMatchModel" "readings" "I" ∈ wsX7_takeShop := by decide +kernel
theorem lkX7_takeShop_22 : Cond.fieldLink RX7 22 "ButtonMatchModel" "kind" "[I" ∈ wsX7_takeShop := by decide +kernel
theorem lkX7_takeShop_43 : Cond.fieldLink RX7 43 "ButtonMatchModel" "read" "[I" ∈ wsX7_takeShop := by decide +kernel
theorem lkX7_takeShop_25 : Cond.fieldLink RX7 25 "ButtonMatchModel" "colour" "[I" ∈ wsX7_takeShop := by decide +kernel
theorem lkX7_takeShop_28 : Cond.fieldLink RX7 28 "ButtonMatchModel" "size" "[I" ∈ wsX7_takeShop := by decide +kernel
theorem lkX7_takeShop_31 : Cond.fieldLink RX7 31 "ButtonMatchModel" "holes" "[I" ∈ wsX7_takeShop := by decide +kernel
theorem lkX7_takeShop_34 : Cond.fieldLink RX7 34 "ButtonMatchModel" "count" "[I" ∈ wsX7_takeShop := by decide +kernel
theorem lkX7_takeShop_37 : Cond.fieldLink RX7 37 "ButtonMatchModel" "pence" "[I" ∈ wsX7_takeShop := by decide +kernel
theorem lkX7_takeShop_40 : Cond.fieldLink RX7 40 "ButtonMatchModel" "readHead" "[I" ∈ wsX7_takeShop := by decide +kernel
theorem lkX7_takeShop_108 : Cond.fieldLink RX7 108 "ButtonMatchModel" "sewing" "I" ∈ wsX7_takeShop := by decide +kernel
theorem lkX7_takeShop_111 : Cond.fieldLink RX7 111 "ButtonMatchModel" "readMany" "I" ∈ wsX7_takeShop := by decide +kernel
theorem lkX7_takeShop_19 : Cond.fieldLink RX7 19 "ButtonMatchModel" "seenIn" "[I" ∈ wsX7_takeShop := by decide +kernel
theorem lkX7_takeShop_99 : Cond.fieldLink RX7 99 "ButtonMatchModel" "wantedColour" "I" ∈ wsX7_takeShop := by decide +kernel
theorem lkX7_takeShop_102 : Cond.fieldLink RX7 102 "ButtonMatchModel" "wantedSize" "I" ∈ wsX7_takeShop := by decide +kernel
theorem lkX7_takeShop_105 : Cond.fieldLink RX7 105 "ButtonMatchModel" "wantedHoles" "I" ∈ wsX7_takeShop := by decide +kernel
def fX7_takeShop_79 : Nat → Int32 → Sg → Option (Sg)
  | 0, _, _ => none
  | n + 1, x1, σ => (if (σ 0 10) ≤ x1 then some (up2 (up2 (up2 (up2 σ 0 17 0) 0 18 0) 0 19 0) 0 30 0) else (if gIn (6 * x1) 36 then (if gIn x1 6 then (if gIn ((6 * x1) + 1) 36 then (if gIn ((6 * x1) + 2) 36 then (if gIn ((6 * x1) + 3) 36 then (if gIn ((6 * x1) + 4) 36 then (if gIn ((6 * x1) + 5) 36 then fX7_takeShop_79 n (x1 + 1) (up2 (up2 (up2 (up2 (up2 (up2 σ 5 x1.toNatClampNeg (σ 12 ((6 * x1).toNatClampNeg))) 6 x1.toNatClampNeg (σ 12 (((6 * x1) + 1).toNatClampNeg))) 7 x1.toNatClampNeg (σ 12 (((6 * x1) + 2).toNatClampNeg))) 8 x1.toNatClampNeg (σ 12 (((6 * x1) + 3).toNatClampNeg))) 9 x1.toNatClampNeg (σ 12 (((6 * x1) + 4).toNatClampNeg))) 10 x1.toNatClampNeg (σ 12 (((6 * x1) + 5).toNatClampNeg))) else none) else none) else none) else none) else none) else none) else none))
set_option maxHeartbeats 4000000 in
set_option maxRecDepth 100000 in
theorem jX7_takeShop_79 {p : Program} {l : Launch} {e : Env} {s : State} {m : MethodId} {args : Array Value} {below : List Frame} {meth : Method} {c : Code} {D : va_G} {κ : Kp} {ad : Nat → Nat} {A : Nat → Prop} {τ : Sg} (C : Mc p s m args meth c cX7_takeShop 2 none wsX7_takeShop RX7 D κ A) : ∀ (n : Nat) (x1 : Int32) (σ : Sg) (H : Heap) (locs : List Loc) (ls : Array Slot), Wd D (wsM κ ad) A s.heap H locs σ → lv_has ls 2 [(0, .ref (ad 0)), (1, .int x1)] → fX7_takeShop_79  n x1 σ = some τ → W p l e { frames := 0, cells := 0, slots := 0, locals := 0 } s m args below meth c H locs 0 0 (Qv below args s D (wsM κ ad) A τ) (F0 m 79 ls []) := by
  obtain ⟨hx, hb, hml, hr, hlk, hown, hts, hK, hA, hZ⟩ := id C
  intro n
  induction n with
  | zero =>
    intro x1 σ H locs ls h hl hf
    rw [fX7_takeShop_79] at hf
    cases hf
  | succ n ih =>
    intro x1 σ H locs ls h hl hf
    rw [fX7_takeShop_79] at hf
    refine lv_iload_n hx hb dX7_takeShop_79 rfl (lv_at hl 1 rfl) ?_
    refine lv_aload_n hx hb dX7_takeShop_80 rfl (lv_at hl 0 rfl) ?_
    refine x_get (v := .int (σ 0 10)) C h (gM_Mo κ ad σ) rfl inX7_takeShop_X7 10 (by decide) (hts _ lkX7_takeShop_72) rfl dX7_takeShop_81 ?_
    refine lv_icmp_ge (tgt := 193) hx hb dX7_takeShop_84 (by decide) (fun c1 => ?_) (fun c1 => ?_)
    · have hf := tk_t c1 hf
      refine lv_aload_n hx hb dX7_takeShop_193 rfl (lv_at hl 0 rfl) ?_
      refine lv_iconst (v := 0) hx hb dX7_takeShop_194 (by decide) ?_
      refine x_put C h (gM_Mo κ ad σ) rfl inX7_takeShop_X7 tyX7 tyX7_ok nmX7 17 (by decide) (hts _ lkX7_takeShop_114) rfl (tyX7_ok 17 (by decide)) (Nat.le_of_ble_eq_true rfl) (sM_Mo_17 κ ad σ 0) dX7_takeShop_195 (fun H locs h => ?_)
      refine lv_aload_n hx hb dX7_takeShop_198 rfl (lv_at hl 0 rfl) ?_
      refine lv_iconst (v := 0) hx hb dX7_takeShop_199 (by decide) ?_
      refine x_put C h (gM_Mo κ ad (up2 σ 0 17 0)) rfl inX7_takeShop_X7 tyX7 tyX7_ok nmX7 18 (by decide) (hts _ lkX7_takeShop_117) rfl (tyX7_ok 18 (by decide)) (Nat.le_of_ble_eq_true rfl) (sM_Mo_18 κ ad (up2 σ 0 17 0) 0) dX7_takeShop_200 (fun H locs h => ?_)
      refine lv_aload_n hx hb dX7_takeShop_203 rfl (lv_at hl 0 rfl) ?_
      refine lv_iconst (v := 0) hx hb dX7_takeShop_204 (by decide) ?_
      refine x_put C h (gM_Mo κ ad (up2 (up2 σ 0 17 0) 0 18 0)) rfl inX7_takeShop_X7 tyX7 tyX7_ok nmX7 19 (by decide) (hts _ lkX7_takeShop_120) rfl (tyX7_ok 19 (by decide)) (Nat.le_of_ble_eq_true rfl) (sM_Mo_19 κ ad (up2 (up2 σ 0 17 0) 0 18 0) 0) dX7_takeShop_205 (fun H locs h => ?_)
      refine lv_aload_n hx hb dX7_takeShop_208 rfl (lv_at hl 0 rfl) ?_
      refine lv_iconst (v := 0) hx hb dX7_takeShop_209 (by decide) ?_
      refine x_put C h (gM_Mo κ ad (up2 (up2 (up2 σ 0 17 0) 0 18 0) 0 19 0)) rfl inX7_takeShop_X7 tyX7 tyX7_ok nmX7 30 (by decide) (hts _ lkX7_takeShop_123) rfl (tyX7_ok 30 (by decide)) (Nat.le_of_ble_eq_true rfl) (sM_Mo_30 κ ad (up2 (up2 (up2 σ 0 17 0) 0 18 0) 0 19 0) 0) dX7_takeShop_210 (fun H locs h => ?_)
      obtain rfl := so_ok hf
      exact x_vret C h dX7_takeShop_213
    · have hf := tk_f c1 hf
      refine lv_aload_n hx hb dX7_takeShop_87 rfl (lv_at hl 0 rfl) ?_
      refine x_get (v := .ref (ad 5)) C h (gM_Mo κ ad σ) rfl inX7_takeShop_X7 11 (by decide) (hts _ lkX7_takeShop_22) rfl dX7_takeShop_88 ?_
      refine lv_iload_n hx hb dX7_takeShop_91 rfl (lv_at hl 1 rfl) ?_
      refine lv_aload_n hx hb dX7_takeShop_92 rfl (lv_at hl 0 rfl) ?_
      refine x_get (v := .ref (ad 12)) C h (gM_Mo κ ad σ) rfl inX7_takeShop_X7 23 (by decide) (hts _ lkX7_takeShop_43) rfl dX7_takeShop_93 ?_
      refine lv_bipush (v := 6) hx hb dX7_takeShop_96 (by decide) ?_
      refine lv_iload_n hx hb dX7_takeShop_98 rfl (lv_at hl 1 rfl) ?_
      refine lv_imul hx hb dX7_takeShop_99 ?_
      obtain ⟨g2, hf⟩ := gd_ok hf
      refine x_iald (v := (σ 12 ((6 * x1).toNatClampNeg))) C h (gM_m_read κ ad σ) g2 rfl dX7_takeShop_100 ?_
      obtain ⟨g3, hf⟩ := gd_ok hf
      refine x_iast C h (gM_m_kind κ ad σ) (sM_m_kind κ ad σ x1.toNatClampNeg (σ 12 ((6 * x1).toNatClampNeg))) g3 dX7_takeShop_101 (fun H locs h => ?_)
      refine lv_aload_n hx hb dX7_takeShop_102 rfl (lv_at hl 0 rfl) ?_
      refine x_get (v := .ref (ad 6)) C h (gM_Mo κ ad (up2 σ 5 x1.toNatClampNeg (σ 12 ((6 * x1).toNatClampNeg)))) rfl inX7_takeShop_X7 12 (by decide) (hts _ lkX7_takeShop_25) rfl dX7_takeShop_103 ?_
      refine lv_iload_n hx hb dX7_takeShop_106 rfl (lv_at hl 1 rfl) ?_
      refine lv_aload_n hx hb dX7_takeShop_107 rfl (lv_at hl 0 rfl) ?_
      refine x_get (v := .ref (ad 12)) C h (gM_Mo κ ad (up2 σ 5 x1.toNatClampNeg (σ 12 ((6 * x1).toNatClampNeg)))) rfl inX7_takeShop_X7 23 (by decide) (hts _ lkX7_takeShop_43) rfl dX7_takeShop_108 ?_
      refine lv_bipush (v := 6) hx hb dX7_takeShop_111 (by decide) ?_
      refine lv_iload_n hx hb dX7_takeShop_113 rfl (lv_at hl 1 rfl) ?_
      refine lv_imul hx hb dX7_takeShop_114 ?_
      refine lv_iconst (v := 1) hx hb dX7_takeShop_115 (by decide) ?_
      refine lv_iadd hx hb dX7_takeShop_116 ?_
      obtain ⟨g4, hf⟩ := gd_ok hf
      refine x_iald (v := (σ 12 (((6 * x1) + 1).toNatClampNeg))) C h (gM_m_read κ ad (up2 σ 5 x1.toNatClampNeg (σ 12 ((6 * x1).toNatClampNeg)))) g4 rfl dX7_takeShop_117 ?_
      refine x_iast C h (gM_m_colour κ ad (up2 σ 5 x1.toNatClampNeg (σ 12 ((6 * x1).toNatClampNeg)))) (sM_m_colour κ ad (up2 σ 5 x1.toNatClampNeg (σ 12 ((6 * x1).toNatClampNeg))) x1.toNatClampNeg (σ 12 (((6 * x1) + 1).toNatClampNeg))) g3 dX7_takeShop_118 (fun H locs h => ?_)
      refine lv_aload_n hx hb dX7_takeShop_119 rfl (lv_at hl 0 rfl) ?_
      refine x_get (v := .ref (ad 7)) C h (gM_Mo κ ad (up2 (up2 σ 5 x1.toNatClampNeg (σ 12 ((6 * x1).toNatClampNeg))) 6 x1.toNatClampNeg (σ 12 (((6 * x1) + 1).toNatClampNeg)))) rfl inX7_takeShop_X7 13 (by decide) (hts _ lkX7_takeShop_28) rfl dX7_takeShop_120 ?_
      refine lv_iload_n hx hb dX7_takeShop_123 rfl (lv_at hl 1 rfl) ?_
      refine lv_aload_n hx hb dX7_takeShop_124 rfl (lv_at hl 0 rfl) ?_
      refine x_get (v := .ref (ad 12)) C h (gM_Mo κ ad (up2 (up2 σ 5 x1.toNatClampNeg (σ 12 ((6 * x1).toNatClampNeg))) 6 x1.toNatClampNeg (σ 12 (((6 * x1) + 1).toNatClampNeg)))) rfl inX7_takeShop_X7 23 (by decide) (hts _ lkX7_takeShop_43) rfl dX7_takeShop_125 ?_
      refine lv_bipush (v := 6) hx hb dX7_takeShop_128 (by decide) ?_
      refine lv_iload_n hx hb dX7_takeShop_130 rfl (lv_at hl 1 rfl) ?_
      refine lv_imul hx hb dX7_takeShop_131 ?_
      refine lv_iconst (v := 2) hx hb dX7_takeShop_132 (by decide) ?_
      refine lv_iadd hx hb dX7_takeShop_133 ?_
      obtain ⟨g5, hf⟩ := gd_ok hf
      refine x_iald (v := (σ 12 (((6 * x1) + 2).toNatClampNeg))) C h (gM_m_read κ ad (up2 (up2 σ 5 x1.toNatClampNeg (σ 12 ((6 * x1).toNatClampNeg))) 6 x1.toNatClampNeg (σ 12 (((6 * x1) + 1).toNatClampNeg)))) g5 rfl dX7_takeShop_134 ?_
      refine x_iast C h (gM_m_size κ ad (up2 (up2 σ 5 x1.toNatClampNeg (σ 12 ((6 * x1).toNatClampNeg))) 6 x1.toNatClampNeg (σ 12 (((6 * x1) + 1).toNatClampNeg)))) (sM_m_size κ ad (up2 (up2 σ 5 x1.toNatClampNeg (σ 12 ((6 * x1).toNatClampNeg))) 6 x1.toNatClampNeg (σ 12 (((6 * x1) + 1).toNatClampNeg))) x1.toNatClampNeg (σ 12 (((6 * x1) + 2).toNatClampNeg))) g3 dX7_takeShop_135 (fun H locs h => ?_)
      refine lv_aload_n hx hb dX7_takeShop_136 rfl (lv_at hl 0 rfl) ?_
      refine x_get (v := .ref (ad 8)) C h (gM_Mo κ ad (up2 (up2 (up2 σ 5 x1.toNatClampNeg (σ 12 ((6 * x1).toNatClampNeg))) 6 x1.toNatClampNeg (σ 12 (((6 * x1) + 1).toNatClampNeg))) 7 x1.toNatClampNeg (σ 12 (((6 * x1) + 2).toNatClampNeg)))) rfl inX7_takeShop_X7 14 (by decide) (hts _ lkX7_takeShop_31) rfl dX7_takeShop_137 ?_
      refine lv_iload_n hx hb dX7_takeShop_140 rfl (lv_at hl 1 rfl) ?_
      refine lv_aload_n hx hb dX7_takeShop_141 rfl (lv_at hl 0 rfl) ?_
      refine x_get (v := .ref (ad 12)) C h (gM_Mo κ ad (up2 (up2 (up2 σ 5 x1.toNatClampNeg (σ 12 ((6 * x1).toNatClampNeg))) 6 x1.toNatClampNeg (σ 12 (((6 * x1) + 1).toNatClampNeg))) 7 x1.toNatClampNeg (σ 12 (((6 * x1) + 2).toNatClampNeg)))) rfl inX7_takeShop_X7 23 (by decide) (hts _ lkX7_takeShop_43) rfl dX7_takeShop_142 ?_
      refine lv_bipush (v := 6) hx hb dX7_takeShop_145 (by decide) ?_
      refine lv_iload_n hx hb dX7_takeShop_147 rfl (lv_at hl 1 rfl) ?_
      refine lv_imul hx hb dX7_takeShop_148 ?_
      refine lv_iconst (v := 3) hx hb dX7_takeShop_149 (by decide) ?_
      refine lv_iadd hx hb dX7_takeShop_150 ?_
      obtain ⟨g6, hf⟩ := gd_ok hf
      refine x_iald (v := (σ 12 (((6 * x1) + 3).toNatClampNeg))) C h (gM_m_read κ ad (up2 (up2 (up2 σ 5 x1.toNatClampNeg (σ 12 ((6 * x1).toNatClampNeg))) 6 x1.toNatClampNeg (σ 12 (((6 * x1) + 1).toNatClampNeg))) 7 x1.toNatClampNeg (σ 12 (((6 * x1) + 2).toNatClampNeg)))) g6 rfl dX7_takeShop_151 ?_
      refine x_iast C h (gM_m_holes κ ad (up2 (up2 (up2 σ 5 x1.toNatClampNeg (σ 12 ((6 * x1).toNatClampNeg))) 6 x1.toNatClampNeg (σ 12 (((6 * x1) + 1).toNatClampNeg))) 7 x1.toNatClampNeg (σ 12 (((6 * x1) + 2).toNatClampNeg)))) (sM_m_holes κ ad (up2 (up2 (up2 σ 5 x1.toNatClampNeg (σ 12 ((6 * x1).toNatClampNeg))) 6 x1.toNatClampNeg (σ 12 (((6 * x1) + 1).toNatClampNeg))) 7 x1.toNatClampNeg (σ 12 (((6 * x1) + 2).toNatClampNeg))) x1.toNatClampNeg (σ 12 (((6 * x1) + 3).toNatClampNeg))) g3 dX7_takeShop_152 (fun H locs h => ?_)
      refine lv_aload_n hx hb dX7_takeShop_153 rfl (lv_at hl 0 rfl) ?_
      refine x_get (v := .ref (ad 9)) C h (gM_Mo κ ad (up2 (up2 (up2 (up2 σ 5 x1.toNatClampNeg (σ 12 ((6 * x1).toNatClampNeg))) 6 x1.toNatClampNeg (σ 12 (((6 * x1) + 1).toNatClampNeg))) 7 x1.toNatClampNeg (σ 12 (((6 * x1) + 2).toNatClampNeg))) 8 x1.toNatClampNeg (σ 12 (((6 * x1) + 3).toNatClampNeg)))) rfl inX7_takeShop_X7 15 (by decide) (hts _ lkX7_takeShop_34) rfl dX7_takeShop_154 ?_
      refine lv_iload_n hx hb dX7_takeShop_157 rfl (lv_at hl 1 rfl) ?_
      refine lv_aload_n hx hb dX7_takeShop_158 rfl (lv_at hl 0 rfl) ?_
      refine x_get (v := .ref (ad 12)) C h (gM_Mo κ ad (up2 (up2 (up2 (up2 σ 5 x1.toNatClampNeg (σ 12 ((6 * x1).toNatClampNeg))) 6 x1.toNatClampNeg (σ 12 (((6 * x1) + 1).toNatClampNeg))) 7 x1.toNatClampNeg (σ 12 (((6 * x1) + 2).toNatClampNeg))) 8 x1.toNatClampNeg (σ 12 (((6 * x1) + 3).toNatClampNeg)))) rfl inX7_takeShop_X7 23 (by decide) (hts _ lkX7_takeShop_43) rfl dX7_takeShop_159 ?_
      refine lv_bipush (v := 6) hx hb dX7_takeShop_162 (by decide) ?_
      refine lv_iload_n hx hb dX7_takeShop_164 rfl (lv_at hl 1 rfl) ?_
      refine lv_imul hx hb dX7_takeShop_165 ?_
      refine lv_iconst (v := 4) hx hb dX7_takeShop_166 (by decide) ?_
      refine lv_iadd hx hb dX7_takeShop_167 ?_
      obtain ⟨g7, hf⟩ := gd_ok hf
      refine x_iald (v := (σ 12 (((6 * x1) + 4).toNatClampNeg))) C h (gM_m_read κ ad (up2 (up2 (up2 (up2 σ 5 x1.toNatClampNeg (σ 12 ((6 * x1).toNatClampNeg))) 6 x1.toNatClampNeg (σ 12 (((6 * x1) + 1).toNatClampNeg))) 7 x1.toNatClampNeg (σ 12 (((6 * x1) + 2).toNatClampNeg))) 8 x1.toNatClampNeg (σ 12 (((6 * x1) + 3).toNatClampNeg)))) g7 rfl dX7_takeShop_168 ?_
      refine x_iast C h (gM_m_count κ ad (up2 (up2 (up2 (up2 σ 5 x1.toNatClampNeg (σ 12 ((6 * x1).toNatClampNeg))) 6 x1.toNatClampNeg (σ 12 (((6 * x1) + 1).toNatClampNeg))) 7 x1.toNatClampNeg (σ 12 (((6 * x1) + 2).toNatClampNeg))) 8 x1.toNatClampNeg (σ 12 (((6 * x1) + 3).toNatClampNeg)))) (sM_m_count κ ad (up2 (up2 (up2 (up2 σ 5 x1.toNatClampNeg (σ 12 ((6 * x1).toNatClampNeg))) 6 x1.toNatClampNeg (σ 12 (((6 * x1) + 1).toNatClampNeg))) 7 x1.toNatClampNeg (σ 12 (((6 * x1) + 2).toNatClampNeg))) 8 x1.toNatClampNeg (σ 12 (((6 * x1) + 3).toNatClampNeg))) x1.toNatClampNeg (σ 12 (((6 * x1) + 4).toNatClampNeg))) g3 dX7_takeShop_169 (fun H locs h => ?_)
      refine lv_aload_n hx hb dX7_takeShop_170 rfl (lv_at hl 0 rfl) ?_
      refine x_get (v := .ref (ad 10)) C h (gM_Mo κ ad (up2 (up2 (up2 (up2 (up2 σ 5 x1.toNatClampNeg (σ 12 ((6 * x1).toNatClampNeg))) 6 x1.toNatClampNeg (σ 12 (((6 * x1) + 1).toNatClampNeg))) 7 x1.toNatClampNeg (σ 12 (((6 * x1) + 2).toNatClampNeg))) 8 x1.toNatClampNeg (σ 12 (((6 * x1) + 3).toNatClampNeg))) 9 x1.toNatClampNeg (σ 12 (((6 * x1) + 4).toNatClampNeg)))) rfl inX7_takeShop_X7 16 (by decide) (hts _ lkX7_takeShop_37) rfl dX7_takeShop_171 ?_
      refine lv_iload_n hx hb dX7_takeShop_174 rfl (lv_at hl 1 rfl) ?_
      refine lv_aload_n hx hb dX7_takeShop_175 rfl (lv_at hl 0 rfl) ?_
      refine x_get (v := .ref (ad 12)) C h (gM_Mo κ ad (up2 (up2 (up2 (up2 (up2 σ 5 x1.toNatClampNeg (σ 12 ((6 * x1).toNatClampNeg))) 6 x1.toNatClampNeg (σ 12 (((6 * x1) + 1).toNatClampNeg))) 7 x1.toNatClampNeg (σ 12 (((6 * x1) + 2).toNatClampNeg))) 8 x1.toNatClampNeg (σ 12 (((6 * x1) + 3).toNatClampNeg))) 9 x1.toNatClampNeg (σ 12 (((6 * x1) + 4).toNatClampNeg)))) rfl inX7_takeShop_X7 23 (by decide) (hts _ lkX7_takeShop_43) rfl dX7_takeShop_176 ?_
      refine lv_bipush (v := 6) hx hb dX7_takeShop_179 (by decide) ?_
      refine lv_iload_n hx hb dX7_takeShop_181 rfl (lv_at hl 1 rfl) ?_
      refine lv_imul hx hb dX7_takeShop_182 ?_
      refine lv_iconst (v := 5) hx hb dX7_takeShop_183 (by decide) ?_
      refine lv_iadd hx hb dX7_takeShop_184 ?_
      obtain ⟨g8, hf⟩ := gd_ok hf
      refine x_iald (v := (σ 12 (((6 * x1) + 5).toNatClampNeg))) C h (gM_m_read κ ad (up2 (up2 (up2 (up2 (up2 σ 5 x1.toNatClampNeg (σ 12 ((6 * x1).toNatClampNeg))) 6 x1.toNatClampNeg (σ 12 (((6 * x1) + 1).toNatClampNeg))) 7 x1.toNatClampNeg (σ 12 (((6 * x1) + 2).toNatClampNeg))) 8 x1.toNatClampNeg (σ 12 (((6 * x1) + 3).toNatClampNeg))) 9 x1.toNatClampNeg (σ 12 (((6 * x1) + 4).toNatClampNeg)))) g8 rfl dX7_takeShop_185 ?_
      refine x_iast C h (gM_m_pence κ ad (up2 (up2 (up2 (up2 (up2 σ 5 x1.toNatClampNeg (σ 12 ((6 * x1).toNatClampNeg))) 6 x1.toNatClampNeg (σ 12 (((6 * x1) + 1).toNatClampNeg))) 7 x1.toNatClampNeg (σ 12 (((6 * x1) + 2).toNatClampNeg))) 8 x1.toNatClampNeg (σ 12 (((6 * x1) + 3).toNatClampNeg))) 9 x1.toNatClampNeg (σ 12 (((6 * x1) + 4).toNatClampNeg)))) (sM_m_pence κ ad (up2 (up2 (up2 (up2 (up2 σ 5 x1.toNatClampNeg (σ 12 ((6 * x1).toNatClampNeg))) 6 x1.toNatClampNeg (σ 12 (((6 * x1) + 1).toNatClampNeg))) 7 x1.toNatClampNeg (σ 12 (((6 * x1) + 2).toNatClampNeg))) 8 x1.toNatClampNeg (σ 12 (((6 * x1) + 3).toNatClampNeg))) 9 x1.toNatClampNeg (σ 12 (((6 * x1) + 4).toNatClampNeg))) x1.toNatClampNeg (σ 12 (((6 * x1) + 5).toNatClampNeg))) g3 dX7_takeShop_186 (fun H locs h => ?_)
      refine lv_iinc (v := (x1 + 1)) (lv' := [(1, .int (x1 + 1)), (0, .ref (ad 0))]) hx hb dX7_takeShop_187 hl (k := 1) rfl rfl (by decide) rfl (fun ls hl => ?_)
      refine lv_goto (tgt := 79) hx hb dX7_takeShop_190 (by decide) ?_
      exact ih (x1 + 1) (up2 (up2 (up2 (up2 (up2 (up2 σ 5 x1.toNatClampNeg (σ 12 ((6 * x1).toNatClampNeg))) 6 x1.toNatClampNeg (σ 12 (((6 * x1) + 1).toNatClampNeg))) 7 x1.toNatClampNeg (σ 12 (((6 * x1) + 2).toNatClampNeg))) 8 x1.toNatClampNeg (σ 12 (((6 * x1) + 3).toNatClampNeg))) 9 x1.toNatClampNeg (σ 12 (((6 * x1) + 4).toNatClampNeg))) 10 x1.toNatClampNeg (σ 12 (((6 * x1) + 5).toNatClampNeg))) _ _ _ h (lv_sub hl [1, 0] rfl) hf
def fX7_takeShop_32 : Nat → Int32 → Sg → Option (Sg)
  | 0, _, _ => none
  | n + 1, x1, σ => (if 6 ≤ x1 then fX7_takeShop_79 1000 0 (up2 (up2 σ 0 8 (σ 11 9)) 0 10 (σ 0 21)) else (if gIn (3 + x1) 10 then (if gIn x1 6 then fX7_takeShop_32 n (x1 + 1) (up2 σ 4 x1.toNatClampNeg (σ 11 ((3 + x1).toNatClampNeg))) else none) else none))
set_option maxHeartbeats 4000000 in
set_option maxRecDepth 100000 in
theorem jX7_takeShop_32 {p : Program} {l : Launch} {e : Env} {s : State} {m : MethodId} {args : Array Value} {below : List Frame} {meth : Method} {c : Code} {D : va_G} {κ : Kp} {ad : Nat → Nat} {A : Nat → Prop} {τ : Sg} (C : Mc p s m args meth c cX7_takeShop 2 none wsX7_takeShop RX7 D κ A) : ∀ (n : Nat) (x1 : Int32) (σ : Sg) (H : Heap) (locs : List Loc) (ls : Array Slot), Wd D (wsM κ ad) A s.heap H locs σ → lv_has ls 2 [(0, .ref (ad 0)), (1, .int x1)] → fX7_takeShop_32  n x1 σ = some τ → W p l e { frames := 0, cells := 0, slots := 0, locals := 0 } s m args below meth c H locs 0 0 (Qv below args s D (wsM κ ad) A τ) (F0 m 32 ls []) := by
  obtain ⟨hx, hb, hml, hr, hlk, hown, hts, hK, hA, hZ⟩ := id C
  intro n
  induction n with
  | zero =>
    intro x1 σ H locs ls h hl hf
    rw [fX7_takeShop_32] at hf
    cases hf
  | succ n ih =>
    intro x1 σ H locs ls h hl hf
    rw [fX7_takeShop_32] at hf
    refine lv_iload_n hx hb dX7_takeShop_32 rfl (lv_at hl 1 rfl) ?_
    refine lv_bipush (v := 6) hx hb dX7_takeShop_33 (by decide) ?_
    refine lv_icmp_ge (tgt := 58) hx hb dX7_takeShop_35 (by decide) (fun c9 => ?_) (fun c9 => ?_)
    · have hf := tk_t c9 hf
      refine lv_aload_n hx hb dX7_takeShop_58 rfl (lv_at hl 0 rfl) ?_
      refine lv_aload_n hx hb dX7_takeShop_59 rfl (lv_at hl 0 rfl) ?_
      refine x_get (v := .ref (ad 11)) C h (gM_Mo κ ad σ) rfl inX7_takeShop_X7 22 (by decide) (hts _ lkX7_takeShop_40) rfl dX7_takeShop_60 ?_
      refine lv_bipush (v := 9) hx hb dX7_takeShop_63 (by decide) ?_
      refine x_iald (v := (σ 11 9)) C h (gM_m_readHead κ ad σ) (show gIn 9 10 by decide) rfl dX7_takeShop_65 ?_
      refine x_put C h (gM_Mo κ ad σ) rfl inX7_takeShop_X7 tyX7 tyX7_ok nmX7 8 (by decide) (hts _ lkX7_takeShop_108) rfl (tyX7_ok 8 (by decide)) (Nat.le_of_ble_eq_true rfl) (sM_Mo_8 κ ad σ (σ 11 9)) dX7_takeShop_66 (fun H locs h => ?_)
      refine lv_aload_n hx hb dX7_takeShop_69 rfl (lv_at hl 0 rfl) ?_
      refine lv_aload_n hx hb dX7_takeShop_70 rfl (lv_at hl 0 rfl) ?_
      refine x_get (v := .int (σ 0 21)) C h (gM_Mo κ ad (up2 σ 0 8 (σ 11 9))) rfl inX7_takeShop_X7 21 (by decide) (hts _ lkX7_takeShop_111) rfl dX7_takeShop_71 ?_
      refine x_put C h (gM_Mo κ ad (up2 σ 0 8 (σ 11 9))) rfl inX7_takeShop_X7 tyX7 tyX7_ok nmX7 10 (by decide) (hts _ lkX7_takeShop_72) rfl (tyX7_ok 10 (by decide)) (Nat.le_of_ble_eq_true rfl) (sM_Mo_10 κ ad (up2 σ 0 8 (σ 11 9)) (σ 0 21)) dX7_takeShop_74 (fun H locs h => ?_)
      refine lv_iconst (v := 0) hx hb dX7_takeShop_77 (by decide) ?_
      refine lv_istore_n (lv' := [(1, .int 0), (0, .ref (ad 0))]) hx hb dX7_takeShop_78 rfl hl (by decide) rfl (fun ls hl => ?_)
      exact jX7_takeShop_79 C 1000 0 (up2 (up2 σ 0 8 (σ 11 9)) 0 10 (σ 0 21)) _ _ _ h (lv_sub hl [1, 0] rfl) hf
    · have hf := tk_f c9 hf
      refine lv_aload_n hx hb dX7_takeShop_38 rfl (lv_at hl 0 rfl) ?_
      refine x_get (v := .ref (ad 4)) C h (gM_Mo κ ad σ) rfl inX7_takeShop_X7 9 (by decide) (hts _ lkX7_takeShop_19) rfl dX7_takeShop_39 ?_
      refine lv_iload_n hx hb dX7_takeShop_42 rfl (lv_at hl 1 rfl) ?_
      refine lv_aload_n hx hb dX7_takeShop_43 rfl (lv_at hl 0 rfl) ?_
      refine x_get (v := .ref (ad 11)) C h (gM_Mo κ ad σ) rfl inX7_takeShop_X7 22 (by decide) (hts _ lkX7_takeShop_40) rfl dX7_takeShop_44 ?_
      refine lv_iconst (v := 3) hx hb dX7_takeShop_47 (by decide) ?_
      refine lv_iload_n hx hb dX7_takeShop_48 rfl (lv_at hl 1 rfl) ?_
      refine lv_iadd hx hb dX7_takeShop_49 ?_
      obtain ⟨g10, hf⟩ := gd_ok hf
      refine x_iald (v := (σ 11 ((3 + x1).toNatClampNeg))) C h (gM_m_readHead κ ad σ) g10 rfl dX7_takeShop_50 ?_
      obtain ⟨g11, hf⟩ := gd_ok hf
      refine x_iast C h (gM_m_seenIn κ ad σ) (sM_m_seenIn κ ad σ x1.toNatClampNeg (σ 11 ((3 + x1).toNatClampNeg))) g11 dX7_takeShop_51 (fun H locs h => ?_)
      refine lv_iinc (v := (x1 + 1)) (lv' := [(1, .int (x1 + 1)), (0, .ref (ad 0))]) hx hb dX7_takeShop_52 hl (k := 1) rfl rfl (by decide) rfl (fun ls hl => ?_)
      refine lv_goto (tgt := 32) hx hb dX7_takeShop_55 (by decide) ?_
      exact ih (x1 + 1) (up2 σ 4 x1.toNatClampNeg (σ 11 ((3 + x1).toNatClampNeg))) _ _ _ h (lv_sub hl [1, 0] rfl) hf
def fX7_takeShop (σ : Sg) : Option (Sg) :=
  fX7_takeShop_32 1000 0 (up2 (up2 (up2 σ 0 5 (σ 11 0)) 0 6 (σ 11 1)) 0 7 (σ 11 2))
set_option maxHeartbeats 4000000 in
set_option maxRecDepth 100000 in
theorem kX7_takeShop (l : Launch) (D : va_G) (κ : Kp) (ad : Nat → Nat) (σ : Sg) {τ : Sg} (hf : fX7_takeShop σ = some τ) : Cv l D κ (wsM κ ad) yX7_takeShop wsX7_takeShop 0 0 [.ref (ad 0)] σ τ := by
  refine Cv.of (cc := cX7_takeShop) (nL := 2) (ret := none) (by decide) rfl (Nat.le_of_ble_eq_true rfl) ?_
  intro p e s m below meth c A ls C h hl
  obtain ⟨hx, hb, hml, hr, hlk, hown, hts, hK, hA, hZ⟩ := id C
  have hl : lv_has ls 2 [(0, .ref (ad 0))] := hl
  unfold fX7_takeShop at hf
  refine lv_aload_n hx hb dX7_takeShop_0 rfl (lv_at hl 0 rfl) ?_
  refine lv_aload_n hx hb dX7_takeShop_1 rfl (lv_at hl 0 rfl) ?_
  refine x_get (v := .ref (ad 11)) C h (gM_Mo κ ad σ) rfl inX7_takeShop_X7 22 (by decide) (hts _ lkX7_takeShop_40) rfl dX7_takeShop_2 ?_
  refine lv_iconst (v := 0) hx hb dX7_takeShop_5 (by decide) ?_
  refine x_iald (v := (σ 11 0)) C h (gM_m_readHead κ ad σ) (show gIn 0 10 by decide) rfl dX7_takeShop_6 ?_
  refine x_put C h (gM_Mo κ ad σ) rfl inX7_takeShop_X7 tyX7 tyX7_ok nmX7 5 (by decide) (hts _ lkX7_takeShop_99) rfl (tyX7_ok 5 (by decide)) (Nat.le_of_ble_eq_true rfl) (sM_Mo_5 κ ad σ (σ 11 0)) dX7_takeShop_7 (fun H locs h => ?_)
  refine lv_aload_n hx hb dX7_takeShop_10 rfl (lv_at hl 0 rfl) ?_
  refine lv_aload_n hx hb dX7_takeShop_11 rfl (lv_at hl 0 rfl) ?_
  refine x_get (v := .ref (ad 11)) C h (gM_Mo κ ad (up2 σ 0 5 (σ 11 0))) rfl inX7_takeShop_X7 22 (by decide) (hts _ lkX7_takeShop_40) rfl dX7_takeShop_12 ?_
  refine lv_iconst (v := 1) hx hb dX7_takeShop_15 (by decide) ?_
  refine x_iald (v := (σ 11 1)) C h (gM_m_readHead κ ad (up2 σ 0 5 (σ 11 0))) (show gIn 1 10 by decide) rfl dX7_takeShop_16 ?_
  refine x_put C h (gM_Mo κ ad (up2 σ 0 5 (σ 11 0))) rfl inX7_takeShop_X7 tyX7 tyX7_ok nmX7 6 (by decide) (hts _ lkX7_takeShop_102) rfl (tyX7_ok 6 (by decide)) (Nat.le_of_ble_eq_true rfl) (sM_Mo_6 κ ad (up2 σ 0 5 (σ 11 0)) (σ 11 1)) dX7_takeShop_17 (fun H locs h => ?_)
  refine lv_aload_n hx hb dX7_takeShop_20 rfl (lv_at hl 0 rfl) ?_
  refine lv_aload_n hx hb dX7_takeShop_21 rfl (lv_at hl 0 rfl) ?_
  refine x_get (v := .ref (ad 11)) C h (gM_Mo κ ad (up2 (up2 σ 0 5 (σ 11 0)) 0 6 (σ 11 1))) rfl inX7_takeShop_X7 22 (by decide) (hts _ lkX7_takeShop_40) rfl dX7_takeShop_22 ?_
  refine lv_iconst (v := 2) hx hb dX7_takeShop_25 (by decide) ?_
  refine x_iald (v := (σ 11 2)) C h (gM_m_readHead κ ad (up2 (up2 σ 0 5 (σ 11 0)) 0 6 (σ 11 1))) (show gIn 2 10 by decide) rfl dX7_takeShop_26 ?_
  refine x_put C h (gM_Mo κ ad (up2 (up2 σ 0 5 (σ 11 0)) 0 6 (σ 11 1))) rfl inX7_takeShop_X7 tyX7 tyX7_ok nmX7 7 (by decide) (hts _ lkX7_takeShop_105) rfl (tyX7_ok 7 (by decide)) (Nat.le_of_ble_eq_true rfl) (sM_Mo_7 κ ad (up2 (up2 σ 0 5 (σ 11 0)) 0 6 (σ 11 1)) (σ 11 2)) dX7_takeShop_27 (fun H locs h => ?_)
  refine lv_iconst (v := 0) hx hb dX7_takeShop_30 (by decide) ?_
  refine lv_istore_n (lv' := [(1, .int 0), (0, .ref (ad 0))]) hx hb dX7_takeShop_31 rfl hl (by decide) rfl (fun ls hl => ?_)
  exact jX7_takeShop_32 C 1000 0 (up2 (up2 (up2 σ 0 5 (σ 11 0)) 0 6 (σ 11 1)) 0 7 (σ 11 2)) _ _ _ h (lv_sub hl [1, 0] rfl) hf

-- ===== X7_shop: ButtonMatchModel.shop(IIII)I
theorem lkX7_shop_62 : Cond.fieldLink RX7 62 "ButtonMatchModel" "fault" "I" ∈ wsX7_shop := by decide +kernel
theorem inX7_shop_X7 : ∀ w ∈ wsX70, w ∈ wsX7_shop := fun _ h => List.mem_cons_of_mem _ (List.mem_append_right _ h)
theorem lkX7_shop_75 : Cond.fieldLink RX7 75 "ButtonMatchModel" "at" "I" ∈ wsX7_shop := by decide +kernel
theorem lkX7_shop_72 : Cond.fieldLink RX7 72 "ButtonMatchModel" "tubes" "I" ∈ wsX7_shop := by decide +kernel
def fX7_shop (x1 : Int32) (x2 : Int32) (x3 : Int32) (x4 : Int32) (σ : Sg) : Option (Int32 × Sg) :=
  (if (fX7_isSheet x1 (up2 σ 0 0 0)) = 0 then some ((-1), (up2 σ 0 0 0)) else (if (fX7_isSort x2 (up2 σ 0 0 0)) = 0 then some ((-2), (up2 σ 0 0 0)) else ((fX7_against x1 x2 x3 x4 (up2 σ 0 0 0)).bind fun r4 => (if r4 = 0 then ((fX7_readShop (((60 * x1) + x3) + x4) (up2 (up2 σ 0 0 0) 0 20 ((60 * x1) + x3))).bind fun q7 => (if q7.1 = 0 then some (((-100) - ((q7.2 0 20) - ((60 * x1) + x3))), q7.2) else ((fX7_takeShop q7.2).bind fun τ10 => some ((τ10 0 10), τ10)))) else some ((fX7_fails r4 (up2 σ 0 0 0)).1, (fX7_fails r4 (up2 σ 0 0 0)).2)))))
set_option maxHeartbeats 4000000 in
set_option maxRecDepth 100000 in
theorem kX7_shop (l : Launch) (D : va_G) (κ : Kp) (ad : Nat → Nat) (x1 : Int32) (x2 : Int32) (x3 : Int32) (x4 : Int32) (σ : Sg) {r : Int32} {τ : Sg} (hf : fX7_shop x1 x2 x3 x4 σ = some (r, τ)) : Ci l D κ (wsM κ ad) yX7_shop wsX7_shop 4 91 [.ref (ad 0), .int x1, .int x2, .int x3, .int x4] σ r τ := by
  refine Ci.of (cc := cX7_shop) (nL := 7) (ret := (some .int)) (by decide) rfl (Nat.le_of_ble_eq_true rfl) ?_
  intro p e s m below meth c A ls C h hl
  obtain ⟨hx, hb, hml, hr, hlk, hown, hts, hK, hA, hZ⟩ := id C
  have hl : lv_has ls 7 [(0, .ref (ad 0)), (1, .int x1), (2, .int x2), (3, .int x3), (4, .int x4)] := hl
  unfold fX7_shop at hf
  refine lv_aload_n hx hb dX7_shop_0 rfl (lv_at hl 0 rfl) ?_
  refine lv_iconst (v := 0) hx hb dX7_shop_1 (by decide) ?_
  refine x_put C h (gM_Mo κ ad σ) rfl inX7_shop_X7 tyX7 tyX7_ok nmX7 0 (by decide) (hts _ lkX7_shop_62) rfl (tyX7_ok 0 (by decide)) (Nat.le_of_ble_eq_true rfl) (sM_Mo_0 κ ad σ 0) dX7_shop_2 (fun H locs h => ?_)
  refine lv_iload_n hx hb dX7_shop_5 rfl (lv_at hl 1 rfl) ?_
  refine x_si (As := [.int x1]) (rest := []) C h (kX7_isSheet l D κ ad x1 (up2 σ 0 0 0) (r := (fX7_isSheet x1 (up2 σ 0 0 0))) rfl) (fun hts => va_cwS 1 hts gX7_shop_X7_isSheet rfl rfl rfl (by decide +kernel) ⟨Nat.le_of_ble_eq_true rfl, Nat.le_of_ble_eq_true rfl⟩) rfl hl.1 (Nat.le_of_ble_eq_true rfl) rfl dX7_shop_6 (fun H locs h => ?_)
  refine lv_if_ne (tgt := 14) hx hb dX7_shop_9 (by decide) (fun c1 => ?_) (fun c1 => ?_)
  · have hf := tk_f c1 hf
    refine lv_iload_n hx hb dX7_shop_14 rfl (lv_at hl 2 rfl) ?_
    refine x_si (As := [.int x2]) (rest := []) C h (kX7_isSort l D κ ad x2 (up2 σ 0 0 0) (r := (fX7_isSort x2 (up2 σ 0 0 0))) rfl) (fun hts => va_cwS 1 hts gX7_shop_X7_isSort rfl rfl rfl (by decide +kernel) ⟨Nat.le_of_ble_eq_true rfl, Nat.le_of_ble_eq_true rfl⟩) rfl hl.1 (Nat.le_of_ble_eq_true rfl) rfl dX7_shop_15 (fun H locs h => ?_)
    refine lv_if_ne (tgt := 24) hx hb dX7_shop_18 (by decide) (fun c2 => ?_) (fun c2 => ?_)
    · have hf := tk_f c2 hf
      refine lv_aload_n hx hb dX7_shop_24 rfl (lv_at hl 0 rfl) ?_
      refine lv_iload_n hx hb dX7_shop_25 rfl (lv_at hl 1 rfl) ?_
      refine lv_iload_n hx hb dX7_shop_26 rfl (lv_at hl 2 rfl) ?_
      refine lv_iload_n hx hb dX7_shop_27 rfl (lv_at hl 3 rfl) ?_
      refine lv_iload hx hb dX7_shop_28 (lv_at hl 4 rfl) ?_
      obtain ⟨r4, hg3, hf⟩ := bd_ok hf
      refine x_vi (As := [.int x1, .int x2, .int x3, .int x4]) (rest := []) C h (gM_Mo κ ad (up2 σ 0 0 0)) rfl (kX7_against l D κ ad x1 x2 x3 x4 (up2 σ 0 0 0) (r := r4) hg3) (fun hts => cwV 4 hts gX7_shop_X7_against rfl rfl rfl (by decide +kernel) ⟨Nat.le_of_ble_eq_true rfl, Nat.le_of_ble_eq_true rfl⟩) rfl hl.1 (Nat.le_of_ble_eq_true rfl) rfl dX7_shop_30 (fun H locs h => ?_)
      refine lv_istore (lv' := [(5, .int r4), (0, .ref (ad 0)), (1, .int x1), (2, .int x2), (3, .int x3), (4, .int x4)]) hx hb dX7_shop_33 hl (by decide) rfl (fun ls hl => ?_)
      refine lv_iload hx hb dX7_shop_35 (lv_at hl 0 rfl) ?_
      refine lv_if_eq (tgt := 47) hx hb dX7_shop_37 (by decide) (fun c5 => ?_) (fun c5 => ?_)
      · have hf := tk_t c5 hf
        refine lv_bipush (v := 60) hx hb dX7_shop_47 (by decide) ?_
        refine lv_iload_n hx hb dX7_shop_49 rfl (lv_at hl 2 rfl) ?_
        refine lv_imul hx hb dX7_shop_50 ?_
        refine lv_iload_n hx hb dX7_shop_51 rfl (lv_at hl 4 rfl) ?_
        refine lv_iadd hx hb dX7_shop_52 ?_
        refine lv_istore (lv' := [(6, .int ((60 * x1) + x3)), (5, .int r4), (0, .ref (ad 0)), (1, .int x1), (2, .int x2), (3, .int x3), (4, .int x4)]) hx hb dX7_shop_53 hl (by decide) rfl (fun ls hl => ?_)
        refine lv_aload_n hx hb dX7_shop_55 rfl (lv_at hl 2 rfl) ?_
        refine lv_iload hx hb dX7_shop_56 (lv_at hl 0 rfl) ?_
        refine x_put C h (gM_Mo κ ad (up2 σ 0 0 0)) rfl inX7_shop_X7 tyX7 tyX7_ok nmX7 20 (by decide) (hts _ lkX7_shop_75) rfl (tyX7_ok 20 (by decide)) (Nat.le_of_ble_eq_true rfl) (sM_Mo_20 κ ad (up2 σ 0 0 0) ((60 * x1) + x3)) dX7_shop_58 (fun H locs h => ?_)
        refine lv_aload_n hx hb dX7_shop_61 rfl (lv_at hl 2 rfl) ?_
        refine lv_iload hx hb dX7_shop_62 (lv_at hl 0 rfl) ?_
        refine lv_iload hx hb dX7_shop_64 (lv_at hl 6 rfl) ?_
        refine lv_iadd hx hb dX7_shop_66 ?_
        obtain ⟨q7, hg6, hf⟩ := bd_ok hf
        refine x_vi (As := [.int (((60 * x1) + x3) + x4)]) (rest := []) C h (gM_Mo κ ad (up2 (up2 σ 0 0 0) 0 20 ((60 * x1) + x3))) rfl (kX7_readShop l D κ ad (((60 * x1) + x3) + x4) (up2 (up2 σ 0 0 0) 0 20 ((60 * x1) + x3)) (r := q7.1) (τ := q7.2) hg6) (fun hts => cwV 1 hts gX7_shop_X7_readShop rfl rfl rfl (by decide +kernel) ⟨Nat.le_of_ble_eq_true rfl, Nat.le_of_ble_eq_true rfl⟩) rfl hl.1 (Nat.le_of_ble_eq_true rfl) rfl dX7_shop_67 (fun H locs h => ?_)
        refine lv_if_ne (tgt := 84) hx hb dX7_shop_70 (by decide) (fun c8 => ?_) (fun c8 => ?_)
        · have hf := tk_f c8 hf
          refine lv_aload_n hx hb dX7_shop_84 rfl (lv_at hl 2 rfl) ?_
          obtain ⟨τ10, hg9, hf⟩ := bd_ok hf
          refine x_vv (As := []) (rest := []) C h (gM_Mo κ ad q7.2) rfl (kX7_takeShop l D κ ad q7.2 (τ := τ10) hg9) (fun hts => cwV 0 hts gX7_shop_X7_takeShop rfl rfl rfl (by decide +kernel) ⟨Nat.le_of_ble_eq_true rfl, Nat.le_of_ble_eq_true rfl⟩) rfl hl.1 (Nat.le_of_ble_eq_true rfl) rfl dX7_shop_85 (fun H locs h => ?_)
          refine lv_aload_n hx hb dX7_shop_88 rfl (lv_at hl 2 rfl) ?_
          refine x_get (v := .int (τ10 0 10)) C h (gM_Mo κ ad τ10) rfl inX7_shop_X7 10 (by decide) (hts _ lkX7_shop_72) rfl dX7_shop_89 ?_
          obtain ⟨rfl, rfl⟩ := pr_ok hf
          exact x_iret C h dX7_shop_92
        · have hf := tk_t c8 hf
          refine lv_bipush (v := (-100)) hx hb dX7_shop_73 (by decide) ?_
          refine lv_aload_n hx hb dX7_shop_75 rfl (lv_at hl 2 rfl) ?_
          refine x_get (v := .int (q7.2 0 20)) C h (gM_Mo κ ad q7.2) rfl inX7_shop_X7 20 (by decide) (hts _ lkX7_shop_75) rfl dX7_shop_76 ?_
          refine lv_iload hx hb dX7_shop_79 (lv_at hl 0 rfl) ?_
          refine lv_isub hx hb dX7_shop_81 ?_
          refine lv_isub hx hb dX7_shop_82 ?_
          obtain ⟨rfl, rfl⟩ := pr_ok hf
          exact x_iret C h dX7_shop_83
      · have hf := tk_f c5 hf
        refine lv_aload_n hx hb dX7_shop_40 rfl (lv_at hl 1 rfl) ?_
        refine lv_iload hx hb dX7_shop_41 (lv_at hl 0 rfl) ?_
        refine x_vi (As := [.int r4]) (rest := []) C h (gM_Mo κ ad (up2 σ 0 0 0)) rfl (kX7_fails l D κ ad r4 (up2 σ 0 0 0) (r := (fX7_fails r4 (up2 σ 0 0 0)).1) (τ := (fX7_fails r4 (up2 σ 0 0 0)).2) rfl) (fun hts => cwV 1 hts gX7_shop_X7_fails rfl rfl rfl (by decide +kernel) ⟨Nat.le_of_ble_eq_true rfl, Nat.le_of_ble_eq_true rfl⟩) rfl hl.1 (Nat.le_of_ble_eq_true rfl) rfl dX7_shop_43 (fun H locs h => ?_)
        obtain ⟨rfl, rfl⟩ := pr_ok hf
        exact x_iret C h dX7_shop_46
    · have hf := tk_t c2 hf
      refine lv_bipush (v := (-2)) hx hb dX7_shop_21 (by decide) ?_
      obtain ⟨rfl, rfl⟩ := pr_ok hf
      exact x_iret C h dX7_shop_23
  · have hf := tk_t c1 hf
    refine lv_iconst (v := (-1)) hx hb dX7_shop_12 (by decide) ?_
    obtain ⟨rfl, rfl⟩ := pr_ok hf
    exact x_iret C h dX7_shop_13

-- ===== X7_sheet: ButtonMatchModel.sheet(III)I
theorem lkX7_sheet_16 : Cond.fieldLink RX7 16 "ButtonMatchModel" "cells" "[I" ∈ wsX7_sheet := by decide +kernel
theorem inX7_sheet_X7 : ∀ w ∈ wsX70, w ∈ wsX7_sheet := fun _ h => List.mem_cons_of_mem _ (List.mem_append_right _ h)
theorem lkX7_sheet_62 : Cond.fieldLink RX7 62 "ButtonMatchModel" "fault" "I" ∈ wsX7_sheet := by decide +kernel
theorem lkX7_sheet_9 : Cond.fieldLink RX7 9 "ButtonMatchModel" "sorts" "[I" ∈ wsX7_sheet := by decide +kernel
theorem lkX7_sheet_13 : Cond.fieldLink RX7 13 "ButtonMatchModel" "sheetLong" "[I" ∈ wsX7_sheet := by decide +kernel
def fX7_sheet_57 (x1 : Int32) : Nat → Int32 → Sg → Option (Int32 × Sg)
  | 0, _, _ => none
  | n + 1, x4, σ => (if 60 ≤ x4 then some (1, σ) else (if gIn ((60 * x1) + x4) 240 then fX7_sheet_57 x1 n (x4 + 1) (up2 σ 3 (((60 * x1) + x4).toNatClampNeg) 0) else none))
set_option maxHeartbeats 4000000 in
set_option maxRecDepth 100000 in
theorem jX7_sheet_57 {p : Program} {l : Launch} {e : Env} {s : State} {m : MethodId} {args : Array Value} {below : List Frame} {meth : Method} {c : Code} {D : va_G} {κ : Kp} {ad : Nat → Nat} {A : Nat → Prop} {r : Int32} {τ : Sg} (C : Mc p s m args meth c cX7_sheet 5 (some .int) wsX7_sheet RX7 D κ A) (x1 : Int32) : ∀ (n : Nat) (x4 : Int32) (σ : Sg) (H : Heap) (locs : List Loc) (ls : Array Slot), Wd D (wsM κ ad) A s.heap H locs σ → lv_has ls 5 [(0, .ref (ad 0)), (1, .int x1), (4, .int x4)] → fX7_sheet_57 x1 n x4 σ = some (r, τ) → W p l e { frames := 2, cells := 0, slots := 0, locals := 42 } s m args below meth c H locs 0 0 (Qi below args s D (wsM κ ad) A r τ) (F0 m 57 ls []) := by
  obtain ⟨hx, hb, hml, hr, hlk, hown, hts, hK, hA, hZ⟩ := id C
  intro n
  induction n with
  | zero =>
    intro x4 σ H locs ls h hl hf
    rw [fX7_sheet_57] at hf
    cases hf
  | succ n ih =>
    intro x4 σ H locs ls h hl hf
    rw [fX7_sheet_57] at hf
    refine lv_iload hx hb dX7_sheet_57 (lv_at hl 2 rfl) ?_
    refine lv_bipush (v := 60) hx hb dX7_sheet_59 (by decide) ?_
    refine lv_icmp_ge (tgt := 83) hx hb dX7_sheet_61 (by decide) (fun c1 => ?_) (fun c1 => ?_)
    · have hf := tk_t c1 hf
      refine lv_iconst (v := 1) hx hb dX7_sheet_83 (by decide) ?_
      obtain ⟨rfl, rfl⟩ := pr_ok hf
      exact x_iret C h dX7_sheet_84
    · have hf := tk_f c1 hf
      refine lv_aload_n hx hb dX7_sheet_64 rfl (lv_at hl 0 rfl) ?_
      refine x_get (v := .ref (ad 3)) C h (gM_Mo κ ad σ) rfl inX7_sheet_X7 4 (by decide) (hts _ lkX7_sheet_16) rfl dX7_sheet_65 ?_
      refine lv_bipush (v := 60) hx hb dX7_sheet_68 (by decide) ?_
      refine lv_iload_n hx hb dX7_sheet_70 rfl (lv_at hl 1 rfl) ?_
      refine lv_imul hx hb dX7_sheet_71 ?_
      refine lv_iload hx hb dX7_sheet_72 (lv_at hl 2 rfl) ?_
      refine lv_iadd hx hb dX7_sheet_74 ?_
      refine lv_iconst (v := 0) hx hb dX7_sheet_75 (by decide) ?_
      obtain ⟨g2, hf⟩ := gd_ok hf
      refine x_iast C h (gM_m_cells κ ad σ) (sM_m_cells κ ad σ (((60 * x1) + x4).toNatClampNeg) 0) g2 dX7_sheet_76 (fun H locs h => ?_)
      refine lv_iinc (v := (x4 + 1)) (lv' := [(4, .int (x4 + 1)), (0, .ref (ad 0)), (1, .int x1)]) hx hb dX7_sheet_77 hl (k := 2) rfl rfl (by decide) rfl (fun ls hl => ?_)
      refine lv_goto (tgt := 57) hx hb dX7_sheet_80 (by decide) ?_
      exact ih (x4 + 1) (up2 σ 3 (((60 * x1) + x4).toNatClampNeg) 0) _ _ _ h (lv_sub hl [1, 2, 0] rfl) hf
def fX7_sheet (x1 : Int32) (x2 : Int32) (x3 : Int32) (σ : Sg) : Option (Int32 × Sg) :=
  (if (fX7_isSheet x1 (up2 σ 0 0 0)) = 0 then some ((-1), (up2 σ 0 0 0)) else (if (fX7_isSort x2 (up2 σ 0 0 0)) = 0 then some ((-2), (up2 σ 0 0 0)) else (if x3 ≤ 60 then (if 0 ≤ x3 then (if gIn x1 4 then fX7_sheet_57 x1 1000 0 (up2 (up2 (up2 σ 0 0 0) 1 x1.toNatClampNeg x2) 2 x1.toNatClampNeg x3) else none) else some ((fX7_fails 4 (up2 σ 0 0 0)).1, (fX7_fails 4 (up2 σ 0 0 0)).2)) else some ((-2), (up2 σ 0 0 0)))))
set_option maxHeartbeats 4000000 in
set_option maxRecDepth 100000 in
theorem kX7_sheet (l : Launch) (D : va_G) (κ : Kp) (ad : Nat → Nat) (x1 : Int32) (x2 : Int32) (x3 : Int32) (σ : Sg) {r : Int32} {τ : Sg} (hf : fX7_sheet x1 x2 x3 σ = some (r, τ)) : Ci l D κ (wsM κ ad) yX7_sheet wsX7_sheet 2 42 [.ref (ad 0), .int x1, .int x2, .int x3] σ r τ := by
  refine Ci.of (cc := cX7_sheet) (nL := 5) (ret := (some .int)) (by decide) rfl (Nat.le_of_ble_eq_true rfl) ?_
  intro p e s m below meth c A ls C h hl
  obtain ⟨hx, hb, hml, hr, hlk, hown, hts, hK, hA, hZ⟩ := id C
  have hl : lv_has ls 5 [(0, .ref (ad 0)), (1, .int x1), (2, .int x2), (3, .int x3)] := hl
  unfold fX7_sheet at hf
  refine lv_aload_n hx hb dX7_sheet_0 rfl (lv_at hl 0 rfl) ?_
  refine lv_iconst (v := 0) hx hb dX7_sheet_1 (by decide) ?_
  refine x_put C h (gM_Mo κ ad σ) rfl inX7_sheet_X7 tyX7 tyX7_ok nmX7 0 (by decide) (hts _ lkX7_sheet_62) rfl (tyX7_ok 0 (by decide)) (Nat.le_of_ble_eq_true rfl) (sM_Mo_0 κ ad σ 0) dX7_sheet_2 (fun H locs h => ?_)
  refine lv_iload_n hx hb dX7_sheet_5 rfl (lv_at hl 1 rfl) ?_
  refine x_si (As := [.int x1]) (rest := []) C h (kX7_isSheet l D κ ad x1 (up2 σ 0 0 0) (r := (fX7_isSheet x1 (up2 σ 0 0 0))) rfl) (fun hts => va_cwS 1 hts gX7_sheet_X7_isSheet rfl rfl rfl (by decide +kernel) ⟨Nat.le_of_ble_eq_true rfl, Nat.le_of_ble_eq_true rfl⟩) rfl hl.1 (Nat.le_of_ble_eq_true rfl) rfl dX7_sheet_6 (fun H locs h => ?_)
  refine lv_if_ne (tgt := 14) hx hb dX7_sheet_9 (by decide) (fun c3 => ?_) (fun c3 => ?_)
  · have hf := tk_f c3 hf
    refine lv_iload_n hx hb dX7_sheet_14 rfl (lv_at hl 2 rfl) ?_
    refine x_si (As := [.int x2]) (rest := []) C h (kX7_isSort l D κ ad x2 (up2 σ 0 0 0) (r := (fX7_isSort x2 (up2 σ 0 0 0))) rfl) (fun hts => va_cwS 1 hts gX7_sheet_X7_isSort rfl rfl rfl (by decide +kernel) ⟨Nat.le_of_ble_eq_true rfl, Nat.le_of_ble_eq_true rfl⟩) rfl hl.1 (Nat.le_of_ble_eq_true rfl) rfl dX7_sheet_15 (fun H locs h => ?_)
    refine lv_if_eq (tgt := 27) hx hb dX7_sheet_18 (by decide) (fun c4 => ?_) (fun c4 => ?_)
    · have hf := tk_t c4 hf
      refine lv_bipush (v := (-2)) hx hb dX7_sheet_27 (by decide) ?_
      obtain ⟨rfl, rfl⟩ := pr_ok hf
      exact x_iret C h dX7_sheet_29
    · have hf := tk_f c4 hf
      refine lv_iload_n hx hb dX7_sheet_21 rfl (lv_at hl 3 rfl) ?_
      refine lv_bipush (v := 60) hx hb dX7_sheet_22 (by decide) ?_
      refine lv_icmp_le (tgt := 30) hx hb dX7_sheet_24 (by decide) (fun c5 => ?_) (fun c5 => ?_)
      · have hf := tk_t c5 hf
        refine lv_iload_n hx hb dX7_sheet_30 rfl (lv_at hl 3 rfl) ?_
        refine lv_if_ge (tgt := 40) hx hb dX7_sheet_31 (by decide) (fun c6 => ?_) (fun c6 => ?_)
        · have hf := tk_t c6 hf
          refine lv_aload_n hx hb dX7_sheet_40 rfl (lv_at hl 0 rfl) ?_
          refine x_get (v := .ref (ad 1)) C h (gM_Mo κ ad (up2 σ 0 0 0)) rfl inX7_sheet_X7 2 (by decide) (hts _ lkX7_sheet_9) rfl dX7_sheet_41 ?_
          refine lv_iload_n hx hb dX7_sheet_44 rfl (lv_at hl 1 rfl) ?_
          refine lv_iload_n hx hb dX7_sheet_45 rfl (lv_at hl 2 rfl) ?_
          obtain ⟨g7, hf⟩ := gd_ok hf
          refine x_iast C h (gM_m_sorts κ ad (up2 σ 0 0 0)) (sM_m_sorts κ ad (up2 σ 0 0 0) x1.toNatClampNeg x2) g7 dX7_sheet_46 (fun H locs h => ?_)
          refine lv_aload_n hx hb dX7_sheet_47 rfl (lv_at hl 0 rfl) ?_
          refine x_get (v := .ref (ad 2)) C h (gM_Mo κ ad (up2 (up2 σ 0 0 0) 1 x1.toNatClampNeg x2)) rfl inX7_sheet_X7 3 (by decide) (hts _ lkX7_sheet_13) rfl dX7_sheet_48 ?_
          refine lv_iload_n hx hb dX7_sheet_51 rfl (lv_at hl 1 rfl) ?_
          refine lv_iload_n hx hb dX7_sheet_52 rfl (lv_at hl 3 rfl) ?_
          refine x_iast C h (gM_m_sheetLong κ ad (up2 (up2 σ 0 0 0) 1 x1.toNatClampNeg x2)) (sM_m_sheetLong κ ad (up2 (up2 σ 0 0 0) 1 x1.toNatClampNeg x2) x1.toNatClampNeg x3) g7 dX7_sheet_53 (fun H locs h => ?_)
          refine lv_iconst (v := 0) hx hb dX7_sheet_54 (by decide) ?_
          refine lv_istore (lv' := [(4, .int 0), (0, .ref (ad 0)), (1, .int x1), (2, .int x2), (3, .int x3)]) hx hb dX7_sheet_55 hl (by decide) rfl (fun ls hl => ?_)
          exact jX7_sheet_57 C x1 1000 0 (up2 (up2 (up2 σ 0 0 0) 1 x1.toNatClampNeg x2) 2 x1.toNatClampNeg x3) _ _ _ h (lv_sub hl [1, 2, 0] rfl) hf
        · have hf := tk_f c6 hf
          refine lv_aload_n hx hb dX7_sheet_34 rfl (lv_at hl 0 rfl) ?_
          refine lv_iconst (v := 4) hx hb dX7_sheet_35 (by decide) ?_
          refine x_vi (As := [.int 4]) (rest := []) C h (gM_Mo κ ad (up2 σ 0 0 0)) rfl (kX7_fails l D κ ad 4 (up2 σ 0 0 0) (r := (fX7_fails 4 (up2 σ 0 0 0)).1) (τ := (fX7_fails 4 (up2 σ 0 0 0)).2) rfl) (fun hts => cwV 1 hts gX7_sheet_X7_fails rfl rfl rfl (by decide +kernel) ⟨Nat.le_of_ble_eq_true rfl, Nat.le_of_ble_eq_true rfl⟩) rfl hl.1 (Nat.le_of_ble_eq_true rfl) rfl dX7_sheet_36 (fun H locs h => ?_)
          obtain ⟨rfl, rfl⟩ := pr_ok hf
          exact x_iret C h dX7_sheet_39
      · have hf := tk_f c5 hf
        refine lv_bipush (v := (-2)) hx hb dX7_sheet_27 (by decide) ?_
        obtain ⟨rfl, rfl⟩ := pr_ok hf
        exact x_iret C h dX7_sheet_29
  · have hf := tk_t c3 hf
    refine lv_iconst (v := (-1)) hx hb dX7_sheet_12 (by decide) ?_
    obtain ⟨rfl, rfl⟩ := pr_ok hf
    exact x_iret C h dX7_sheet_13

-- ===== X7_lose: ButtonMatchModel.lose(I)I
theorem lkX7_lose_9 : Cond.fieldLink RX7 9 "ButtonMatchModel" "sorts" "[I" ∈ wsX7_lose := by decide +kernel
theorem inX7_lose_X7 : ∀ w ∈ wsX70, w ∈ wsX7_lose := fun _ h => List.mem_cons_of_mem _ (List.mem_append_right _ h)
def fX7_lose_25 (x1 : Int32) (z0 : Int32) (σ : Sg) : Option (Int32 × Sg) :=
  (if gIn x1 4 then some (z0, (up2 σ 1 x1.toNatClampNeg (-9))) else none)
set_option maxHeartbeats 4000000 in
set_option maxRecDepth 100000 in
theorem jX7_lose_25 {p : Program} {l : Launch} {e : Env} {s : State} {m : MethodId} {args : Array Value} {below : List Frame} {meth : Method} {c : Code} {D : va_G} {κ : Kp} {ad : Nat → Nat} {A : Nat → Prop} {r : Int32} {τ : Sg} (C : Mc p s m args meth c cX7_lose 3 (some .int) wsX7_lose RX7 D κ A) (x1 : Int32) (z0 : Int32) (σ : Sg) (H : Heap) (locs : List Loc) (ls : Array Slot) (h : Wd D (wsM κ ad) A s.heap H locs σ) (hl : lv_has ls 3 [(0, .ref (ad 0)), (1, .int x1)]) (hf : fX7_lose_25  x1 z0 σ = some (r, τ)) : W p l e { frames := 2, cells := 0, slots := 0, locals := 42 } s m args below meth c H locs 0 0 (Qi below args s D (wsM κ ad) A r τ) (F0 m 25 ls [.int z0]) := by
  obtain ⟨hx, hb, hml, hr, hlk, hown, hts, hK, hA, hZ⟩ := id C
  unfold fX7_lose_25 at hf
  refine lv_istore_n (lv' := [(2, .int z0), (0, .ref (ad 0)), (1, .int x1)]) hx hb dX7_lose_25 rfl hl (by decide) rfl (fun ls hl => ?_)
  refine lv_aload_n hx hb dX7_lose_26 rfl (lv_at hl 1 rfl) ?_
  refine x_get (v := .ref (ad 1)) C h (gM_Mo κ ad σ) rfl inX7_lose_X7 2 (by decide) (hts _ lkX7_lose_9) rfl dX7_lose_27 ?_
  refine lv_iload_n hx hb dX7_lose_30 rfl (lv_at hl 2 rfl) ?_
  refine lv_bipush (v := (-9)) hx hb dX7_lose_31 (by decide) ?_
  obtain ⟨g1, hf⟩ := gd_ok hf
  refine x_iast C h (gM_m_sorts κ ad σ) (sM_m_sorts κ ad σ x1.toNatClampNeg (-9)) g1 dX7_lose_33 (fun H locs h => ?_)
  refine lv_iload_n hx hb dX7_lose_34 rfl (lv_at hl 0 rfl) ?_
  obtain ⟨rfl, rfl⟩ := pr_ok hf
  exact x_iret C h dX7_lose_35
def fX7_lose (x1 : Int32) (σ : Sg) : Option (Int32 × Sg) :=
  (if (fX7_isSheet x1 σ) = 0 then some ((-1), σ) else (if gIn x1 4 then (if (σ 1 x1.toNatClampNeg) = (-9) then fX7_lose_25 x1 0 σ else fX7_lose_25 x1 1 σ) else none))
set_option maxHeartbeats 4000000 in
set_option maxRecDepth 100000 in
theorem kX7_lose (l : Launch) (D : va_G) (κ : Kp) (ad : Nat → Nat) (x1 : Int32) (σ : Sg) {r : Int32} {τ : Sg} (hf : fX7_lose x1 σ = some (r, τ)) : Ci l D κ (wsM κ ad) yX7_lose wsX7_lose 2 42 [.ref (ad 0), .int x1] σ r τ := by
  refine Ci.of (cc := cX7_lose) (nL := 3) (ret := (some .int)) (by decide) rfl (Nat.le_of_ble_eq_true rfl) ?_
  intro p e s m below meth c A ls C h hl
  obtain ⟨hx, hb, hml, hr, hlk, hown, hts, hK, hA, hZ⟩ := id C
  have hl : lv_has ls 3 [(0, .ref (ad 0)), (1, .int x1)] := hl
  unfold fX7_lose at hf
  refine lv_iload_n hx hb dX7_lose_0 rfl (lv_at hl 1 rfl) ?_
  refine x_si (As := [.int x1]) (rest := []) C h (kX7_isSheet l D κ ad x1 σ (r := (fX7_isSheet x1 σ)) rfl) (fun hts => va_cwS 1 hts gX7_lose_X7_isSheet rfl rfl rfl (by decide +kernel) ⟨Nat.le_of_ble_eq_true rfl, Nat.le_of_ble_eq_true rfl⟩) rfl hl.1 (Nat.le_of_ble_eq_true rfl) rfl dX7_lose_1 (fun H locs h => ?_)
  refine lv_if_ne (tgt := 9) hx hb dX7_lose_4 (by decide) (fun c2 => ?_) (fun c2 => ?_)
  · have hf := tk_f c2 hf
    refine lv_aload_n hx hb dX7_lose_9 rfl (lv_at hl 0 rfl) ?_
    refine x_get (v := .ref (ad 1)) C h (gM_Mo κ ad σ) rfl inX7_lose_X7 2 (by decide) (hts _ lkX7_lose_9) rfl dX7_lose_10 ?_
    refine lv_iload_n hx hb dX7_lose_13 rfl (lv_at hl 1 rfl) ?_
    obtain ⟨g3, hf⟩ := gd_ok hf
    refine x_iald (v := (σ 1 x1.toNatClampNeg)) C h (gM_m_sorts κ ad σ) g3 rfl dX7_lose_14 ?_
    refine lv_bipush (v := (-9)) hx hb dX7_lose_15 (by decide) ?_
    refine lv_icmp_ne (tgt := 24) hx hb dX7_lose_17 (by decide) (fun c4 => ?_) (fun c4 => ?_)
    · have hf := tk_f c4 hf
      refine lv_iconst (v := 1) hx hb dX7_lose_24 (by decide) ?_
      exact jX7_lose_25 C x1 1 σ _ _ _ h (lv_sub hl [0, 1] rfl) hf
    · have hf := tk_t c4 hf
      refine lv_iconst (v := 0) hx hb dX7_lose_20 (by decide) ?_
      refine lv_goto (tgt := 25) hx hb dX7_lose_21 (by decide) ?_
      exact jX7_lose_25 C x1 0 σ _ _ _ h (lv_sub hl [0, 1] rfl) hf
  · have hf := tk_t c2 hf
    refine lv_iconst (v := (-1)) hx hb dX7_lose_7 (by decide) ?_
    obtain ⟨rfl, rfl⟩ := pr_ok hf
    exact x_iret C h dX7_lose_8

-- ===== X7_put: ButtonMatchModel.put(III)I
theorem lkX7_put_62 : Cond.fieldLink RX7 62 "ButtonMatchModel" "fault" "I" ∈ wsX7_put := by decide +kernel
theorem inX7_put_X7 : ∀ w ∈ wsX70, w ∈ wsX7_put := fun _ h => List.mem_cons_of_mem _ (List.mem_append_right _ h)
theorem lkX7_put_9 : Cond.fieldLink RX7 9 "ButtonMatchModel" "sorts" "[I" ∈ wsX7_put := by decide +kernel
theorem lkX7_put_13 : Cond.fieldLink RX7 13 "ButtonMatchModel" "sheetLong" "[I" ∈ wsX7_put := by decide +kernel
theorem lkX7_put_16 : Cond.fieldLink RX7 16 "ButtonMatchModel" "cells" "[I" ∈ wsX7_put := by decide +kernel
def fX7_put (x1 : Int32) (x2 : Int32) (x3 : Int32) (σ : Sg) : Option (Int32 × Sg) :=
  (if (fX7_isSheet x1 (up2 σ 0 0 0)) = 0 then some ((-1), (up2 σ 0 0 0)) else (if gIn x1 4 then (if (σ 1 x1.toNatClampNeg) = (-9) then some ((fX7_fails 1 (up2 σ 0 0 0)).1, (fX7_fails 1 (up2 σ 0 0 0)).2) else (if (fX7_within x2 0 ((σ 2 x1.toNatClampNeg) - 1) (up2 σ 0 0 0)) = 0 then some ((fX7_fails 3 (up2 σ 0 0 0)).1, (fX7_fails 3 (up2 σ 0 0 0)).2) else (if (σ 1 x1.toNatClampNeg) = 0 then (if gIn ((60 * x1) + x2) 240 then some (1, (up2 (up2 σ 0 0 0) 3 (((60 * x1) + x2).toNatClampNeg) x3.toInt8.toInt32)) else none) else (if (σ 1 x1.toNatClampNeg) = 1 then (if gIn ((60 * x1) + x2) 240 then some (1, (up2 (up2 σ 0 0 0) 3 (((60 * x1) + x2).toNatClampNeg) x3.toInt16.toInt32)) else none) else (if gIn ((60 * x1) + x2) 240 then some (1, (up2 (up2 σ 0 0 0) 3 (((60 * x1) + x2).toNatClampNeg) x3)) else none))))) else none))
set_option maxHeartbeats 4000000 in
set_option maxRecDepth 100000 in
theorem kX7_put (l : Launch) (D : va_G) (κ : Kp) (ad : Nat → Nat) (x1 : Int32) (x2 : Int32) (x3 : Int32) (σ : Sg) {r : Int32} {τ : Sg} (hf : fX7_put x1 x2 x3 σ = some (r, τ)) : Ci l D κ (wsM κ ad) yX7_put wsX7_put 2 42 [.ref (ad 0), .int x1, .int x2, .int x3] σ r τ := by
  refine Ci.of (cc := cX7_put) (nL := 4) (ret := (some .int)) (by decide) rfl (Nat.le_of_ble_eq_true rfl) ?_
  intro p e s m below meth c A ls C h hl
  obtain ⟨hx, hb, hml, hr, hlk, hown, hts, hK, hA, hZ⟩ := id C
  have hl : lv_has ls 4 [(0, .ref (ad 0)), (1, .int x1), (2, .int x2), (3, .int x3)] := hl
  unfold fX7_put at hf
  refine lv_aload_n hx hb dX7_put_0 rfl (lv_at hl 0 rfl) ?_
  refine lv_iconst (v := 0) hx hb dX7_put_1 (by decide) ?_
  refine x_put C h (gM_Mo κ ad σ) rfl inX7_put_X7 tyX7 tyX7_ok nmX7 0 (by decide) (hts _ lkX7_put_62) rfl (tyX7_ok 0 (by decide)) (Nat.le_of_ble_eq_true rfl) (sM_Mo_0 κ ad σ 0) dX7_put_2 (fun H locs h => ?_)
  refine lv_iload_n hx hb dX7_put_5 rfl (lv_at hl 1 rfl) ?_
  refine x_si (As := [.int x1]) (rest := []) C h (kX7_isSheet l D κ ad x1 (up2 σ 0 0 0) (r := (fX7_isSheet x1 (up2 σ 0 0 0))) rfl) (fun hts => va_cwS 1 hts gX7_put_X7_isSheet rfl rfl rfl (by decide +kernel) ⟨Nat.le_of_ble_eq_true rfl, Nat.le_of_ble_eq_true rfl⟩) rfl hl.1 (Nat.le_of_ble_eq_true rfl) rfl dX7_put_6 (fun H locs h => ?_)
  refine lv_if_ne (tgt := 14) hx hb dX7_put_9 (by decide) (fun c1 => ?_) (fun c1 => ?_)
  · have hf := tk_f c1 hf
    refine lv_aload_n hx hb dX7_put_14 rfl (lv_at hl 0 rfl) ?_
    refine x_get (v := .ref (ad 1)) C h (gM_Mo κ ad (up2 σ 0 0 0)) rfl inX7_put_X7 2 (by decide) (hts _ lkX7_put_9) rfl dX7_put_15 ?_
    refine lv_iload_n hx hb dX7_put_18 rfl (lv_at hl 1 rfl) ?_
    obtain ⟨g2, hf⟩ := gd_ok hf
    refine x_iald (v := (σ 1 x1.toNatClampNeg)) C h (gM_m_sorts κ ad (up2 σ 0 0 0)) g2 rfl dX7_put_19 ?_
    refine lv_bipush (v := (-9)) hx hb dX7_put_20 (by decide) ?_
    refine lv_icmp_ne (tgt := 31) hx hb dX7_put_22 (by decide) (fun c3 => ?_) (fun c3 => ?_)
    · have hf := tk_f c3 hf
      refine lv_iload_n hx hb dX7_put_31 rfl (lv_at hl 2 rfl) ?_
      refine lv_iconst (v := 0) hx hb dX7_put_32 (by decide) ?_
      refine lv_aload_n hx hb dX7_put_33 rfl (lv_at hl 0 rfl) ?_
      refine x_get (v := .ref (ad 2)) C h (gM_Mo κ ad (up2 σ 0 0 0)) rfl inX7_put_X7 3 (by decide) (hts _ lkX7_put_13) rfl dX7_put_34 ?_
      refine lv_iload_n hx hb dX7_put_37 rfl (lv_at hl 1 rfl) ?_
      refine x_iald (v := (σ 2 x1.toNatClampNeg)) C h (gM_m_sheetLong κ ad (up2 σ 0 0 0)) g2 rfl dX7_put_38 ?_
      refine lv_iconst (v := 1) hx hb dX7_put_39 (by decide) ?_
      refine lv_isub hx hb dX7_put_40 ?_
      refine x_si (As := [.int x2, .int 0, .int ((σ 2 x1.toNatClampNeg) - 1)]) (rest := []) C h (kX7_within l D κ ad x2 0 ((σ 2 x1.toNatClampNeg) - 1) (up2 σ 0 0 0) (r := (fX7_within x2 0 ((σ 2 x1.toNatClampNeg) - 1) (up2 σ 0 0 0))) rfl) (fun hts => va_cwS 3 hts gX7_put_X7_within rfl rfl rfl (by decide +kernel) ⟨Nat.le_of_ble_eq_true rfl, Nat.le_of_ble_eq_true rfl⟩) rfl hl.1 (Nat.le_of_ble_eq_true rfl) rfl dX7_put_41 (fun H locs h => ?_)
      refine lv_if_ne (tgt := 53) hx hb dX7_put_44 (by decide) (fun c4 => ?_) (fun c4 => ?_)
      · have hf := tk_f c4 hf
        refine lv_aload_n hx hb dX7_put_53 rfl (lv_at hl 0 rfl) ?_
        refine x_get (v := .ref (ad 3)) C h (gM_Mo κ ad (up2 σ 0 0 0)) rfl inX7_put_X7 4 (by decide) (hts _ lkX7_put_16) rfl dX7_put_54 ?_
        refine lv_bipush (v := 60) hx hb dX7_put_57 (by decide) ?_
        refine lv_iload_n hx hb dX7_put_59 rfl (lv_at hl 1 rfl) ?_
        refine lv_imul hx hb dX7_put_60 ?_
        refine lv_iload_n hx hb dX7_put_61 rfl (lv_at hl 2 rfl) ?_
        refine lv_iadd hx hb dX7_put_62 ?_
        refine lv_aload_n hx hb dX7_put_63 rfl (lv_at hl 0 rfl) ?_
        refine x_get (v := .ref (ad 1)) C h (gM_Mo κ ad (up2 σ 0 0 0)) rfl inX7_put_X7 2 (by decide) (hts _ lkX7_put_9) rfl dX7_put_64 ?_
        refine lv_iload_n hx hb dX7_put_67 rfl (lv_at hl 1 rfl) ?_
        refine x_iald (v := (σ 1 x1.toNatClampNeg)) C h (gM_m_sorts κ ad (up2 σ 0 0 0)) g2 rfl dX7_put_68 ?_
        refine lv_if_ne (tgt := 77) hx hb dX7_put_69 (by decide) (fun c5 => ?_) (fun c5 => ?_)
        · have hf := tk_f c5 hf
          refine lv_aload_n hx hb dX7_put_77 rfl (lv_at hl 0 rfl) ?_
          refine x_get (v := .ref (ad 1)) C h (gM_Mo κ ad (up2 σ 0 0 0)) rfl inX7_put_X7 2 (by decide) (hts _ lkX7_put_9) rfl dX7_put_78 ?_
          refine lv_iload_n hx hb dX7_put_81 rfl (lv_at hl 1 rfl) ?_
          refine x_iald (v := (σ 1 x1.toNatClampNeg)) C h (gM_m_sorts κ ad (up2 σ 0 0 0)) g2 rfl dX7_put_82 ?_
          refine lv_iconst (v := 1) hx hb dX7_put_83 (by decide) ?_
          refine lv_icmp_ne (tgt := 92) hx hb dX7_put_84 (by decide) (fun c6 => ?_) (fun c6 => ?_)
          · have hf := tk_f c6 hf
            refine lv_iload_n hx hb dX7_put_92 rfl (lv_at hl 3 rfl) ?_
            obtain ⟨g7, hf⟩ := gd_ok hf
            refine x_iast C h (gM_m_cells κ ad (up2 σ 0 0 0)) (sM_m_cells κ ad (up2 σ 0 0 0) (((60 * x1) + x2).toNatClampNeg) x3) g7 dX7_put_93 (fun H locs h => ?_)
            refine lv_iconst (v := 1) hx hb dX7_put_94 (by decide) ?_
            obtain ⟨rfl, rfl⟩ := pr_ok hf
            exact x_iret C h dX7_put_95
          · have hf := tk_t c6 hf
            refine lv_iload_n hx hb dX7_put_87 rfl (lv_at hl 3 rfl) ?_
            refine lv_i2s (v := x3.toInt16.toInt32) hx hb dX7_put_88 rfl ?_
            refine lv_goto (tgt := 93) hx hb dX7_put_89 (by decide) ?_
            obtain ⟨g8, hf⟩ := gd_ok hf
            refine x_iast C h (gM_m_cells κ ad (up2 σ 0 0 0)) (sM_m_cells κ ad (up2 σ 0 0 0) (((60 * x1) + x2).toNatClampNeg) x3.toInt16.toInt32) g8 dX7_put_93 (fun H locs h => ?_)
            refine lv_iconst (v := 1) hx hb dX7_put_94 (by decide) ?_
            obtain ⟨rfl, rfl⟩ := pr_ok hf
            exact x_iret C h dX7_put_95
        · have hf := tk_t c5 hf
          refine lv_iload_n hx hb dX7_put_72 rfl (lv_at hl 3 rfl) ?_
          refine lv_i2b (v := x3.toInt8.toInt32) hx hb dX7_put_73 rfl ?_
          refine lv_goto (tgt := 93) hx hb dX7_put_74 (by decide) ?_
          obtain ⟨g9, hf⟩ := gd_ok hf
          refine x_iast C h (gM_m_cells κ ad (up2 σ 0 0 0)) (sM_m_cells κ ad (up2 σ 0 0 0) (((60 * x1) + x2).toNatClampNeg) x3.toInt8.toInt32) g9 dX7_put_93 (fun H locs h => ?_)
          refine lv_iconst (v := 1) hx hb dX7_put_94 (by decide) ?_
          obtain ⟨rfl, rfl⟩ := pr_ok hf
          exact x_iret C h dX7_put_95
      · have hf := tk_t c4 hf
        refine lv_aload_n hx hb dX7_put_47 rfl (lv_at hl 0 rfl) ?_
        refine lv_iconst (v := 3) hx hb dX7_put_48 (by decide) ?_
        refine x_vi (As := [.int 3]) (rest := []) C h (gM_Mo κ ad (up2 σ 0 0 0)) rfl (kX7_fails l D κ ad 3 (up2 σ 0 0 0) (r := (fX7_fails 3 (up2 σ 0 0 0)).1) (τ := (fX7_fails 3 (up2 σ 0 0 0)).2) rfl) (fun hts => cwV 1 hts gX7_put_X7_fails rfl rfl rfl (by decide +kernel) ⟨Nat.le_of_ble_eq_true rfl, Nat.le_of_ble_eq_true rfl⟩) rfl hl.1 (Nat.le_of_ble_eq_true rfl) rfl dX7_put_49 (fun H locs h => ?_)
        obtain ⟨rfl, rfl⟩ := pr_ok hf
        exact x_iret C h dX7_put_52
    · have hf := tk_t c3 hf
      refine lv_aload_n hx hb dX7_put_25 rfl (lv_at hl 0 rfl) ?_
      refine lv_iconst (v := 1) hx hb dX7_put_26 (by decide) ?_
      refine x_vi (As := [.int 1]) (rest := []) C h (gM_Mo κ ad (up2 σ 0 0 0)) rfl (kX7_fails l D κ ad 1 (up2 σ 0 0 0) (r := (fX7_fails 1 (up2 σ 0 0 0)).1) (τ := (fX7_fails 1 (up2 σ 0 0 0)).2) rfl) (fun hts => cwV 1 hts gX7_put_X7_fails rfl rfl rfl (by decide +kernel) ⟨Nat.le_of_ble_eq_true rfl, Nat.le_of_ble_eq_true rfl⟩) rfl hl.1 (Nat.le_of_ble_eq_true rfl) rfl dX7_put_27 (fun H locs h => ?_)
      obtain ⟨rfl, rfl⟩ := pr_ok hf
      exact x_iret C h dX7_put_30
  · have hf := tk_t c1 hf
    refine lv_iconst (v := (-1)) hx hb dX7_put_12 (by decide) ?_
    obtain ⟨rfl, rfl⟩ := pr_ok hf
    exact x_iret C h dX7_put_13

-- ===== X7_lost: ButtonMatchModel.lost(I)J
theorem lkX7_lost_62 : Cond.fieldLink RX7 62 "ButtonMatchModel" "fault" "I" ∈ wsX7_lost := by decide +kernel
theorem inX7_lost_X7 : ∀ w ∈ wsX70, w ∈ wsX7_lost := fun _ h => List.mem_cons_of_mem _ (List.mem_append_right _ h)
theorem lkX7_lost_66 : Cond.constantLong RX7 66 (-9223372036854775808) ∈ wsX7_lost := by decide +kernel
def fX7_lost (x1 : Int32) (σ : Sg) : Int64 × Sg :=
  ((-9223372036854775808), (up2 σ 0 0 x1))
set_option maxHeartbeats 4000000 in
set_option maxRecDepth 100000 in
theorem kX7_lost (l : Launch) (D : va_G) (κ : Kp) (ad : Nat → Nat) (x1 : Int32) (σ : Sg) {r : Int64} {τ : Sg} (hf : fX7_lost x1 σ = (r, τ)) : Cl l D κ (wsM κ ad) yX7_lost wsX7_lost 0 0 [.ref (ad 0), .int x1] σ r τ := by
  refine Cl.of (cc := cX7_lost) (nL := 2) (ret := (some .long)) (by decide) rfl (Nat.le_of_ble_eq_true rfl) ?_
  intro p e s m below meth c A ls C h hl
  obtain ⟨hx, hb, hml, hr, hlk, hown, hts, hK, hA, hZ⟩ := id C
  have hl : lv_has ls 2 [(0, .ref (ad 0)), (1, .int x1)] := hl
  unfold fX7_lost at hf
  refine lv_aload_n hx hb dX7_lost_0 rfl (lv_at hl 0 rfl) ?_
  refine lv_iload_n hx hb dX7_lost_1 rfl (lv_at hl 1 rfl) ?_
  refine x_put C h (gM_Mo κ ad σ) rfl inX7_lost_X7 tyX7 tyX7_ok nmX7 0 (by decide) (hts _ lkX7_lost_62) rfl (tyX7_ok 0 (by decide)) (Nat.le_of_ble_eq_true rfl) (sM_Mo_0 κ ad σ x1) dX7_lost_2 (fun H locs h => ?_)
  refine lv_ldc2 (v := (-9223372036854775808)) hx hb hown (hts _ lkX7_lost_66) dX7_lost_5 ?_
  obtain ⟨rfl, rfl⟩ := pr_tot hf
  exact x_lret C h dX7_lost_8

-- ===== X7_cell: ButtonMatchModel.cell(III)J
theorem lkX7_cell_9 : Cond.fieldLink RX7 9 "ButtonMatchModel" "sorts" "[I" ∈ wsX7_cell := by decide +kernel
theorem inX7_cell_X7 : ∀ w ∈ wsX70, w ∈ wsX7_cell := fun _ h => List.mem_cons_of_mem _ (List.mem_append_right _ h)
theorem lkX7_cell_13 : Cond.fieldLink RX7 13 "ButtonMatchModel" "sheetLong" "[I" ∈ wsX7_cell := by decide +kernel
theorem lkX7_cell_16 : Cond.fieldLink RX7 16 "ButtonMatchModel" "cells" "[I" ∈ wsX7_cell := by decide +kernel
theorem lkX7_cell_62 : Cond.fieldLink RX7 62 "ButtonMatchModel" "fault" "I" ∈ wsX7_cell := by decide +kernel
theorem lkX7_cell_66 : Cond.constantLong RX7 66 (-9223372036854775808) ∈ wsX7_cell := by decide +kernel
def fX7_cell_50 (x1 : Int32) (x2 : Int32) (σ : Sg) : Option (Int64 × Sg) :=
  (if gIn x1 4 then (if (σ 1 x1.toNatClampNeg) = (-9) then some ((fX7_lost 1 σ).1, (fX7_lost 1 σ).2) else (if (fX7_within x2 0 ((σ 2 x1.toNatClampNeg) - 1) σ) = 0 then some ((fX7_lost 3 σ).1, (fX7_lost 3 σ).2) else (if gIn ((60 * x1) + x2) 240 then some ((σ 3 (((60 * x1) + x2).toNatClampNeg)).toInt64, σ) else none))) else none)
set_option maxHeartbeats 4000000 in
set_option maxRecDepth 100000 in
theorem jX7_cell_50 {p : Program} {l : Launch} {e : Env} {s : State} {m : MethodId} {args : Array Value} {below : List Frame} {meth : Method} {c : Code} {D : va_G} {κ : Kp} {ad : Nat → Nat} {A : Nat → Prop} {r : Int64} {τ : Sg} (C : Mc p s m args meth c cX7_cell 4 (some .long) wsX7_cell RX7 D κ A) (x1 : Int32) (x2 : Int32) (σ : Sg) (H : Heap) (locs : List Loc) (ls : Array Slot) (h : Wd D (wsM κ ad) A s.heap H locs σ) (hl : lv_has ls 4 [(0, .ref (ad 0)), (1, .int x1), (2, .int x2)]) (hf : fX7_cell_50  x1 x2 σ = some (r, τ)) : W p l e { frames := 2, cells := 0, slots := 0, locals := 42 } s m args below meth c H locs 0 0 (Ql below args s D (wsM κ ad) A r τ) (F0 m 50 ls []) := by
  obtain ⟨hx, hb, hml, hr, hlk, hown, hts, hK, hA, hZ⟩ := id C
  unfold fX7_cell_50 at hf
  refine lv_aload_n hx hb dX7_cell_50 rfl (lv_at hl 0 rfl) ?_
  refine x_get (v := .ref (ad 1)) C h (gM_Mo κ ad σ) rfl inX7_cell_X7 2 (by decide) (hts _ lkX7_cell_9) rfl dX7_cell_51 ?_
  refine lv_iload_n hx hb dX7_cell_54 rfl (lv_at hl 1 rfl) ?_
  obtain ⟨g1, hf⟩ := gd_ok hf
  refine x_iald (v := (σ 1 x1.toNatClampNeg)) C h (gM_m_sorts κ ad σ) g1 rfl dX7_cell_55 ?_
  refine lv_bipush (v := (-9)) hx hb dX7_cell_56 (by decide) ?_
  refine lv_icmp_ne (tgt := 67) hx hb dX7_cell_58 (by decide) (fun c2 => ?_) (fun c2 => ?_)
  · have hf := tk_f c2 hf
    refine lv_iload_n hx hb dX7_cell_67 rfl (lv_at hl 2 rfl) ?_
    refine lv_iconst (v := 0) hx hb dX7_cell_68 (by decide) ?_
    refine lv_aload_n hx hb dX7_cell_69 rfl (lv_at hl 0 rfl) ?_
    refine x_get (v := .ref (ad 2)) C h (gM_Mo κ ad σ) rfl inX7_cell_X7 3 (by decide) (hts _ lkX7_cell_13) rfl dX7_cell_70 ?_
    refine lv_iload_n hx hb dX7_cell_73 rfl (lv_at hl 1 rfl) ?_
    refine x_iald (v := (σ 2 x1.toNatClampNeg)) C h (gM_m_sheetLong κ ad σ) g1 rfl dX7_cell_74 ?_
    refine lv_iconst (v := 1) hx hb dX7_cell_75 (by decide) ?_
    refine lv_isub hx hb dX7_cell_76 ?_
    refine x_si (As := [.int x2, .int 0, .int ((σ 2 x1.toNatClampNeg) - 1)]) (rest := []) C h (kX7_within l D κ ad x2 0 ((σ 2 x1.toNatClampNeg) - 1) σ (r := (fX7_within x2 0 ((σ 2 x1.toNatClampNeg) - 1) σ)) rfl) (fun hts => va_cwS 3 hts gX7_cell_X7_within rfl rfl rfl (by decide +kernel) ⟨Nat.le_of_ble_eq_true rfl, Nat.le_of_ble_eq_true rfl⟩) rfl hl.1 (Nat.le_of_ble_eq_true rfl) rfl dX7_cell_77 (fun H locs h => ?_)
    refine lv_if_ne (tgt := 89) hx hb dX7_cell_80 (by decide) (fun c3 => ?_) (fun c3 => ?_)
    · have hf := tk_f c3 hf
      refine lv_aload_n hx hb dX7_cell_89 rfl (lv_at hl 0 rfl) ?_
      refine x_get (v := .ref (ad 3)) C h (gM_Mo κ ad σ) rfl inX7_cell_X7 4 (by decide) (hts _ lkX7_cell_16) rfl dX7_cell_90 ?_
      refine lv_bipush (v := 60) hx hb dX7_cell_93 (by decide) ?_
      refine lv_iload_n hx hb dX7_cell_95 rfl (lv_at hl 1 rfl) ?_
      refine lv_imul hx hb dX7_cell_96 ?_
      refine lv_iload_n hx hb dX7_cell_97 rfl (lv_at hl 2 rfl) ?_
      refine lv_iadd hx hb dX7_cell_98 ?_
      obtain ⟨g4, hf⟩ := gd_ok hf
      refine x_iald (v := (σ 3 (((60 * x1) + x2).toNatClampNeg))) C h (gM_m_cells κ ad σ) g4 rfl dX7_cell_99 ?_
      refine lv_i2l (v := (σ 3 (((60 * x1) + x2).toNatClampNeg)).toInt64) hx hb dX7_cell_100 rfl ?_
      obtain ⟨rfl, rfl⟩ := pr_ok hf
      exact x_lret C h dX7_cell_101
    · have hf := tk_t c3 hf
      refine lv_aload_n hx hb dX7_cell_83 rfl (lv_at hl 0 rfl) ?_
      refine lv_iconst (v := 3) hx hb dX7_cell_84 (by decide) ?_
      refine x_vl (As := [.int 3]) (rest := []) C h (gM_Mo κ ad σ) rfl (kX7_lost l D κ ad 3 σ (r := (fX7_lost 3 σ).1) (τ := (fX7_lost 3 σ).2) rfl) (fun hts => cwV 1 hts gX7_cell_X7_lost rfl rfl rfl (by decide +kernel) ⟨Nat.le_of_ble_eq_true rfl, Nat.le_of_ble_eq_true rfl⟩) rfl hl.1 (Nat.le_of_ble_eq_true rfl) rfl dX7_cell_85 (fun H locs h => ?_)
      obtain ⟨rfl, rfl⟩ := pr_ok hf
      exact x_lret C h dX7_cell_88
  · have hf := tk_t c2 hf
    refine lv_aload_n hx hb dX7_cell_61 rfl (lv_at hl 0 rfl) ?_
    refine lv_iconst (v := 1) hx hb dX7_cell_62 (by decide) ?_
    refine x_vl (As := [.int 1]) (rest := []) C h (gM_Mo κ ad σ) rfl (kX7_lost l D κ ad 1 σ (r := (fX7_lost 1 σ).1) (τ := (fX7_lost 1 σ).2) rfl) (fun hts => cwV 1 hts gX7_cell_X7_lost rfl rfl rfl (by decide +kernel) ⟨Nat.le_of_ble_eq_true rfl, Nat.le_of_ble_eq_true rfl⟩) rfl hl.1 (Nat.le_of_ble_eq_true rfl) rfl dX7_cell_63 (fun H locs h => ?_)
    obtain ⟨rfl, rfl⟩ := pr_ok hf
    exact x_lret C h dX7_cell_66
def fX7_cell (x1 : Int32) (x2 : Int32) (x3 : Int32) (σ : Sg) : Option (Int64 × Sg) :=
  (if (fX7_isSheet x1 (up2 σ 0 0 0)) = 0 then some ((-9223372036854775808), (up2 σ 0 0 0)) else (if (fX7_isSort x3 (up2 σ 0 0 0)) = 0 then some ((-9223372036854775808), (up2 σ 0 0 0)) else (if gIn x1 4 then (if (σ 1 x1.toNatClampNeg) = (-9) then fX7_cell_50 x1 x2 (up2 σ 0 0 0) else (if (σ 1 x1.toNatClampNeg) = x3 then fX7_cell_50 x1 x2 (up2 σ 0 0 0) else some ((fX7_lost 2 (up2 σ 0 0 0)).1, (fX7_lost 2 (up2 σ 0 0 0)).2))) else none)))
set_option maxHeartbeats 4000000 in
set_option maxRecDepth 100000 in
theorem kX7_cell (l : Launch) (D : va_G) (κ : Kp) (ad : Nat → Nat) (x1 : Int32) (x2 : Int32) (x3 : Int32) (σ : Sg) {r : Int64} {τ : Sg} (hf : fX7_cell x1 x2 x3 σ = some (r, τ)) : Cl l D κ (wsM κ ad) yX7_cell wsX7_cell 2 42 [.ref (ad 0), .int x1, .int x2, .int x3] σ r τ := by
  refine Cl.of (cc := cX7_cell) (nL := 4) (ret := (some .long)) (by decide) rfl (Nat.le_of_ble_eq_true rfl) ?_
  intro p e s m below meth c A ls C h hl
  obtain ⟨hx, hb, hml, hr, hlk, hown, hts, hK, hA, hZ⟩ := id C
  have hl : lv_has ls 4 [(0, .ref (ad 0)), (1, .int x1), (2, .int x2), (3, .int x3)] := hl
  unfold fX7_cell at hf
  refine lv_aload_n hx hb dX7_cell_0 rfl (lv_at hl 0 rfl) ?_
  refine lv_iconst (v := 0) hx hb dX7_cell_1 (by decide) ?_
  refine x_put C h (gM_Mo κ ad σ) rfl inX7_cell_X7 tyX7 tyX7_ok nmX7 0 (by decide) (hts _ lkX7_cell_62) rfl (tyX7_ok 0 (by decide)) (Nat.le_of_ble_eq_true rfl) (sM_Mo_0 κ ad σ 0) dX7_cell_2 (fun H locs h => ?_)
  refine lv_iload_n hx hb dX7_cell_5 rfl (lv_at hl 1 rfl) ?_
  refine x_si (As := [.int x1]) (rest := []) C h (kX7_isSheet l D κ ad x1 (up2 σ 0 0 0) (r := (fX7_isSheet x1 (up2 σ 0 0 0))) rfl) (fun hts => va_cwS 1 hts gX7_cell_X7_isSheet rfl rfl rfl (by decide +kernel) ⟨Nat.le_of_ble_eq_true rfl, Nat.le_of_ble_eq_true rfl⟩) rfl hl.1 (Nat.le_of_ble_eq_true rfl) rfl dX7_cell_6 (fun H locs h => ?_)
  refine lv_if_eq (tgt := 19) hx hb dX7_cell_9 (by decide) (fun c5 => ?_) (fun c5 => ?_)
  · have hf := tk_t c5 hf
    refine lv_ldc2 (v := (-9223372036854775808)) hx hb hown (hts _ lkX7_cell_66) dX7_cell_19 ?_
    obtain ⟨rfl, rfl⟩ := pr_ok hf
    exact x_lret C h dX7_cell_22
  · have hf := tk_f c5 hf
    refine lv_iload_n hx hb dX7_cell_12 rfl (lv_at hl 3 rfl) ?_
    refine x_si (As := [.int x3]) (rest := []) C h (kX7_isSort l D κ ad x3 (up2 σ 0 0 0) (r := (fX7_isSort x3 (up2 σ 0 0 0))) rfl) (fun hts => va_cwS 1 hts gX7_cell_X7_isSort rfl rfl rfl (by decide +kernel) ⟨Nat.le_of_ble_eq_true rfl, Nat.le_of_ble_eq_true rfl⟩) rfl hl.1 (Nat.le_of_ble_eq_true rfl) rfl dX7_cell_13 (fun H locs h => ?_)
    refine lv_if_ne (tgt := 23) hx hb dX7_cell_16 (by decide) (fun c6 => ?_) (fun c6 => ?_)
    · have hf := tk_f c6 hf
      refine lv_aload_n hx hb dX7_cell_23 rfl (lv_at hl 0 rfl) ?_
      refine x_get (v := .ref (ad 1)) C h (gM_Mo κ ad (up2 σ 0 0 0)) rfl inX7_cell_X7 2 (by decide) (hts _ lkX7_cell_9) rfl dX7_cell_24 ?_
      refine lv_iload_n hx hb dX7_cell_27 rfl (lv_at hl 1 rfl) ?_
      obtain ⟨g7, hf⟩ := gd_ok hf
      refine x_iald (v := (σ 1 x1.toNatClampNeg)) C h (gM_m_sorts κ ad (up2 σ 0 0 0)) g7 rfl dX7_cell_28 ?_
      refine lv_bipush (v := (-9)) hx hb dX7_cell_29 (by decide) ?_
      refine lv_icmp_eq (tgt := 50) hx hb dX7_cell_31 (by decide) (fun c8 => ?_) (fun c8 => ?_)
      · have hf := tk_t c8 hf
        exact jX7_cell_50 C x1 x2 (up2 σ 0 0 0) _ _ _ h (lv_sub hl [0, 1, 2] rfl) hf
      · have hf := tk_f c8 hf
        refine lv_aload_n hx hb dX7_cell_34 rfl (lv_at hl 0 rfl) ?_
        refine x_get (v := .ref (ad 1)) C h (gM_Mo κ ad (up2 σ 0 0 0)) rfl inX7_cell_X7 2 (by decide) (hts _ lkX7_cell_9) rfl dX7_cell_35 ?_
        refine lv_iload_n hx hb dX7_cell_38 rfl (lv_at hl 1 rfl) ?_
        refine x_iald (v := (σ 1 x1.toNatClampNeg)) C h (gM_m_sorts κ ad (up2 σ 0 0 0)) g7 rfl dX7_cell_39 ?_
        refine lv_iload_n hx hb dX7_cell_40 rfl (lv_at hl 3 rfl) ?_
        refine lv_icmp_eq (tgt := 50) hx hb dX7_cell_41 (by decide) (fun c9 => ?_) (fun c9 => ?_)
        · have hf := tk_t c9 hf
          exact jX7_cell_50 C x1 x2 (up2 σ 0 0 0) _ _ _ h (lv_sub hl [0, 1, 2] rfl) hf
        · have hf := tk_f c9 hf
          refine lv_aload_n hx hb dX7_cell_44 rfl (lv_at hl 0 rfl) ?_
          refine lv_iconst (v := 2) hx hb dX7_cell_45 (by decide) ?_
          refine x_vl (As := [.int 2]) (rest := []) C h (gM_Mo κ ad (up2 σ 0 0 0)) rfl (kX7_lost l D κ ad 2 (up2 σ 0 0 0) (r := (fX7_lost 2 (up2 σ 0 0 0)).1) (τ := (fX7_lost 2 (up2 σ 0 0 0)).2) rfl) (fun hts => cwV 1 hts gX7_cell_X7_lost rfl rfl rfl (by decide +kernel) ⟨Nat.le_of_ble_eq_true rfl, Nat.le_of_ble_eq_true rfl⟩) rfl hl.1 (Nat.le_of_ble_eq_true rfl) rfl dX7_cell_46 (fun H locs h => ?_)
          obtain ⟨rfl, rfl⟩ := pr_ok hf
          exact x_lret C h dX7_cell_49
    · have hf := tk_t c6 hf
      refine lv_ldc2 (v := (-9223372036854775808)) hx hb hown (hts _ lkX7_cell_66) dX7_cell_19 ?_
      obtain ⟨rfl, rfl⟩ := pr_ok hf
      exact x_lret C h dX7_cell_22

-- ===== X7_copy: ButtonMatchModel.copy(IIIII)I
theorem lkX7_copy_16 : Cond.fieldLink RX7 16 "ButtonMatchModel" "cells" "[I" ∈ wsX7_copy := by decide +kernel
theorem inX7_copy_X7 : ∀ w ∈ wsX70, w ∈ wsX7_copy := fun _ h => List.mem_cons_of_mem _ (List.mem_append_right _ h)
theorem lkX7_copy_13 : Cond.fieldLink RX7 13 "ButtonMatchModel" "sheetLong" "[I" ∈ wsX7_copy := by decide +kernel
theorem lkX7_copy_62 : Cond.fieldLink RX7 62 "ButtonMatchModel" "fault" "I" ∈ wsX7_copy := by decide +kernel
theorem lkX7_copy_9 : Cond.fieldLink RX7 9 "ButtonMatchModel" "sorts" "[I" ∈ wsX7_copy := by decide +kernel
def fX7_copy_190 (x1 : Int32) (x2 : Int32) (x3 : Int32) (x4 : Int32) (x5 : Int32) (x7 : Int32) (K166 : Int32 → Sg → Option (Int32 × Sg)) (x8 : Int32) (z0 : Int32) (σ : Sg) : Option (Int32 × Sg) :=
  (if gIn (((60 * x1) + x2) + z0) 240 then (if gIn (((60 * x3) + x4) + z0) 240 then K166 (x8 + 1) (up2 σ 3 ((((60 * x3) + x4) + z0).toNatClampNeg) (σ 3 ((((60 * x1) + x2) + z0).toNatClampNeg))) else none) else none)
set_option maxHeartbeats 4000000 in
set_option maxRecDepth 100000 in
theorem jX7_copy_190 {p : Program} {l : Launch} {e : Env} {s : State} {m : MethodId} {args : Array Value} {below : List Frame} {meth : Method} {c : Code} {D : va_G} {κ : Kp} {ad : Nat → Nat} {A : Nat → Prop} {r : Int32} {τ : Sg} (C : Mc p s m args meth c cX7_copy 10 (some .int) wsX7_copy RX7 D κ A) (x1 : Int32) (x2 : Int32) (x3 : Int32) (x4 : Int32) (x5 : Int32) (x7 : Int32) (K166 : Int32 → Sg → Option (Int32 × Sg)) (hK166 : ∀ (x8 : Int32) (σ : Sg) (H : Heap) (locs : List Loc) (ls : Array Slot), Wd D (wsM κ ad) A s.heap H locs σ → lv_has ls 10 [(0, .ref (ad 0)), (1, .int x1), (2, .int x2), (3, .int x3), (4, .int x4), (5, .int x5), (7, .int x7), (8, .int x8)] → K166 x8 σ = some (r, τ) → W p l e { frames := 2, cells := 0, slots := 0, locals := 42 } s m args below meth c H locs 0 0 (Qi below args s D (wsM κ ad) A r τ) (F0 m 166 ls [])) (x8 : Int32) (z0 : Int32) (σ : Sg) (H : Heap) (locs : List Loc) (ls : Array Slot) (h : Wd D (wsM κ ad) A s.heap H locs σ) (hl : lv_has ls 10 [(0, .ref (ad 0)), (1, .int x1), (2, .int x2), (3, .int x3), (4, .int x4), (5, .int x5), (7, .int x7), (8, .int x8)]) (hf : fX7_copy_190 x1 x2 x3 x4 x5 x7 K166 x8 z0 σ = some (r, τ)) : W p l e { frames := 2, cells := 0, slots := 0, locals := 42 } s m args below meth c H locs 0 0 (Qi below args s D (wsM κ ad) A r τ) (F0 m 190 ls [.int z0]) := by
  obtain ⟨hx, hb, hml, hr, hlk, hown, hts, hK, hA, hZ⟩ := id C
  unfold fX7_copy_190 at hf
  refine lv_istore (lv' := [(9, .int z0), (0, .ref (ad 0)), (1, .int x1), (2, .int x2), (3, .int x3), (4, .int x4), (5, .int x5), (7, .int x7), (8, .int x8)]) hx hb dX7_copy_190 hl (by decide) rfl (fun ls hl => ?_)
  refine lv_aload_n hx hb dX7_copy_192 rfl (lv_at hl 1 rfl) ?_
  refine x_get (v := .ref (ad 3)) C h (gM_Mo κ ad σ) rfl inX7_copy_X7 4 (by decide) (hts _ lkX7_copy_16) rfl dX7_copy_193 ?_
  refine lv_bipush (v := 60) hx hb dX7_copy_196 (by decide) ?_
  refine lv_iload_n hx hb dX7_copy_198 rfl (lv_at hl 4 rfl) ?_
  refine lv_imul hx hb dX7_copy_199 ?_
  refine lv_iload hx hb dX7_copy_200 (lv_at hl 5 rfl) ?_
  refine lv_iadd hx hb dX7_copy_202 ?_
  refine lv_iload hx hb dX7_copy_203 (lv_at hl 0 rfl) ?_
  refine lv_iadd hx hb dX7_copy_205 ?_
  refine lv_aload_n hx hb dX7_copy_206 rfl (lv_at hl 1 rfl) ?_
  refine x_get (v := .ref (ad 3)) C h (gM_Mo κ ad σ) rfl inX7_copy_X7 4 (by decide) (hts _ lkX7_copy_16) rfl dX7_copy_207 ?_
  refine lv_bipush (v := 60) hx hb dX7_copy_210 (by decide) ?_
  refine lv_iload_n hx hb dX7_copy_212 rfl (lv_at hl 2 rfl) ?_
  refine lv_imul hx hb dX7_copy_213 ?_
  refine lv_iload_n hx hb dX7_copy_214 rfl (lv_at hl 3 rfl) ?_
  refine lv_iadd hx hb dX7_copy_215 ?_
  refine lv_iload hx hb dX7_copy_216 (lv_at hl 0 rfl) ?_
  refine lv_iadd hx hb dX7_copy_218 ?_
  obtain ⟨g1, hf⟩ := gd_ok hf
  refine x_iald (v := (σ 3 ((((60 * x1) + x2) + z0).toNatClampNeg))) C h (gM_m_cells κ ad σ) g1 rfl dX7_copy_219 ?_
  obtain ⟨g2, hf⟩ := gd_ok hf
  refine x_iast C h (gM_m_cells κ ad σ) (sM_m_cells κ ad σ ((((60 * x3) + x4) + z0).toNatClampNeg) (σ 3 ((((60 * x1) + x2) + z0).toNatClampNeg))) g2 dX7_copy_220 (fun H locs h => ?_)
  refine lv_iinc (v := (x8 + 1)) (lv' := [(8, .int (x8 + 1)), (9, .int z0), (0, .ref (ad 0)), (1, .int x1), (2, .int x2), (3, .int x3), (4, .int x4), (5, .int x5), (7, .int x7)]) hx hb dX7_copy_221 hl (k := 8) rfl rfl (by decide) rfl (fun ls hl => ?_)
  refine lv_goto (tgt := 166) hx hb dX7_copy_224 (by decide) ?_
  exact hK166 (x8 + 1) (up2 σ 3 ((((60 * x3) + x4) + z0).toNatClampNeg) (σ 3 ((((60 * x1) + x2) + z0).toNatClampNeg))) _ _ _ h (lv_sub hl [2, 3, 4, 5, 6, 7, 8, 0] rfl) hf
def fX7_copy_166 (x1 : Int32) (x2 : Int32) (x3 : Int32) (x4 : Int32) (x5 : Int32) (x7 : Int32) : Nat → Int32 → Sg → Option (Int32 × Sg)
  | 0, _, _ => none
  | n + 1, x8, σ => (if x5 ≤ x8 then some (x5, σ) else (if x7 = 0 then fX7_copy_190 x1 x2 x3 x4 x5 x7 (fX7_copy_166 x1 x2 x3 x4 x5 x7 n) x8 x8 σ else fX7_copy_190 x1 x2 x3 x4 x5 x7 (fX7_copy_166 x1 x2 x3 x4 x5 x7 n) x8 ((x5 - 1) - x8) σ))
set_option maxHeartbeats 4000000 in
set_option maxRecDepth 100000 in
theorem jX7_copy_166 {p : Program} {l : Launch} {e : Env} {s : State} {m : MethodId} {args : Array Value} {below : List Frame} {meth : Method} {c : Code} {D : va_G} {κ : Kp} {ad : Nat → Nat} {A : Nat → Prop} {r : Int32} {τ : Sg} (C : Mc p s m args meth c cX7_copy 10 (some .int) wsX7_copy RX7 D κ A) (x1 : Int32) (x2 : Int32) (x3 : Int32) (x4 : Int32) (x5 : Int32) (x7 : Int32) : ∀ (n : Nat) (x8 : Int32) (σ : Sg) (H : Heap) (locs : List Loc) (ls : Array Slot), Wd D (wsM κ ad) A s.heap H locs σ → lv_has ls 10 [(0, .ref (ad 0)), (1, .int x1), (2, .int x2), (3, .int x3), (4, .int x4), (5, .int x5), (7, .int x7), (8, .int x8)] → fX7_copy_166 x1 x2 x3 x4 x5 x7 n x8 σ = some (r, τ) → W p l e { frames := 2, cells := 0, slots := 0, locals := 42 } s m args below meth c H locs 0 0 (Qi below args s D (wsM κ ad) A r τ) (F0 m 166 ls []) := by
  obtain ⟨hx, hb, hml, hr, hlk, hown, hts, hK, hA, hZ⟩ := id C
  intro n
  induction n with
  | zero =>
    intro x8 σ H locs ls h hl hf
    rw [fX7_copy_166] at hf
    cases hf
  | succ n ih =>
    intro x8 σ H locs ls h hl hf
    rw [fX7_copy_166] at hf
    refine lv_iload hx hb dX7_copy_166 (lv_at hl 7 rfl) ?_
    refine lv_iload hx hb dX7_copy_168 (lv_at hl 5 rfl) ?_
    refine lv_icmp_ge (tgt := 227) hx hb dX7_copy_170 (by decide) (fun c3 => ?_) (fun c3 => ?_)
    · have hf := tk_t c3 hf
      refine lv_iload hx hb dX7_copy_227 (lv_at hl 5 rfl) ?_
      obtain ⟨rfl, rfl⟩ := pr_ok hf
      exact x_iret C h dX7_copy_229
    · have hf := tk_f c3 hf
      refine lv_iload hx hb dX7_copy_173 (lv_at hl 6 rfl) ?_
      refine lv_if_eq (tgt := 188) hx hb dX7_copy_175 (by decide) (fun c4 => ?_) (fun c4 => ?_)
      · have hf := tk_t c4 hf
        refine lv_iload hx hb dX7_copy_188 (lv_at hl 7 rfl) ?_
        exact jX7_copy_190 C x1 x2 x3 x4 x5 x7 (fX7_copy_166 x1 x2 x3 x4 x5 x7 n) ih x8 x8 σ _ _ _ h (lv_sub hl [0, 1, 2, 3, 4, 5, 6, 7] rfl) hf
      · have hf := tk_f c4 hf
        refine lv_iload hx hb dX7_copy_178 (lv_at hl 5 rfl) ?_
        refine lv_iconst (v := 1) hx hb dX7_copy_180 (by decide) ?_
        refine lv_isub hx hb dX7_copy_181 ?_
        refine lv_iload hx hb dX7_copy_182 (lv_at hl 7 rfl) ?_
        refine lv_isub hx hb dX7_copy_184 ?_
        refine lv_goto (tgt := 190) hx hb dX7_copy_185 (by decide) ?_
        exact jX7_copy_190 C x1 x2 x3 x4 x5 x7 (fX7_copy_166 x1 x2 x3 x4 x5 x7 n) ih x8 ((x5 - 1) - x8) σ _ _ _ h (lv_sub hl [0, 1, 2, 3, 4, 5, 6, 7] rfl) hf
def fX7_copy_110 (x1 : Int32) (x2 : Int32) (x3 : Int32) (x4 : Int32) (x5 : Int32) (z0 : Int32) (σ : Sg) : Option (Int32 × Sg) :=
  (if z0 = 0 then some ((fX7_fails 3 σ).1, (fX7_fails 3 σ).2) else (if gIn x1 4 then (if ((σ 2 x1.toNatClampNeg) - x2) < x5 then some ((fX7_fails 3 σ).1, (fX7_fails 3 σ).2) else (if gIn x3 4 then (if x5 ≤ ((σ 2 x3.toNatClampNeg) - x4) then (if x4 ≤ x2 then fX7_copy_166 x1 x2 x3 x4 x5 0 1000 0 σ else fX7_copy_166 x1 x2 x3 x4 x5 1 1000 0 σ) else some ((fX7_fails 3 σ).1, (fX7_fails 3 σ).2)) else none)) else none))
set_option maxHeartbeats 4000000 in
set_option maxRecDepth 100000 in
theorem jX7_copy_110 {p : Program} {l : Launch} {e : Env} {s : State} {m : MethodId} {args : Array Value} {below : List Frame} {meth : Method} {c : Code} {D : va_G} {κ : Kp} {ad : Nat → Nat} {A : Nat → Prop} {r : Int32} {τ : Sg} (C : Mc p s m args meth c cX7_copy 10 (some .int) wsX7_copy RX7 D κ A) (x1 : Int32) (x2 : Int32) (x3 : Int32) (x4 : Int32) (x5 : Int32) (z0 : Int32) (σ : Sg) (H : Heap) (locs : List Loc) (ls : Array Slot) (h : Wd D (wsM κ ad) A s.heap H locs σ) (hl : lv_has ls 10 [(0, .ref (ad 0)), (1, .int x1), (2, .int x2), (3, .int x3), (4, .int x4), (5, .int x5)]) (hf : fX7_copy_110  x1 x2 x3 x4 x5 z0 σ = some (r, τ)) : W p l e { frames := 2, cells := 0, slots := 0, locals := 42 } s m args below meth c H locs 0 0 (Qi below args s D (wsM κ ad) A r τ) (F0 m 110 ls [.int z0]) := by
  obtain ⟨hx, hb, hml, hr, hlk, hown, hts, hK, hA, hZ⟩ := id C
  unfold fX7_copy_110 at hf
  refine lv_istore (lv' := [(6, .int z0), (0, .ref (ad 0)), (1, .int x1), (2, .int x2), (3, .int x3), (4, .int x4), (5, .int x5)]) hx hb dX7_copy_110 hl (by decide) rfl (fun ls hl => ?_)
  refine lv_iload hx hb dX7_copy_112 (lv_at hl 0 rfl) ?_
  refine lv_if_eq (tgt := 144) hx hb dX7_copy_114 (by decide) (fun c5 => ?_) (fun c5 => ?_)
  · have hf := tk_t c5 hf
    refine lv_aload_n hx hb dX7_copy_144 rfl (lv_at hl 1 rfl) ?_
    refine lv_iconst (v := 3) hx hb dX7_copy_145 (by decide) ?_
    refine x_vi (As := [.int 3]) (rest := []) C h (gM_Mo κ ad σ) rfl (kX7_fails l D κ ad 3 σ (r := (fX7_fails 3 σ).1) (τ := (fX7_fails 3 σ).2) rfl) (fun hts => cwV 1 hts gX7_copy_X7_fails rfl rfl rfl (by decide +kernel) ⟨Nat.le_of_ble_eq_true rfl, Nat.le_of_ble_eq_true rfl⟩) rfl hl.1 (Nat.le_of_ble_eq_true rfl) rfl dX7_copy_146 (fun H locs h => ?_)
    obtain ⟨rfl, rfl⟩ := pr_ok hf
    exact x_iret C h dX7_copy_149
  · have hf := tk_f c5 hf
    refine lv_iload hx hb dX7_copy_117 (lv_at hl 6 rfl) ?_
    refine lv_aload_n hx hb dX7_copy_119 rfl (lv_at hl 1 rfl) ?_
    refine x_get (v := .ref (ad 2)) C h (gM_Mo κ ad σ) rfl inX7_copy_X7 3 (by decide) (hts _ lkX7_copy_13) rfl dX7_copy_120 ?_
    refine lv_iload_n hx hb dX7_copy_123 rfl (lv_at hl 2 rfl) ?_
    obtain ⟨g6, hf⟩ := gd_ok hf
    refine x_iald (v := (σ 2 x1.toNatClampNeg)) C h (gM_m_sheetLong κ ad σ) g6 rfl dX7_copy_124 ?_
    refine lv_iload_n hx hb dX7_copy_125 rfl (lv_at hl 3 rfl) ?_
    refine lv_isub hx hb dX7_copy_126 ?_
    refine lv_icmp_gt (tgt := 144) hx hb dX7_copy_127 (by decide) (fun c7 => ?_) (fun c7 => ?_)
    · have hf := tk_t c7 hf
      refine lv_aload_n hx hb dX7_copy_144 rfl (lv_at hl 1 rfl) ?_
      refine lv_iconst (v := 3) hx hb dX7_copy_145 (by decide) ?_
      refine x_vi (As := [.int 3]) (rest := []) C h (gM_Mo κ ad σ) rfl (kX7_fails l D κ ad 3 σ (r := (fX7_fails 3 σ).1) (τ := (fX7_fails 3 σ).2) rfl) (fun hts => cwV 1 hts gX7_copy_X7_fails rfl rfl rfl (by decide +kernel) ⟨Nat.le_of_ble_eq_true rfl, Nat.le_of_ble_eq_true rfl⟩) rfl hl.1 (Nat.le_of_ble_eq_true rfl) rfl dX7_copy_146 (fun H locs h => ?_)
      obtain ⟨rfl, rfl⟩ := pr_ok hf
      exact x_iret C h dX7_copy_149
    · have hf := tk_f c7 hf
      refine lv_iload hx hb dX7_copy_130 (lv_at hl 6 rfl) ?_
      refine lv_aload_n hx hb dX7_copy_132 rfl (lv_at hl 1 rfl) ?_
      refine x_get (v := .ref (ad 2)) C h (gM_Mo κ ad σ) rfl inX7_copy_X7 3 (by decide) (hts _ lkX7_copy_13) rfl dX7_copy_133 ?_
      refine lv_iload_n hx hb dX7_copy_136 rfl (lv_at hl 4 rfl) ?_
      obtain ⟨g8, hf⟩ := gd_ok hf
      refine x_iald (v := (σ 2 x3.toNatClampNeg)) C h (gM_m_sheetLong κ ad σ) g8 rfl dX7_copy_137 ?_
      refine lv_iload hx hb dX7_copy_138 (lv_at hl 5 rfl) ?_
      refine lv_isub hx hb dX7_copy_140 ?_
      refine lv_icmp_le (tgt := 150) hx hb dX7_copy_141 (by decide) (fun c9 => ?_) (fun c9 => ?_)
      · have hf := tk_t c9 hf
        refine lv_iload_n hx hb dX7_copy_150 rfl (lv_at hl 3 rfl) ?_
        refine lv_iload hx hb dX7_copy_151 (lv_at hl 5 rfl) ?_
        refine lv_icmp_ge (tgt := 160) hx hb dX7_copy_153 (by decide) (fun c10 => ?_) (fun c10 => ?_)
        · have hf := tk_t c10 hf
          refine lv_iconst (v := 0) hx hb dX7_copy_160 (by decide) ?_
          refine lv_istore (lv' := [(7, .int 0), (6, .int z0), (0, .ref (ad 0)), (1, .int x1), (2, .int x2), (3, .int x3), (4, .int x4), (5, .int x5)]) hx hb dX7_copy_161 hl (by decide) rfl (fun ls hl => ?_)
          refine lv_iconst (v := 0) hx hb dX7_copy_163 (by decide) ?_
          refine lv_istore (lv' := [(8, .int 0), (7, .int 0), (6, .int z0), (0, .ref (ad 0)), (1, .int x1), (2, .int x2), (3, .int x3), (4, .int x4), (5, .int x5)]) hx hb dX7_copy_164 hl (by decide) rfl (fun ls hl => ?_)
          exact jX7_copy_166 C x1 x2 x3 x4 x5 0 1000 0 σ _ _ _ h (lv_sub hl [3, 4, 5, 6, 7, 8, 1, 0] rfl) hf
        · have hf := tk_f c10 hf
          refine lv_iconst (v := 1) hx hb dX7_copy_156 (by decide) ?_
          refine lv_goto (tgt := 161) hx hb dX7_copy_157 (by decide) ?_
          refine lv_istore (lv' := [(7, .int 1), (6, .int z0), (0, .ref (ad 0)), (1, .int x1), (2, .int x2), (3, .int x3), (4, .int x4), (5, .int x5)]) hx hb dX7_copy_161 hl (by decide) rfl (fun ls hl => ?_)
          refine lv_iconst (v := 0) hx hb dX7_copy_163 (by decide) ?_
          refine lv_istore (lv' := [(8, .int 0), (7, .int 1), (6, .int z0), (0, .ref (ad 0)), (1, .int x1), (2, .int x2), (3, .int x3), (4, .int x4), (5, .int x5)]) hx hb dX7_copy_164 hl (by decide) rfl (fun ls hl => ?_)
          exact jX7_copy_166 C x1 x2 x3 x4 x5 1 1000 0 σ _ _ _ h (lv_sub hl [3, 4, 5, 6, 7, 8, 1, 0] rfl) hf
      · have hf := tk_f c9 hf
        refine lv_aload_n hx hb dX7_copy_144 rfl (lv_at hl 1 rfl) ?_
        refine lv_iconst (v := 3) hx hb dX7_copy_145 (by decide) ?_
        refine x_vi (As := [.int 3]) (rest := []) C h (gM_Mo κ ad σ) rfl (kX7_fails l D κ ad 3 σ (r := (fX7_fails 3 σ).1) (τ := (fX7_fails 3 σ).2) rfl) (fun hts => cwV 1 hts gX7_copy_X7_fails rfl rfl rfl (by decide +kernel) ⟨Nat.le_of_ble_eq_true rfl, Nat.le_of_ble_eq_true rfl⟩) rfl hl.1 (Nat.le_of_ble_eq_true rfl) rfl dX7_copy_146 (fun H locs h => ?_)
        obtain ⟨rfl, rfl⟩ := pr_ok hf
        exact x_iret C h dX7_copy_149
def fX7_copy (x1 : Int32) (x2 : Int32) (x3 : Int32) (x4 : Int32) (x5 : Int32) (σ : Sg) : Option (Int32 × Sg) :=
  (if (fX7_isSheet x1 (up2 σ 0 0 0)) = 0 then some ((-1), (up2 σ 0 0 0)) else (if (fX7_isSheet x3 (up2 σ 0 0 0)) = 0 then some ((-1), (up2 σ 0 0 0)) else (if gIn x1 4 then (if (σ 1 x1.toNatClampNeg) = (-9) then some ((fX7_fails 1 (up2 σ 0 0 0)).1, (fX7_fails 1 (up2 σ 0 0 0)).2) else (if gIn x3 4 then (if (σ 1 x3.toNatClampNeg) = (-9) then some ((fX7_fails 1 (up2 σ 0 0 0)).1, (fX7_fails 1 (up2 σ 0 0 0)).2) else (if (σ 1 x1.toNatClampNeg) = (σ 1 x3.toNatClampNeg) then (if x2 < 0 then fX7_copy_110 x1 x2 x3 x4 x5 0 (up2 σ 0 0 0) else (if x4 < 0 then fX7_copy_110 x1 x2 x3 x4 x5 0 (up2 σ 0 0 0) else (if x5 < 0 then fX7_copy_110 x1 x2 x3 x4 x5 0 (up2 σ 0 0 0) else (if (σ 2 x1.toNatClampNeg) < x2 then fX7_copy_110 x1 x2 x3 x4 x5 0 (up2 σ 0 0 0) else (if (σ 2 x3.toNatClampNeg) < x4 then fX7_copy_110 x1 x2 x3 x4 x5 0 (up2 σ 0 0 0) else fX7_copy_110 x1 x2 x3 x4 x5 1 (up2 σ 0 0 0)))))) else some ((fX7_fails 2 (up2 σ 0 0 0)).1, (fX7_fails 2 (up2 σ 0 0 0)).2))) else none)) else none)))
set_option maxHeartbeats 4000000 in
set_option maxRecDepth 100000 in
theorem kX7_copy (l : Launch) (D : va_G) (κ : Kp) (ad : Nat → Nat) (x1 : Int32) (x2 : Int32) (x3 : Int32) (x4 : Int32) (x5 : Int32) (σ : Sg) {r : Int32} {τ : Sg} (hf : fX7_copy x1 x2 x3 x4 x5 σ = some (r, τ)) : Ci l D κ (wsM κ ad) yX7_copy wsX7_copy 2 42 [.ref (ad 0), .int x1, .int x2, .int x3, .int x4, .int x5] σ r τ := by
  refine Ci.of (cc := cX7_copy) (nL := 10) (ret := (some .int)) (by decide) rfl (Nat.le_of_ble_eq_true rfl) ?_
  intro p e s m below meth c A ls C h hl
  obtain ⟨hx, hb, hml, hr, hlk, hown, hts, hK, hA, hZ⟩ := id C
  have hl : lv_has ls 10 [(0, .ref (ad 0)), (1, .int x1), (2, .int x2), (3, .int x3), (4, .int x4), (5, .int x5)] := hl
  unfold fX7_copy at hf
  refine lv_aload_n hx hb dX7_copy_0 rfl (lv_at hl 0 rfl) ?_
  refine lv_iconst (v := 0) hx hb dX7_copy_1 (by decide) ?_
  refine x_put C h (gM_Mo κ ad σ) rfl inX7_copy_X7 tyX7 tyX7_ok nmX7 0 (by decide) (hts _ lkX7_copy_62) rfl (tyX7_ok 0 (by decide)) (Nat.le_of_ble_eq_true rfl) (sM_Mo_0 κ ad σ 0) dX7_copy_2 (fun H locs h => ?_)
  refine lv_iload_n hx hb dX7_copy_5 rfl (lv_at hl 1 rfl) ?_
  refine x_si (As := [.int x1]) (rest := []) C h (kX7_isSheet l D κ ad x1 (up2 σ 0 0 0) (r := (fX7_isSheet x1 (up2 σ 0 0 0))) rfl) (fun hts => va_cwS 1 hts gX7_copy_X7_isSheet rfl rfl rfl (by decide +kernel) ⟨Nat.le_of_ble_eq_true rfl, Nat.le_of_ble_eq_true rfl⟩) rfl hl.1 (Nat.le_of_ble_eq_true rfl) rfl dX7_copy_6 (fun H locs h => ?_)
  refine lv_if_eq (tgt := 19) hx hb dX7_copy_9 (by decide) (fun c11 => ?_) (fun c11 => ?_)
  · have hf := tk_t c11 hf
    refine lv_iconst (v := (-1)) hx hb dX7_copy_19 (by decide) ?_
    obtain ⟨rfl, rfl⟩ := pr_ok hf
    exact x_iret C h dX7_copy_20
  · have hf := tk_f c11 hf
    refine lv_iload_n hx hb dX7_copy_12 rfl (lv_at hl 3 rfl) ?_
    refine x_si (As := [.int x3]) (rest := []) C h (kX7_isSheet l D κ ad x3 (up2 σ 0 0 0) (r := (fX7_isSheet x3 (up2 σ 0 0 0))) rfl) (fun hts => va_cwS 1 hts gX7_copy_X7_isSheet rfl rfl rfl (by decide +kernel) ⟨Nat.le_of_ble_eq_true rfl, Nat.le_of_ble_eq_true rfl⟩) rfl hl.1 (Nat.le_of_ble_eq_true rfl) rfl dX7_copy_13 (fun H locs h => ?_)
    refine lv_if_ne (tgt := 21) hx hb dX7_copy_16 (by decide) (fun c12 => ?_) (fun c12 => ?_)
    · have hf := tk_f c12 hf
      refine lv_aload_n hx hb dX7_copy_21 rfl (lv_at hl 0 rfl) ?_
      refine x_get (v := .ref (ad 1)) C h (gM_Mo κ ad (up2 σ 0 0 0)) rfl inX7_copy_X7 2 (by decide) (hts _ lkX7_copy_9) rfl dX7_copy_22 ?_
      refine lv_iload_n hx hb dX7_copy_25 rfl (lv_at hl 1 rfl) ?_
      obtain ⟨g13, hf⟩ := gd_ok hf
      refine x_iald (v := (σ 1 x1.toNatClampNeg)) C h (gM_m_sorts κ ad (up2 σ 0 0 0)) g13 rfl dX7_copy_26 ?_
      refine lv_bipush (v := (-9)) hx hb dX7_copy_27 (by decide) ?_
      refine lv_icmp_eq (tgt := 43) hx hb dX7_copy_29 (by decide) (fun c14 => ?_) (fun c14 => ?_)
      · have hf := tk_t c14 hf
        refine lv_aload_n hx hb dX7_copy_43 rfl (lv_at hl 0 rfl) ?_
        refine lv_iconst (v := 1) hx hb dX7_copy_44 (by decide) ?_
        refine x_vi (As := [.int 1]) (rest := []) C h (gM_Mo κ ad (up2 σ 0 0 0)) rfl (kX7_fails l D κ ad 1 (up2 σ 0 0 0) (r := (fX7_fails 1 (up2 σ 0 0 0)).1) (τ := (fX7_fails 1 (up2 σ 0 0 0)).2) rfl) (fun hts => cwV 1 hts gX7_copy_X7_fails rfl rfl rfl (by decide +kernel) ⟨Nat.le_of_ble_eq_true rfl, Nat.le_of_ble_eq_true rfl⟩) rfl hl.1 (Nat.le_of_ble_eq_true rfl) rfl dX7_copy_45 (fun H locs h => ?_)
        obtain ⟨rfl, rfl⟩ := pr_ok hf
        exact x_iret C h dX7_copy_48
      · have hf := tk_f c14 hf
        refine lv_aload_n hx hb dX7_copy_32 rfl (lv_at hl 0 rfl) ?_
        refine x_get (v := .ref (ad 1)) C h (gM_Mo κ ad (up2 σ 0 0 0)) rfl inX7_copy_X7 2 (by decide) (hts _ lkX7_copy_9) rfl dX7_copy_33 ?_
        refine lv_iload_n hx hb dX7_copy_36 rfl (lv_at hl 3 rfl) ?_
        obtain ⟨g15, hf⟩ := gd_ok hf
        refine x_iald (v := (σ 1 x3.toNatClampNeg)) C h (gM_m_sorts κ ad (up2 σ 0 0 0)) g15 rfl dX7_copy_37 ?_
        refine lv_bipush (v := (-9)) hx hb dX7_copy_38 (by decide) ?_
        refine lv_icmp_ne (tgt := 49) hx hb dX7_copy_40 (by decide) (fun c16 => ?_) (fun c16 => ?_)
        · have hf := tk_f c16 hf
          refine lv_aload_n hx hb dX7_copy_49 rfl (lv_at hl 0 rfl) ?_
          refine x_get (v := .ref (ad 1)) C h (gM_Mo κ ad (up2 σ 0 0 0)) rfl inX7_copy_X7 2 (by decide) (hts _ lkX7_copy_9) rfl dX7_copy_50 ?_
          refine lv_iload_n hx hb dX7_copy_53 rfl (lv_at hl 1 rfl) ?_
          refine x_iald (v := (σ 1 x1.toNatClampNeg)) C h (gM_m_sorts κ ad (up2 σ 0 0 0)) g13 rfl dX7_copy_54 ?_
          refine lv_aload_n hx hb dX7_copy_55 rfl (lv_at hl 0 rfl) ?_
          refine x_get (v := .ref (ad 1)) C h (gM_Mo κ ad (up2 σ 0 0 0)) rfl inX7_copy_X7 2 (by decide) (hts _ lkX7_copy_9) rfl dX7_copy_56 ?_
          refine lv_iload_n hx hb dX7_copy_59 rfl (lv_at hl 3 rfl) ?_
          refine x_iald (v := (σ 1 x3.toNatClampNeg)) C h (gM_m_sorts κ ad (up2 σ 0 0 0)) g15 rfl dX7_copy_60 ?_
          refine lv_icmp_eq (tgt := 70) hx hb dX7_copy_61 (by decide) (fun c17 => ?_) (fun c17 => ?_)
          · have hf := tk_t c17 hf
            refine lv_iload_n hx hb dX7_copy_70 rfl (lv_at hl 2 rfl) ?_
            refine lv_if_lt (tgt := 109) hx hb dX7_copy_71 (by decide) (fun c18 => ?_) (fun c18 => ?_)
            · have hf := tk_t c18 hf
              refine lv_iconst (v := 0) hx hb dX7_copy_109 (by decide) ?_
              exact jX7_copy_110 C x1 x2 x3 x4 x5 0 (up2 σ 0 0 0) _ _ _ h (lv_sub hl [0, 1, 2, 3, 4, 5] rfl) hf
            · have hf := tk_f c18 hf
              refine lv_iload hx hb dX7_copy_74 (lv_at hl 4 rfl) ?_
              refine lv_if_lt (tgt := 109) hx hb dX7_copy_76 (by decide) (fun c19 => ?_) (fun c19 => ?_)
              · have hf := tk_t c19 hf
                refine lv_iconst (v := 0) hx hb dX7_copy_109 (by decide) ?_
                exact jX7_copy_110 C x1 x2 x3 x4 x5 0 (up2 σ 0 0 0) _ _ _ h (lv_sub hl [0, 1, 2, 3, 4, 5] rfl) hf
              · have hf := tk_f c19 hf
                refine lv_iload hx hb dX7_copy_79 (lv_at hl 5 rfl) ?_
                refine lv_if_lt (tgt := 109) hx hb dX7_copy_81 (by decide) (fun c20 => ?_) (fun c20 => ?_)
                · have hf := tk_t c20 hf
                  refine lv_iconst (v := 0) hx hb dX7_copy_109 (by decide) ?_
                  exact jX7_copy_110 C x1 x2 x3 x4 x5 0 (up2 σ 0 0 0) _ _ _ h (lv_sub hl [0, 1, 2, 3, 4, 5] rfl) hf
                · have hf := tk_f c20 hf
                  refine lv_iload_n hx hb dX7_copy_84 rfl (lv_at hl 2 rfl) ?_
                  refine lv_aload_n hx hb dX7_copy_85 rfl (lv_at hl 0 rfl) ?_
                  refine x_get (v := .ref (ad 2)) C h (gM_Mo κ ad (up2 σ 0 0 0)) rfl inX7_copy_X7 3 (by decide) (hts _ lkX7_copy_13) rfl dX7_copy_86 ?_
                  refine lv_iload_n hx hb dX7_copy_89 rfl (lv_at hl 1 rfl) ?_
                  refine x_iald (v := (σ 2 x1.toNatClampNeg)) C h (gM_m_sheetLong κ ad (up2 σ 0 0 0)) g13 rfl dX7_copy_90 ?_
                  refine lv_icmp_gt (tgt := 109) hx hb dX7_copy_91 (by decide) (fun c21 => ?_) (fun c21 => ?_)
                  · have hf := tk_t c21 hf
                    refine lv_iconst (v := 0) hx hb dX7_copy_109 (by decide) ?_
                    exact jX7_copy_110 C x1 x2 x3 x4 x5 0 (up2 σ 0 0 0) _ _ _ h (lv_sub hl [0, 1, 2, 3, 4, 5] rfl) hf
                  · have hf := tk_f c21 hf
                    refine lv_iload hx hb dX7_copy_94 (lv_at hl 4 rfl) ?_
                    refine lv_aload_n hx hb dX7_copy_96 rfl (lv_at hl 0 rfl) ?_
                    refine x_get (v := .ref (ad 2)) C h (gM_Mo κ ad (up2 σ 0 0 0)) rfl inX7_copy_X7 3 (by decide) (hts _ lkX7_copy_13) rfl dX7_copy_97 ?_
                    refine lv_iload_n hx hb dX7_copy_100 rfl (lv_at hl 3 rfl) ?_
                    refine x_iald (v := (σ 2 x3.toNatClampNeg)) C h (gM_m_sheetLong κ ad (up2 σ 0 0 0)) g15 rfl dX7_copy_101 ?_
                    refine lv_icmp_gt (tgt := 109) hx hb dX7_copy_102 (by decide) (fun c22 => ?_) (fun c22 => ?_)
                    · have hf := tk_t c22 hf
                      refine lv_iconst (v := 0) hx hb dX7_copy_109 (by decide) ?_
                      exact jX7_copy_110 C x1 x2 x3 x4 x5 0 (up2 σ 0 0 0) _ _ _ h (lv_sub hl [0, 1, 2, 3, 4, 5] rfl) hf
                    · have hf := tk_f c22 hf
                      refine lv_iconst (v := 1) hx hb dX7_copy_105 (by decide) ?_
                      refine lv_goto (tgt := 110) hx hb dX7_copy_106 (by decide) ?_
                      exact jX7_copy_110 C x1 x2 x3 x4 x5 1 (up2 σ 0 0 0) _ _ _ h (lv_sub hl [0, 1, 2, 3, 4, 5] rfl) hf
          · have hf := tk_f c17 hf
            refine lv_aload_n hx hb dX7_copy_64 rfl (lv_at hl 0 rfl) ?_
            refine lv_iconst (v := 2) hx hb dX7_copy_65 (by decide) ?_
            refine x_vi (As := [.int 2]) (rest := []) C h (gM_Mo κ ad (up2 σ 0 0 0)) rfl (kX7_fails l D κ ad 2 (up2 σ 0 0 0) (r := (fX7_fails 2 (up2 σ 0 0 0)).1) (τ := (fX7_fails 2 (up2 σ 0 0 0)).2) rfl) (fun hts => cwV 1 hts gX7_copy_X7_fails rfl rfl rfl (by decide +kernel) ⟨Nat.le_of_ble_eq_true rfl, Nat.le_of_ble_eq_true rfl⟩) rfl hl.1 (Nat.le_of_ble_eq_true rfl) rfl dX7_copy_66 (fun H locs h => ?_)
            obtain ⟨rfl, rfl⟩ := pr_ok hf
            exact x_iret C h dX7_copy_69
        · have hf := tk_t c16 hf
          refine lv_aload_n hx hb dX7_copy_43 rfl (lv_at hl 0 rfl) ?_
          refine lv_iconst (v := 1) hx hb dX7_copy_44 (by decide) ?_
          refine x_vi (As := [.int 1]) (rest := []) C h (gM_Mo κ ad (up2 σ 0 0 0)) rfl (kX7_fails l D κ ad 1 (up2 σ 0 0 0) (r := (fX7_fails 1 (up2 σ 0 0 0)).1) (τ := (fX7_fails 1 (up2 σ 0 0 0)).2) rfl) (fun hts => cwV 1 hts gX7_copy_X7_fails rfl rfl rfl (by decide +kernel) ⟨Nat.le_of_ble_eq_true rfl, Nat.le_of_ble_eq_true rfl⟩) rfl hl.1 (Nat.le_of_ble_eq_true rfl) rfl dX7_copy_45 (fun H locs h => ?_)
          obtain ⟨rfl, rfl⟩ := pr_ok hf
          exact x_iret C h dX7_copy_48
    · have hf := tk_t c12 hf
      refine lv_iconst (v := (-1)) hx hb dX7_copy_19 (by decide) ?_
      obtain ⟨rfl, rfl⟩ := pr_ok hf
      exact x_iret C h dX7_copy_20

-- ===== X7_begins: ButtonMatchModel.begins(I)V
theorem lkX7_begins_238 : Cond.fieldLink RX7 238 "ButtonMatchModel" "trace" "I" ∈ wsX7_begins := by decide +kernel
theorem inX7_begins_X7 : ∀ w ∈ wsX70, w ∈ wsX7_begins := fun _ h => List.mem_cons_of_mem _ (List.mem_append_right _ h)
def fX7_begins (x1 : Int32) (σ : Sg) : Sg :=
  (up2 σ 0 1 ((31 * (σ 0 1)) + x1))
set_option maxHeartbeats 4000000 in
set_option maxRecDepth 100000 in
theorem kX7_begins (l : Launch) (D : va_G) (κ : Kp) (ad : Nat → Nat) (x1 : Int32) (σ : Sg) {τ : Sg} (hf : fX7_begins x1 σ = τ) : Cv l D κ (wsM κ ad) yX7_begins wsX7_begins 0 0 [.ref (ad 0), .int x1] σ τ := by
  refine Cv.of (cc := cX7_begins) (nL := 2) (ret := none) (by decide) rfl (Nat.le_of_ble_eq_true rfl) ?_
  intro p e s m below meth c A ls C h hl
  obtain ⟨hx, hb, hml, hr, hlk, hown, hts, hK, hA, hZ⟩ := id C
  have hl : lv_has ls 2 [(0, .ref (ad 0)), (1, .int x1)] := hl
  unfold fX7_begins at hf
  refine lv_aload_n hx hb dX7_begins_0 rfl (lv_at hl 0 rfl) ?_
  refine lv_bipush (v := 31) hx hb dX7_begins_1 (by decide) ?_
  refine lv_aload_n hx hb dX7_begins_3 rfl (lv_at hl 0 rfl) ?_
  refine x_get (v := .int (σ 0 1)) C h (gM_Mo κ ad σ) rfl inX7_begins_X7 1 (by decide) (hts _ lkX7_begins_238) rfl dX7_begins_4 ?_
  refine lv_imul hx hb dX7_begins_7 ?_
  refine lv_iload_n hx hb dX7_begins_8 rfl (lv_at hl 1 rfl) ?_
  refine lv_iadd hx hb dX7_begins_9 ?_
  refine x_put C h (gM_Mo κ ad σ) rfl inX7_begins_X7 tyX7 tyX7_ok nmX7 1 (by decide) (hts _ lkX7_begins_238) rfl (tyX7_ok 1 (by decide)) (Nat.le_of_ble_eq_true rfl) (sM_Mo_1 κ ad σ ((31 * (σ 0 1)) + x1)) dX7_begins_10 (fun H locs h => ?_)
  subst hf
  exact x_vret C h dX7_begins_13

-- ===== X7_tell: ButtonMatchModel.tell(I)I
theorem lkX7_tell_37 : Cond.fieldLink RX7 37 "ButtonMatchModel" "pence" "[I" ∈ wsX7_tell := by decide +kernel
theorem inX7_tell_X7 : ∀ w ∈ wsX70, w ∈ wsX7_tell := fun _ h => List.mem_cons_of_mem _ (List.mem_append_right _ h)
theorem lkX7_tell_22 : Cond.fieldLink RX7 22 "ButtonMatchModel" "kind" "[I" ∈ wsX7_tell := by decide +kernel
def fX7_tell (x1 : Int32) (σ : Sg) : Option (Int32 × Sg) :=
  (if (fX7_isTube x1 σ) = 0 then some ((-1), σ) else (if gIn x1 6 then (if (σ 5 x1.toNatClampNeg) = 1 then some (((σ 10 x1.toNatClampNeg) + 100), (fX7_begins 1 (fX7_begins 2 σ))) else (if (σ 5 x1.toNatClampNeg) = 2 then some (((2 * (σ 10 x1.toNatClampNeg)) + 100), (fX7_begins 1 (fX7_begins 1 (fX7_begins 2 (fX7_begins 3 σ))))) else some ((σ 10 x1.toNatClampNeg), (fX7_begins 1 σ)))) else none))
set_option maxHeartbeats 4000000 in
set_option maxRecDepth 100000 in
theorem kX7_tell (l : Launch) (D : va_G) (κ : Kp) (ad : Nat → Nat) (x1 : Int32) (σ : Sg) {r : Int32} {τ : Sg} (hf : fX7_tell x1 σ = some (r, τ)) : Ci l D κ (wsM κ ad) yX7_tell wsX7_tell 1 21 [.ref (ad 0), .int x1] σ r τ := by
  refine Ci.of (cc := cX7_tell) (nL := 3) (ret := (some .int)) (by decide) rfl (Nat.le_of_ble_eq_true rfl) ?_
  intro p e s m below meth c A ls C h hl
  obtain ⟨hx, hb, hml, hr, hlk, hown, hts, hK, hA, hZ⟩ := id C
  have hl : lv_has ls 3 [(0, .ref (ad 0)), (1, .int x1)] := hl
  unfold fX7_tell at hf
  refine lv_aload_n hx hb dX7_tell_0 rfl (lv_at hl 0 rfl) ?_
  refine lv_iload_n hx hb dX7_tell_1 rfl (lv_at hl 1 rfl) ?_
  refine x_vi (As := [.int x1]) (rest := []) C h (gM_Mo κ ad σ) rfl (kX7_isTube l D κ ad x1 σ (r := (fX7_isTube x1 σ)) rfl) (fun hts => cwV 1 hts gX7_tell_X7_isTube rfl rfl rfl (by decide +kernel) ⟨Nat.le_of_ble_eq_true rfl, Nat.le_of_ble_eq_true rfl⟩) rfl hl.1 (Nat.le_of_ble_eq_true rfl) rfl dX7_tell_2 (fun H locs h => ?_)
  refine lv_if_ne (tgt := 10) hx hb dX7_tell_5 (by decide) (fun c1 => ?_) (fun c1 => ?_)
  · have hf := tk_f c1 hf
    refine lv_aload_n hx hb dX7_tell_10 rfl (lv_at hl 0 rfl) ?_
    refine x_get (v := .ref (ad 10)) C h (gM_Mo κ ad σ) rfl inX7_tell_X7 16 (by decide) (hts _ lkX7_tell_37) rfl dX7_tell_11 ?_
    refine lv_iload_n hx hb dX7_tell_14 rfl (lv_at hl 1 rfl) ?_
    obtain ⟨g2, hf⟩ := gd_ok hf
    refine x_iald (v := (σ 10 x1.toNatClampNeg)) C h (gM_m_pence κ ad σ) g2 rfl dX7_tell_15 ?_
    refine lv_istore_n (lv' := [(2, .int (σ 10 x1.toNatClampNeg)), (0, .ref (ad 0)), (1, .int x1)]) hx hb dX7_tell_16 rfl hl (by decide) rfl (fun ls hl => ?_)
    refine lv_aload_n hx hb dX7_tell_17 rfl (lv_at hl 1 rfl) ?_
    refine x_get (v := .ref (ad 5)) C h (gM_Mo κ ad σ) rfl inX7_tell_X7 11 (by decide) (hts _ lkX7_tell_22) rfl dX7_tell_18 ?_
    refine lv_iload_n hx hb dX7_tell_21 rfl (lv_at hl 2 rfl) ?_
    refine x_iald (v := (σ 5 x1.toNatClampNeg)) C h (gM_m_kind κ ad σ) g2 rfl dX7_tell_22 ?_
    by_cases c3 : (σ 5 x1.toNatClampNeg) = 1
    · have hf := tk_t c3 hf
      refine lv_lookup (off := 25) (tgt := 48) hx hb dX7_tell_23 (by decide) (by rw [c3]; rfl) (by decide) ?_
      refine lv_aload_n hx hb dX7_tell_48 rfl (lv_at hl 1 rfl) ?_
      refine lv_iconst (v := 2) hx hb dX7_tell_49 (by decide) ?_
      refine x_vv (As := [.int 2]) (rest := []) C h (gM_Mo κ ad σ) rfl (kX7_begins l D κ ad 2 σ (τ := (fX7_begins 2 σ)) rfl) (fun hts => cwV 1 hts gX7_tell_X7_begins rfl rfl rfl (by decide +kernel) ⟨Nat.le_of_ble_eq_true rfl, Nat.le_of_ble_eq_true rfl⟩) rfl hl.1 (Nat.le_of_ble_eq_true rfl) rfl dX7_tell_50 (fun H locs h => ?_)
      refine lv_aload_n hx hb dX7_tell_53 rfl (lv_at hl 1 rfl) ?_
      refine lv_iconst (v := 1) hx hb dX7_tell_54 (by decide) ?_
      refine x_vv (As := [.int 1]) (rest := []) C h (gM_Mo κ ad (fX7_begins 2 σ)) rfl (kX7_begins l D κ ad 1 (fX7_begins 2 σ) (τ := (fX7_begins 1 (fX7_begins 2 σ))) rfl) (fun hts => cwV 1 hts gX7_tell_X7_begins rfl rfl rfl (by decide +kernel) ⟨Nat.le_of_ble_eq_true rfl, Nat.le_of_ble_eq_true rfl⟩) rfl hl.1 (Nat.le_of_ble_eq_true rfl) rfl dX7_tell_55 (fun H locs h => ?_)
      refine lv_iload_n hx hb dX7_tell_58 rfl (lv_at hl 0 rfl) ?_
      refine lv_bipush (v := 100) hx hb dX7_tell_59 (by decide) ?_
      refine lv_iadd hx hb dX7_tell_61 ?_
      obtain ⟨rfl, rfl⟩ := pr_ok hf
      exact x_iret C h dX7_tell_62
    have hf := tk_f c3 hf
    by_cases c4 : (σ 5 x1.toNatClampNeg) = 2
    · have hf := tk_t c4 hf
      refine lv_lookup (off := 40) (tgt := 63) hx hb dX7_tell_23 (by decide) (by rw [c4]; rfl) (by decide) ?_
      refine lv_aload_n hx hb dX7_tell_63 rfl (lv_at hl 1 rfl) ?_
      refine lv_iconst (v := 3) hx hb dX7_tell_64 (by decide) ?_
      refine x_vv (As := [.int 3]) (rest := []) C h (gM_Mo κ ad σ) rfl (kX7_begins l D κ ad 3 σ (τ := (fX7_begins 3 σ)) rfl) (fun hts => cwV 1 hts gX7_tell_X7_begins rfl rfl rfl (by decide +kernel) ⟨Nat.le_of_ble_eq_true rfl, Nat.le_of_ble_eq_true rfl⟩) rfl hl.1 (Nat.le_of_ble_eq_true rfl) rfl dX7_tell_65 (fun H locs h => ?_)
      refine lv_aload_n hx hb dX7_tell_68 rfl (lv_at hl 1 rfl) ?_
      refine lv_iconst (v := 2) hx hb dX7_tell_69 (by decide) ?_
      refine x_vv (As := [.int 2]) (rest := []) C h (gM_Mo κ ad (fX7_begins 3 σ)) rfl (kX7_begins l D κ ad 2 (fX7_begins 3 σ) (τ := (fX7_begins 2 (fX7_begins 3 σ))) rfl) (fun hts => cwV 1 hts gX7_tell_X7_begins rfl rfl rfl (by decide +kernel) ⟨Nat.le_of_ble_eq_true rfl, Nat.le_of_ble_eq_true rfl⟩) rfl hl.1 (Nat.le_of_ble_eq_true rfl) rfl dX7_tell_70 (fun H locs h => ?_)
      refine lv_aload_n hx hb dX7_tell_73 rfl (lv_at hl 1 rfl) ?_
      refine lv_iconst (v := 1) hx hb dX7_tell_74 (by decide) ?_
      refine x_vv (As := [.int 1]) (rest := []) C h (gM_Mo κ ad (fX7_begins 2 (fX7_begins 3 σ))) rfl (kX7_begins l D κ ad 1 (fX7_begins 2 (fX7_begins 3 σ)) (τ := (fX7_begins 1 (fX7_begins 2 (fX7_begins 3 σ)))) rfl) (fun hts => cwV 1 hts gX7_tell_X7_begins rfl rfl rfl (by decide +kernel) ⟨Nat.le_of_ble_eq_true rfl, Nat.le_of_ble_eq_true rfl⟩) rfl hl.1 (Nat.le_of_ble_eq_true rfl) rfl dX7_tell_75 (fun H locs h => ?_)
      refine lv_aload_n hx hb dX7_tell_78 rfl (lv_at hl 1 rfl) ?_
      refine lv_iconst (v := 1) hx hb dX7_tell_79 (by decide) ?_
      refine x_vv (As := [.int 1]) (rest := []) C h (gM_Mo κ ad (fX7_begins 1 (fX7_begins 2 (fX7_begins 3 σ)))) rfl (kX7_begins l D κ ad 1 (fX7_begins 1 (fX7_begins 2 (fX7_begins 3 σ))) (τ := (fX7_begins 1 (fX7_begins 1 (fX7_begins 2 (fX7_begins 3 σ))))) rfl) (fun hts => cwV 1 hts gX7_tell_X7_begins rfl rfl rfl (by decide +kernel) ⟨Nat.le_of_ble_eq_true rfl, Nat.le_of_ble_eq_true rfl⟩) rfl hl.1 (Nat.le_of_ble_eq_true rfl) rfl dX7_tell_80 (fun H locs h => ?_)
      refine lv_iconst (v := 2) hx hb dX7_tell_83 (by decide) ?_
      refine lv_iload_n hx hb dX7_tell_84 rfl (lv_at hl 0 rfl) ?_
      refine lv_imul hx hb dX7_tell_85 ?_
      refine lv_bipush (v := 100) hx hb dX7_tell_86 (by decide) ?_
      refine lv_iadd hx hb dX7_tell_88 ?_
      obtain ⟨rfl, rfl⟩ := pr_ok hf
      exact x_iret C h dX7_tell_89
    have hf := tk_f c4 hf
    have ec3 : ¬ (σ 5 x1.toNatClampNeg).toInt = 1 := sw_ne c3
    have ec4 : ¬ (σ 5 x1.toNatClampNeg).toInt = 2 := sw_ne c4
    refine lv_lookup (off := 67) (tgt := 90) hx hb dX7_tell_23 (by decide) (sw_lk2 ec3 ec4) (by decide) ?_
    refine lv_aload_n hx hb dX7_tell_90 rfl (lv_at hl 1 rfl) ?_
    refine lv_iconst (v := 1) hx hb dX7_tell_91 (by decide) ?_
    refine x_vv (As := [.int 1]) (rest := []) C h (gM_Mo κ ad σ) rfl (kX7_begins l D κ ad 1 σ (τ := (fX7_begins 1 σ)) rfl) (fun hts => cwV 1 hts gX7_tell_X7_begins rfl rfl rfl (by decide +kernel) ⟨Nat.le_of_ble_eq_true rfl, Nat.le_of_ble_eq_true rfl⟩) rfl hl.1 (Nat.le_of_ble_eq_true rfl) rfl dX7_tell_92 (fun H locs h => ?_)
    refine lv_iload_n hx hb dX7_tell_95 rfl (lv_at hl 0 rfl) ?_
    obtain ⟨rfl, rfl⟩ := pr_ok hf
    exact x_iret C h dX7_tell_96
  · have hf := tk_t c1 hf
    refine lv_iconst (v := (-1)) hx hb dX7_tell_8 (by decide) ?_
    obtain ⟨rfl, rfl⟩ := pr_ok hf
    exact x_iret C h dX7_tell_9

-- ===== X7_rattle: ButtonMatchModel.rattle(I)I
theorem lkX7_rattle_22 : Cond.fieldLink RX7 22 "ButtonMatchModel" "kind" "[I" ∈ wsX7_rattle := by decide +kernel
theorem inX7_rattle_X7 : ∀ w ∈ wsX70, w ∈ wsX7_rattle := fun _ h => List.mem_cons_of_mem _ (List.mem_append_right _ h)
def fX7_rattle_26 (x1 : Int32) (z0 : Int32) (σ : Sg) : Option (Int32 × Sg) :=
  (if gIn x1 6 then (if ((fX7_begins z0 σ) 5 x1.toNatClampNeg) = 2 then some (50, (fX7_begins z0 σ)) else some (x1, (fX7_begins z0 σ))) else none)
set_option maxHeartbeats 4000000 in
set_option maxRecDepth 100000 in
theorem jX7_rattle_26 {p : Program} {l : Launch} {e : Env} {s : State} {m : MethodId} {args : Array Value} {below : List Frame} {meth : Method} {c : Code} {D : va_G} {κ : Kp} {ad : Nat → Nat} {A : Nat → Prop} {r : Int32} {τ : Sg} (C : Mc p s m args meth c cX7_rattle 2 (some .int) wsX7_rattle RX7 D κ A) (x1 : Int32) (z0 : Int32) (σ : Sg) (H : Heap) (locs : List Loc) (ls : Array Slot) (h : Wd D (wsM κ ad) A s.heap H locs σ) (hl : lv_has ls 2 [(0, .ref (ad 0)), (1, .int x1)]) (hf : fX7_rattle_26  x1 z0 σ = some (r, τ)) : W p l e { frames := 1, cells := 0, slots := 0, locals := 21 } s m args below meth c H locs 0 0 (Qi below args s D (wsM κ ad) A r τ) (F0 m 26 ls [.int z0, .ref (ad 0)]) := by
  obtain ⟨hx, hb, hml, hr, hlk, hown, hts, hK, hA, hZ⟩ := id C
  unfold fX7_rattle_26 at hf
  refine x_vv (As := [.int z0]) (rest := []) C h (gM_Mo κ ad σ) rfl (kX7_begins l D κ ad z0 σ (τ := (fX7_begins z0 σ)) rfl) (fun hts => cwV 1 hts gX7_rattle_X7_begins rfl rfl rfl (by decide +kernel) ⟨Nat.le_of_ble_eq_true rfl, Nat.le_of_ble_eq_true rfl⟩) rfl hl.1 (Nat.le_of_ble_eq_true rfl) rfl dX7_rattle_26 (fun H locs h => ?_)
  refine lv_aload_n hx hb dX7_rattle_29 rfl (lv_at hl 0 rfl) ?_
  refine x_get (v := .ref (ad 5)) C h (gM_Mo κ ad (fX7_begins z0 σ)) rfl inX7_rattle_X7 11 (by decide) (hts _ lkX7_rattle_22) rfl dX7_rattle_30 ?_
  refine lv_iload_n hx hb dX7_rattle_33 rfl (lv_at hl 1 rfl) ?_
  obtain ⟨g1, hf⟩ := gd_ok hf
  refine x_iald (v := ((fX7_begins z0 σ) 5 x1.toNatClampNeg)) C h (gM_m_kind κ ad (fX7_begins z0 σ)) g1 rfl dX7_rattle_34 ?_
  refine lv_iconst (v := 2) hx hb dX7_rattle_35 (by decide) ?_
  refine lv_icmp_ne (tgt := 44) hx hb dX7_rattle_36 (by decide) (fun c2 => ?_) (fun c2 => ?_)
  · have hf := tk_f c2 hf
    refine lv_iload_n hx hb dX7_rattle_44 rfl (lv_at hl 1 rfl) ?_
    obtain ⟨rfl, rfl⟩ := pr_ok hf
    exact x_iret C h dX7_rattle_45
  · have hf := tk_t c2 hf
    refine lv_bipush (v := 50) hx hb dX7_rattle_39 (by decide) ?_
    refine lv_goto (tgt := 45) hx hb dX7_rattle_41 (by decide) ?_
    obtain ⟨rfl, rfl⟩ := pr_ok hf
    exact x_iret C h dX7_rattle_45
def fX7_rattle (x1 : Int32) (σ : Sg) : Option (Int32 × Sg) :=
  (if (fX7_isTube x1 σ) = 0 then some ((-1), σ) else (if gIn x1 6 then (if (σ 5 x1.toNatClampNeg) = 2 then fX7_rattle_26 x1 5 σ else fX7_rattle_26 x1 4 σ) else none))
set_option maxHeartbeats 4000000 in
set_option maxRecDepth 100000 in
theorem kX7_rattle (l : Launch) (D : va_G) (κ : Kp) (ad : Nat → Nat) (x1 : Int32) (σ : Sg) {r : Int32} {τ : Sg} (hf : fX7_rattle x1 σ = some (r, τ)) : Ci l D κ (wsM κ ad) yX7_rattle wsX7_rattle 1 21 [.ref (ad 0), .int x1] σ r τ := by
  refine Ci.of (cc := cX7_rattle) (nL := 2) (ret := (some .int)) (by decide) rfl (Nat.le_of_ble_eq_true rfl) ?_
  intro p e s m below meth c A ls C h hl
  obtain ⟨hx, hb, hml, hr, hlk, hown, hts, hK, hA, hZ⟩ := id C
  have hl : lv_has ls 2 [(0, .ref (ad 0)), (1, .int x1)] := hl
  unfold fX7_rattle at hf
  refine lv_aload_n hx hb dX7_rattle_0 rfl (lv_at hl 0 rfl) ?_
  refine lv_iload_n hx hb dX7_rattle_1 rfl (lv_at hl 1 rfl) ?_
  refine x_vi (As := [.int x1]) (rest := []) C h (gM_Mo κ ad σ) rfl (kX7_isTube l D κ ad x1 σ (r := (fX7_isTube x1 σ)) rfl) (fun hts => cwV 1 hts gX7_rattle_X7_isTube rfl rfl rfl (by decide +kernel) ⟨Nat.le_of_ble_eq_true rfl, Nat.le_of_ble_eq_true rfl⟩) rfl hl.1 (Nat.le_of_ble_eq_true rfl) rfl dX7_rattle_2 (fun H locs h => ?_)
  refine lv_if_ne (tgt := 10) hx hb dX7_rattle_5 (by decide) (fun c3 => ?_) (fun c3 => ?_)
  · have hf := tk_f c3 hf
    refine lv_aload_n hx hb dX7_rattle_10 rfl (lv_at hl 0 rfl) ?_
    refine lv_aload_n hx hb dX7_rattle_11 rfl (lv_at hl 0 rfl) ?_
    refine x_get (v := .ref (ad 5)) C h (gM_Mo κ ad σ) rfl inX7_rattle_X7 11 (by decide) (hts _ lkX7_rattle_22) rfl dX7_rattle_12 ?_
    refine lv_iload_n hx hb dX7_rattle_15 rfl (lv_at hl 1 rfl) ?_
    obtain ⟨g4, hf⟩ := gd_ok hf
    refine x_iald (v := (σ 5 x1.toNatClampNeg)) C h (gM_m_kind κ ad σ) g4 rfl dX7_rattle_16 ?_
    refine lv_iconst (v := 2) hx hb dX7_rattle_17 (by decide) ?_
    refine lv_icmp_ne (tgt := 25) hx hb dX7_rattle_18 (by decide) (fun c5 => ?_) (fun c5 => ?_)
    · have hf := tk_f c5 hf
      refine lv_iconst (v := 4) hx hb dX7_rattle_25 (by decide) ?_
      exact jX7_rattle_26 C x1 4 σ _ _ _ h (lv_sub hl [0, 1] rfl) hf
    · have hf := tk_t c5 hf
      refine lv_iconst (v := 5) hx hb dX7_rattle_21 (by decide) ?_
      refine lv_goto (tgt := 26) hx hb dX7_rattle_22 (by decide) ?_
      exact jX7_rattle_26 C x1 5 σ _ _ _ h (lv_sub hl [0, 1] rfl) hf
  · have hf := tk_t c3 hf
    refine lv_iconst (v := (-1)) hx hb dX7_rattle_8 (by decide) ?_
    obtain ⟨rfl, rfl⟩ := pr_ok hf
    exact x_iret C h dX7_rattle_9

-- ===== X7_as: ButtonMatchModel.as(II)I
theorem lkX7_as_62 : Cond.fieldLink RX7 62 "ButtonMatchModel" "fault" "I" ∈ wsX7_as := by decide +kernel
theorem inX7_as_X7 : ∀ w ∈ wsX70, w ∈ wsX7_as := fun _ h => List.mem_cons_of_mem _ (List.mem_append_right _ h)
theorem lkX7_as_22 : Cond.fieldLink RX7 22 "ButtonMatchModel" "kind" "[I" ∈ wsX7_as := by decide +kernel
def fX7_as (x1 : Int32) (x2 : Int32) (σ : Sg) : Option (Int32 × Sg) :=
  (if (fX7_isTube x1 (up2 σ 0 0 0)) = 0 then some ((-1), (up2 σ 0 0 0)) else (if (fX7_within x2 0 2 (up2 σ 0 0 0)) = 0 then some ((-2), (up2 σ 0 0 0)) else (if gIn x1 6 then (if (σ 5 x1.toNatClampNeg) < x2 then some ((fX7_fails 2 (up2 σ 0 0 0)).1, (fX7_fails 2 (up2 σ 0 0 0)).2) else some (1, (up2 σ 0 0 0))) else none)))
set_option maxHeartbeats 4000000 in
set_option maxRecDepth 100000 in
theorem kX7_as (l : Launch) (D : va_G) (κ : Kp) (ad : Nat → Nat) (x1 : Int32) (x2 : Int32) (σ : Sg) {r : Int32} {τ : Sg} (hf : fX7_as x1 x2 σ = some (r, τ)) : Ci l D κ (wsM κ ad) yX7_as wsX7_as 1 22 [.ref (ad 0), .int x1, .int x2] σ r τ := by
  refine Ci.of (cc := cX7_as) (nL := 3) (ret := (some .int)) (by decide) rfl (Nat.le_of_ble_eq_true rfl) ?_
  intro p e s m below meth c A ls C h hl
  obtain ⟨hx, hb, hml, hr, hlk, hown, hts, hK, hA, hZ⟩ := id C
  have hl : lv_has ls 3 [(0, .ref (ad 0)), (1, .int x1), (2, .int x2)] := hl
  unfold fX7_as at hf
  refine lv_aload_n hx hb dX7_as_0 rfl (lv_at hl 0 rfl) ?_
  refine lv_iconst (v := 0) hx hb dX7_as_1 (by decide) ?_
  refine x_put C h (gM_Mo κ ad σ) rfl inX7_as_X7 tyX7 tyX7_ok nmX7 0 (by decide) (hts _ lkX7_as_62) rfl (tyX7_ok 0 (by decide)) (Nat.le_of_ble_eq_true rfl) (sM_Mo_0 κ ad σ 0) dX7_as_2 (fun H locs h => ?_)
  refine lv_aload_n hx hb dX7_as_5 rfl (lv_at hl 0 rfl) ?_
  refine lv_iload_n hx hb dX7_as_6 rfl (lv_at hl 1 rfl) ?_
  refine x_vi (As := [.int x1]) (rest := []) C h (gM_Mo κ ad (up2 σ 0 0 0)) rfl (kX7_isTube l D κ ad x1 (up2 σ 0 0 0) (r := (fX7_isTube x1 (up2 σ 0 0 0))) rfl) (fun hts => cwV 1 hts gX7_as_X7_isTube rfl rfl rfl (by decide +kernel) ⟨Nat.le_of_ble_eq_true rfl, Nat.le_of_ble_eq_true rfl⟩) rfl hl.1 (Nat.le_of_ble_eq_true rfl) rfl dX7_as_7 (fun H locs h => ?_)
  refine lv_if_ne (tgt := 15) hx hb dX7_as_10 (by decide) (fun c1 => ?_) (fun c1 => ?_)
  · have hf := tk_f c1 hf
    refine lv_iload_n hx hb dX7_as_15 rfl (lv_at hl 2 rfl) ?_
    refine lv_iconst (v := 0) hx hb dX7_as_16 (by decide) ?_
    refine lv_iconst (v := 2) hx hb dX7_as_17 (by decide) ?_
    refine x_si (As := [.int x2, .int 0, .int 2]) (rest := []) C h (kX7_within l D κ ad x2 0 2 (up2 σ 0 0 0) (r := (fX7_within x2 0 2 (up2 σ 0 0 0))) rfl) (fun hts => va_cwS 3 hts gX7_as_X7_within rfl rfl rfl (by decide +kernel) ⟨Nat.le_of_ble_eq_true rfl, Nat.le_of_ble_eq_true rfl⟩) rfl hl.1 (Nat.le_of_ble_eq_true rfl) rfl dX7_as_18 (fun H locs h => ?_)
    refine lv_if_ne (tgt := 27) hx hb dX7_as_21 (by decide) (fun c2 => ?_) (fun c2 => ?_)
    · have hf := tk_f c2 hf
      refine lv_aload_n hx hb dX7_as_27 rfl (lv_at hl 0 rfl) ?_
      refine x_get (v := .ref (ad 5)) C h (gM_Mo κ ad (up2 σ 0 0 0)) rfl inX7_as_X7 11 (by decide) (hts _ lkX7_as_22) rfl dX7_as_28 ?_
      refine lv_iload_n hx hb dX7_as_31 rfl (lv_at hl 1 rfl) ?_
      obtain ⟨g3, hf⟩ := gd_ok hf
      refine x_iald (v := (σ 5 x1.toNatClampNeg)) C h (gM_m_kind κ ad (up2 σ 0 0 0)) g3 rfl dX7_as_32 ?_
      refine lv_iload_n hx hb dX7_as_33 rfl (lv_at hl 2 rfl) ?_
      refine lv_icmp_lt (tgt := 41) hx hb dX7_as_34 (by decide) (fun c4 => ?_) (fun c4 => ?_)
      · have hf := tk_t c4 hf
        refine lv_aload_n hx hb dX7_as_41 rfl (lv_at hl 0 rfl) ?_
        refine lv_iconst (v := 2) hx hb dX7_as_42 (by decide) ?_
        refine x_vi (As := [.int 2]) (rest := []) C h (gM_Mo κ ad (up2 σ 0 0 0)) rfl (kX7_fails l D κ ad 2 (up2 σ 0 0 0) (r := (fX7_fails 2 (up2 σ 0 0 0)).1) (τ := (fX7_fails 2 (up2 σ 0 0 0)).2) rfl) (fun hts => cwV 1 hts gX7_as_X7_fails rfl rfl rfl (by decide +kernel) ⟨Nat.le_of_ble_eq_true rfl, Nat.le_of_ble_eq_true rfl⟩) rfl hl.1 (Nat.le_of_ble_eq_true rfl) rfl dX7_as_43 (fun H locs h => ?_)
        obtain ⟨rfl, rfl⟩ := pr_ok hf
        exact x_iret C h dX7_as_46
      · have hf := tk_f c4 hf
        refine lv_iconst (v := 1) hx hb dX7_as_37 (by decide) ?_
        refine lv_goto (tgt := 46) hx hb dX7_as_38 (by decide) ?_
        obtain ⟨rfl, rfl⟩ := pr_ok hf
        exact x_iret C h dX7_as_46
    · have hf := tk_t c2 hf
      refine lv_bipush (v := (-2)) hx hb dX7_as_24 (by decide) ?_
      obtain ⟨rfl, rfl⟩ := pr_ok hf
      exact x_iret C h dX7_as_26
  · have hf := tk_t c1 hf
    refine lv_iconst (v := (-1)) hx hb dX7_as_13 (by decide) ?_
    obtain ⟨rfl, rfl⟩ := pr_ok hf
    exact x_iret C h dX7_as_14

-- ===== X7_trace: ButtonMatchModel.trace()I
theorem lkX7_trace_238 : Cond.fieldLink RX7 238 "ButtonMatchModel" "trace" "I" ∈ wsX7_trace := by decide +kernel
theorem inX7_trace_X7 : ∀ w ∈ wsX70, w ∈ wsX7_trace := fun _ h => List.mem_cons_of_mem _ (List.mem_append_right _ h)
def fX7_trace (σ : Sg) : Int32 :=
  (σ 0 1)
set_option maxHeartbeats 4000000 in
set_option maxRecDepth 100000 in
theorem kX7_trace (l : Launch) (D : va_G) (κ : Kp) (ad : Nat → Nat) (σ : Sg) {r : Int32} (hf : fX7_trace σ = r) : Ci l D κ (wsM κ ad) yX7_trace wsX7_trace 0 0 [.ref (ad 0)] σ r σ := by
  refine Ci.of (cc := cX7_trace) (nL := 1) (ret := (some .int)) (by decide) rfl (Nat.le_of_ble_eq_true rfl) ?_
  intro p e s m below meth c A ls C h hl
  obtain ⟨hx, hb, hml, hr, hlk, hown, hts, hK, hA, hZ⟩ := id C
  have hl : lv_has ls 1 [(0, .ref (ad 0))] := hl
  unfold fX7_trace at hf
  refine lv_aload_n hx hb dX7_trace_0 rfl (lv_at hl 0 rfl) ?_
  refine x_get (v := .int (σ 0 1)) C h (gM_Mo κ ad σ) rfl inX7_trace_X7 1 (by decide) (hts _ lkX7_trace_238) rfl dX7_trace_1 ?_
  subst hf
  exact x_iret C h dX7_trace_4

-- ===== X7_fault: ButtonMatchModel.fault()I
theorem lkX7_fault_62 : Cond.fieldLink RX7 62 "ButtonMatchModel" "fault" "I" ∈ wsX7_fault := by decide +kernel
theorem inX7_fault_X7 : ∀ w ∈ wsX70, w ∈ wsX7_fault := fun _ h => List.mem_cons_of_mem _ (List.mem_append_right _ h)
def fX7_fault (σ : Sg) : Int32 :=
  (σ 0 0)
set_option maxHeartbeats 4000000 in
set_option maxRecDepth 100000 in
theorem kX7_fault (l : Launch) (D : va_G) (κ : Kp) (ad : Nat → Nat) (σ : Sg) {r : Int32} (hf : fX7_fault σ = r) : Ci l D κ (wsM κ ad) yX7_fault wsX7_fault 0 0 [.ref (ad 0)] σ r σ := by
  refine Ci.of (cc := cX7_fault) (nL := 1) (ret := (some .int)) (by decide) rfl (Nat.le_of_ble_eq_true rfl) ?_
  intro p e s m below meth c A ls C h hl
  obtain ⟨hx, hb, hml, hr, hlk, hown, hts, hK, hA, hZ⟩ := id C
  have hl : lv_has ls 1 [(0, .ref (ad 0))] := hl
  unfold fX7_fault at hf
  refine lv_aload_n hx hb dX7_fault_0 rfl (lv_at hl 0 rfl) ?_
  refine x_get (v := .int (σ 0 0)) C h (gM_Mo κ ad σ) rfl inX7_fault_X7 0 (by decide) (hts _ lkX7_fault_62) rfl dX7_fault_1 ?_
  subst hf
  exact x_iret C h dX7_fault_4

-- ===== X7_many: ButtonMatchModel.many(I)I
theorem lkX7_many_120 : Cond.fieldLink RX7 120 "ButtonMatchModel" "near" "I" ∈ wsX7_many := by decide +kernel
theorem inX7_many_X7 : ∀ w ∈ wsX70, w ∈ wsX7_many := fun _ h => List.mem_cons_of_mem _ (List.mem_append_right _ h)
theorem lkX7_many_123 : Cond.fieldLink RX7 123 "ButtonMatchModel" "readings" "I" ∈ wsX7_many := by decide +kernel
theorem lkX7_many_72 : Cond.fieldLink RX7 72 "ButtonMatchModel" "tubes" "I" ∈ wsX7_many := by decide +kernel
def fX7_many (x1 : Int32) (σ : Sg) : Option (Int32) :=
  (if x1 = 0 then some (σ 0 10) else (if x1 = 1 then ((fX7_allButtons σ).bind fun r6 => some r6) else (if x1 = 2 then some (σ 0 30) else (if x1 = 3 then some (σ 0 19) else some (-2)))))
set_option maxHeartbeats 4000000 in
set_option maxRecDepth 100000 in
theorem kX7_many (l : Launch) (D : va_G) (κ : Kp) (ad : Nat → Nat) (x1 : Int32) (σ : Sg) {r : Int32} (hf : fX7_many x1 σ = some r) : Ci l D κ (wsM κ ad) yX7_many wsX7_many 1 22 [.ref (ad 0), .int x1] σ r σ := by
  refine Ci.of (cc := cX7_many) (nL := 2) (ret := (some .int)) (by decide) rfl (Nat.le_of_ble_eq_true rfl) ?_
  intro p e s m below meth c A ls C h hl
  obtain ⟨hx, hb, hml, hr, hlk, hown, hts, hK, hA, hZ⟩ := id C
  have hl : lv_has ls 2 [(0, .ref (ad 0)), (1, .int x1)] := hl
  unfold fX7_many at hf
  refine lv_iload_n hx hb dX7_many_0 rfl (lv_at hl 1 rfl) ?_
  refine lv_if_ne (tgt := 11) hx hb dX7_many_1 (by decide) (fun c1 => ?_) (fun c1 => ?_)
  · have hf := tk_f c1 hf
    refine lv_iload_n hx hb dX7_many_11 rfl (lv_at hl 1 rfl) ?_
    refine lv_iconst (v := 1) hx hb dX7_many_12 (by decide) ?_
    refine lv_icmp_ne (tgt := 23) hx hb dX7_many_13 (by decide) (fun c2 => ?_) (fun c2 => ?_)
    · have hf := tk_f c2 hf
      refine lv_iload_n hx hb dX7_many_23 rfl (lv_at hl 1 rfl) ?_
      refine lv_iconst (v := 2) hx hb dX7_many_24 (by decide) ?_
      refine lv_icmp_ne (tgt := 35) hx hb dX7_many_25 (by decide) (fun c3 => ?_) (fun c3 => ?_)
      · have hf := tk_f c3 hf
        refine lv_iload_n hx hb dX7_many_35 rfl (lv_at hl 1 rfl) ?_
        refine lv_iconst (v := 3) hx hb dX7_many_36 (by decide) ?_
        refine lv_icmp_ne (tgt := 47) hx hb dX7_many_37 (by decide) (fun c4 => ?_) (fun c4 => ?_)
        · have hf := tk_f c4 hf
          refine lv_bipush (v := (-2)) hx hb dX7_many_47 (by decide) ?_
          obtain rfl := so_ok hf
          exact x_iret C h dX7_many_49
        · have hf := tk_t c4 hf
          refine lv_aload_n hx hb dX7_many_40 rfl (lv_at hl 0 rfl) ?_
          refine x_get (v := .int (σ 0 19)) C h (gM_Mo κ ad σ) rfl inX7_many_X7 19 (by decide) (hts _ lkX7_many_120) rfl dX7_many_41 ?_
          refine lv_goto (tgt := 49) hx hb dX7_many_44 (by decide) ?_
          obtain rfl := so_ok hf
          exact x_iret C h dX7_many_49
      · have hf := tk_t c3 hf
        refine lv_aload_n hx hb dX7_many_28 rfl (lv_at hl 0 rfl) ?_
        refine x_get (v := .int (σ 0 30)) C h (gM_Mo κ ad σ) rfl inX7_many_X7 30 (by decide) (hts _ lkX7_many_123) rfl dX7_many_29 ?_
        refine lv_goto (tgt := 49) hx hb dX7_many_32 (by decide) ?_
        obtain rfl := so_ok hf
        exact x_iret C h dX7_many_49
    · have hf := tk_t c2 hf
      refine lv_aload_n hx hb dX7_many_16 rfl (lv_at hl 0 rfl) ?_
      obtain ⟨r6, hg5, hf⟩ := bd_ok hf
      refine x_vi (As := []) (rest := []) C h (gM_Mo κ ad σ) rfl (kX7_allButtons l D κ ad σ (r := r6) hg5) (fun hts => cwV 0 hts gX7_many_X7_allButtons rfl rfl rfl (by decide +kernel) ⟨Nat.le_of_ble_eq_true rfl, Nat.le_of_ble_eq_true rfl⟩) rfl hl.1 (Nat.le_of_ble_eq_true rfl) rfl dX7_many_17 (fun H locs h => ?_)
      refine lv_goto (tgt := 49) hx hb dX7_many_20 (by decide) ?_
      obtain rfl := so_ok hf
      exact x_iret C h dX7_many_49
  · have hf := tk_t c1 hf
    refine lv_aload_n hx hb dX7_many_4 rfl (lv_at hl 0 rfl) ?_
    refine x_get (v := .int (σ 0 10)) C h (gM_Mo κ ad σ) rfl inX7_many_X7 10 (by decide) (hts _ lkX7_many_72) rfl dX7_many_5 ?_
    refine lv_goto (tgt := 49) hx hb dX7_many_8 (by decide) ?_
    obtain rfl := so_ok hf
    exact x_iret C h dX7_many_49
