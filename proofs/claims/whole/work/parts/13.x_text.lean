-- ===== X3_goesOn: ButtonMatch$Text.goesOn(II)Z
def fX3_goesOn (x0 : Int32) (x1 : Int32) (σ : Sg) : Option (Int32) :=
  (if x0 < 0 then some 0 else (if x0 < 53 then (if 11 ≤ x0 then (if gIn ((x0 - 11) - (x0 - 11) / 7 * 7) 7 then some (fX3_isOfSort (chS 1 ((x0 - 11) - (x0 - 11) / 7 * 7)) x1 σ) else none) else (if gIn x0 11 then some (fX3_isOfSort (chS 0 x0) x1 σ) else none)) else some 0))
set_option maxHeartbeats 4000000 in
set_option maxRecDepth 100000 in
theorem kX3_goesOn (l : Launch) (D : va_G) (κ : Kp) (ad : Nat → Nat) (x0 : Int32) (x1 : Int32) (σ : Sg) {r : Int32} (hf : fX3_goesOn x0 x1 σ = some r) : Ci l D κ (wsX κ ad) yX3_goesOn wsX3_goesOn 4 85 [.int x0, .int x1] σ r σ := by
  refine Ci.of (cc := cX3_goesOn) (nL := 2) (ret := (some .boolean)) (by decide) rfl (Nat.le_of_ble_eq_true rfl) ?_
  intro p e s m below meth c A ls C h hl
  obtain ⟨hx, hb, hml, hr, hlk, hown, hts, hK, hA, hZ⟩ := id C
  have hl : lv_has ls 2 [(0, .int x0), (1, .int x1)] := hl
  unfold fX3_goesOn at hf
  refine lv_iload_n hx hb dX3_goesOn_0 rfl (lv_at hl 0 rfl) ?_
  refine lv_if_lt (tgt := 10) hx hb dX3_goesOn_1 (by decide) (fun c1 => ?_) (fun c1 => ?_)
  · have hf := tk_t c1 hf
    refine lv_iconst (v := 0) hx hb dX3_goesOn_10 (by decide) ?_
    obtain rfl := so_ok hf
    exact x_zret C rfl h dX3_goesOn_11
  · have hf := tk_f c1 hf
    refine lv_iload_n hx hb dX3_goesOn_4 rfl (lv_at hl 0 rfl) ?_
    refine lv_bipush (v := 53) hx hb dX3_goesOn_5 (by decide) ?_
    refine lv_icmp_lt (tgt := 12) hx hb dX3_goesOn_7 (by decide) (fun c2 => ?_) (fun c2 => ?_)
    · have hf := tk_t c2 hf
      refine lv_iload_n hx hb dX3_goesOn_12 rfl (lv_at hl 0 rfl) ?_
      refine lv_bipush (v := 11) hx hb dX3_goesOn_13 (by decide) ?_
      refine lv_icmp_ge (tgt := 29) hx hb dX3_goesOn_15 (by decide) (fun c3 => ?_) (fun c3 => ?_)
      · have hf := tk_t c3 hf
        refine va_ldcS hx hb hown hZ.2.2.2.2.2.1 dX3_goesOn_29 ?_
        refine lv_iload_n hx hb dX3_goesOn_31 rfl (lv_at hl 0 rfl) ?_
        refine lv_bipush (v := 11) hx hb dX3_goesOn_32 (by decide) ?_
        refine lv_isub hx hb dX3_goesOn_34 ?_
        refine lv_bipush (v := 7) hx hb dX3_goesOn_35 (by decide) ?_
        refine lv_irem hx hb dX3_goesOn_37 (by decide) ?_
        obtain ⟨g4, hf⟩ := gd_ok hf
        refine x_viR (cn := RJ0) (As := [.int ((x0 - 11) - (x0 - 11) / 7 * 7)]) (rest := []) C h (vk_recv hZ.2.2.2.2.2.2.1 (i := 1) (by decide) h.2.2) (kJ0_chr l D κ ad 1 (by decide) ((x0 - 11) - (x0 - 11) / 7 * 7) g4 σ) (fun hts => cwV 1 hts gX3_goesOn_J0_charAt_5068e rfl rfl rfl (by decide +kernel) ⟨Nat.le_of_ble_eq_true rfl, Nat.le_of_ble_eq_true rfl⟩) rfl hl.1 (Nat.le_of_ble_eq_true rfl) rfl dX3_goesOn_38 (fun H locs h => ?_)
        refine lv_iload_n hx hb dX3_goesOn_41 rfl (lv_at hl 1 rfl) ?_
        refine x_si (As := [.int (chS 1 ((x0 - 11) - (x0 - 11) / 7 * 7)), .int x1]) (rest := []) C h (kX3_isOfSort l D κ ad (chS 1 ((x0 - 11) - (x0 - 11) / 7 * 7)) x1 σ (r := (fX3_isOfSort (chS 1 ((x0 - 11) - (x0 - 11) / 7 * 7)) x1 σ)) rfl) (fun hts => va_cwS 2 hts gX3_goesOn_X3_isOfSort rfl rfl rfl (by decide +kernel) ⟨Nat.le_of_ble_eq_true rfl, Nat.le_of_ble_eq_true rfl⟩) rfl hl.1 (Nat.le_of_ble_eq_true rfl) rfl dX3_goesOn_42 (fun H locs h => ?_)
        obtain rfl := so_ok hf
        exact x_zret C (nzX3_isOfSort ..) h dX3_goesOn_45
      · have hf := tk_f c3 hf
        refine va_ldcS hx hb hown hZ.2.2.2.2.1 dX3_goesOn_18 ?_
        refine lv_iload_n hx hb dX3_goesOn_20 rfl (lv_at hl 0 rfl) ?_
        obtain ⟨g5, hf⟩ := gd_ok hf
        refine x_viR (cn := RJ0) (As := [.int x0]) (rest := []) C h (vk_recv hZ.2.2.2.2.2.2.1 (i := 0) (by decide) h.2.2) (kJ0_chr l D κ ad 0 (by decide) x0 g5 σ) (fun hts => cwV 1 hts gX3_goesOn_J0_charAt_5068e rfl rfl rfl (by decide +kernel) ⟨Nat.le_of_ble_eq_true rfl, Nat.le_of_ble_eq_true rfl⟩) rfl hl.1 (Nat.le_of_ble_eq_true rfl) rfl dX3_goesOn_21 (fun H locs h => ?_)
        refine lv_iload_n hx hb dX3_goesOn_24 rfl (lv_at hl 1 rfl) ?_
        refine x_si (As := [.int (chS 0 x0), .int x1]) (rest := []) C h (kX3_isOfSort l D κ ad (chS 0 x0) x1 σ (r := (fX3_isOfSort (chS 0 x0) x1 σ)) rfl) (fun hts => va_cwS 2 hts gX3_goesOn_X3_isOfSort rfl rfl rfl (by decide +kernel) ⟨Nat.le_of_ble_eq_true rfl, Nat.le_of_ble_eq_true rfl⟩) rfl hl.1 (Nat.le_of_ble_eq_true rfl) rfl dX3_goesOn_25 (fun H locs h => ?_)
        obtain rfl := so_ok hf
        exact x_zret C (nzX3_isOfSort ..) h dX3_goesOn_28
    · have hf := tk_f c2 hf
      refine lv_iconst (v := 0) hx hb dX3_goesOn_10 (by decide) ?_
      obtain rfl := so_ok hf
      exact x_zret C rfl h dX3_goesOn_11

-- ===== X3_firstFault: ButtonMatch$Text.firstFault(LButtonMatch$Sheet;II)I
def fX3_firstFault_2 (σ : Sg) (k0 : Nat) (x1 : Int32) (x2 : Int32) : Nat → Int32 → Option (Int32)
  | 0, _ => none
  | n + 1, x3 => (if x2 ≤ x3 then (if (fX3_isWhole x2 σ) = 0 then some x2 else some (-1)) else ((fX1_read k0 (x1 + x3) σ).bind fun r4 => ((fX3_goesOn x3 r4 σ).bind fun r6 => (if r6 = 0 then some x3 else fX3_firstFault_2 σ k0 x1 x2 n (x3 + 1)))))
set_option maxHeartbeats 4000000 in
set_option maxRecDepth 100000 in
theorem jX3_firstFault_2 {p : Program} {l : Launch} {e : Env} {s : State} {m : MethodId} {args : Array Value} {below : List Frame} {meth : Method} {c : Code} {D : va_G} {κ : Kp} {ad : Nat → Nat} {A : Nat → Prop} {r : Int32} (C : Mc p s m args meth c cX3_firstFault 4 (some .int) wsX3_firstFault RX3 D κ A) (σ : Sg) (k0 : Nat) (hk0 : k0 < 4) (x1 : Int32) (x2 : Int32) : ∀ (n : Nat) (x3 : Int32) (H : Heap) (locs : List Loc) (ls : Array Slot), Wd D (wsX κ ad) A s.heap H locs σ → lv_has ls 4 [(0, .ref (ad (2 + k0))), (1, .int x1), (2, .int x2), (3, .int x3)] → fX3_firstFault_2 σ k0 x1 x2 n x3 = some r → W p l e { frames := 5, cells := 0, slots := 0, locals := 106 } s m args below meth c H locs 0 0 (Qi below args s D (wsX κ ad) A r σ) (F0 m 2 ls []) := by
  obtain ⟨hx, hb, hml, hr, hlk, hown, hts, hK, hA, hZ⟩ := id C
  intro n
  induction n with
  | zero =>
    intro x3 H locs ls h hl hf
    rw [fX3_firstFault_2] at hf
    cases hf
  | succ n ih =>
    intro x3 H locs ls h hl hf
    rw [fX3_firstFault_2] at hf
    refine lv_iload_n hx hb dX3_firstFault_2 rfl (lv_at hl 3 rfl) ?_
    refine lv_iload_n hx hb dX3_firstFault_3 rfl (lv_at hl 2 rfl) ?_
    refine lv_icmp_ge (tgt := 29) hx hb dX3_firstFault_4 (by decide) (fun c1 => ?_) (fun c1 => ?_)
    · have hf := tk_t c1 hf
      refine lv_iload_n hx hb dX3_firstFault_29 rfl (lv_at hl 2 rfl) ?_
      refine x_si (As := [.int x2]) (rest := []) C h (kX3_isWhole l D κ ad x2 σ (r := (fX3_isWhole x2 σ)) rfl) (fun hts => va_cwS 1 hts gX3_firstFault_X3_isWhole rfl rfl rfl (by decide +kernel) ⟨Nat.le_of_ble_eq_true rfl, Nat.le_of_ble_eq_true rfl⟩) rfl hl.1 (Nat.le_of_ble_eq_true rfl) rfl dX3_firstFault_30 (fun H locs h => ?_)
      refine lv_if_eq (tgt := 40) hx hb dX3_firstFault_33 (by decide) (fun c2 => ?_) (fun c2 => ?_)
      · have hf := tk_t c2 hf
        refine lv_iload_n hx hb dX3_firstFault_40 rfl (lv_at hl 2 rfl) ?_
        obtain rfl := so_ok hf
        exact x_iret C h dX3_firstFault_41
      · have hf := tk_f c2 hf
        refine lv_iconst (v := (-1)) hx hb dX3_firstFault_36 (by decide) ?_
        refine lv_goto (tgt := 41) hx hb dX3_firstFault_37 (by decide) ?_
        obtain rfl := so_ok hf
        exact x_iret C h dX3_firstFault_41
    · have hf := tk_f c1 hf
      refine lv_iload_n hx hb dX3_firstFault_7 rfl (lv_at hl 3 rfl) ?_
      refine lv_aload_n hx hb dX3_firstFault_8 rfl (lv_at hl 0 rfl) ?_
      refine lv_iload_n hx hb dX3_firstFault_9 rfl (lv_at hl 1 rfl) ?_
      refine lv_iload_n hx hb dX3_firstFault_10 rfl (lv_at hl 3 rfl) ?_
      refine lv_iadd hx hb dX3_firstFault_11 ?_
      obtain ⟨r4, hg3, hf⟩ := bd_ok hf
      refine x_vi (As := [.int (x1 + x3)]) (rest := [.int x3]) C h (gX_Sh κ ad σ hk0) rfl (kX1_read l D κ ad k0 hk0 (x1 + x3) σ (r := r4) hg3) (fun hts => cwV 1 hts gX3_firstFault_X1_read rfl rfl rfl (by decide +kernel) ⟨Nat.le_of_ble_eq_true rfl, Nat.le_of_ble_eq_true rfl⟩) rfl hl.1 (Nat.le_of_ble_eq_true rfl) rfl dX3_firstFault_12 (fun H locs h => ?_)
      obtain ⟨r6, hg5, hf⟩ := bd_ok hf
      refine x_si (As := [.int x3, .int r4]) (rest := []) C h (kX3_goesOn l D κ ad x3 r4 σ (r := r6) hg5) (fun hts => va_cwS 2 hts gX3_firstFault_X3_goesOn rfl rfl rfl (by decide +kernel) ⟨Nat.le_of_ble_eq_true rfl, Nat.le_of_ble_eq_true rfl⟩) rfl hl.1 (Nat.le_of_ble_eq_true rfl) rfl dX3_firstFault_15 (fun H locs h => ?_)
      refine lv_if_ne (tgt := 23) hx hb dX3_firstFault_18 (by decide) (fun c7 => ?_) (fun c7 => ?_)
      · have hf := tk_f c7 hf
        refine lv_iinc (v := (x3 + 1)) (lv' := [(3, .int (x3 + 1)), (0, .ref (ad (2 + k0))), (1, .int x1), (2, .int x2)]) hx hb dX3_firstFault_23 hl (k := 3) rfl rfl (by decide) rfl (fun ls hl => ?_)
        refine lv_goto (tgt := 2) hx hb dX3_firstFault_26 (by decide) ?_
        exact ih (x3 + 1) _ _ _ h (lv_sub hl [1, 2, 3, 0] rfl) hf
      · have hf := tk_t c7 hf
        refine lv_iload_n hx hb dX3_firstFault_21 rfl (lv_at hl 3 rfl) ?_
        obtain rfl := so_ok hf
        exact x_iret C h dX3_firstFault_22
def fX3_firstFault (k0 : Nat) (x1 : Int32) (x2 : Int32) (σ : Sg) : Option (Int32) :=
  fX3_firstFault_2 σ k0 x1 x2 1000 0
set_option maxHeartbeats 4000000 in
set_option maxRecDepth 100000 in
theorem kX3_firstFault (l : Launch) (D : va_G) (κ : Kp) (ad : Nat → Nat) (k0 : Nat) (hk0 : k0 < 4) (x1 : Int32) (x2 : Int32) (σ : Sg) {r : Int32} (hf : fX3_firstFault k0 x1 x2 σ = some r) : Ci l D κ (wsX κ ad) yX3_firstFault wsX3_firstFault 5 106 [.ref (ad (2 + k0)), .int x1, .int x2] σ r σ := by
  refine Ci.of (cc := cX3_firstFault) (nL := 4) (ret := (some .int)) (by decide) rfl (Nat.le_of_ble_eq_true rfl) ?_
  intro p e s m below meth c A ls C h hl
  obtain ⟨hx, hb, hml, hr, hlk, hown, hts, hK, hA, hZ⟩ := id C
  have hl : lv_has ls 4 [(0, .ref (ad (2 + k0))), (1, .int x1), (2, .int x2)] := hl
  unfold fX3_firstFault at hf
  refine lv_iconst (v := 0) hx hb dX3_firstFault_0 (by decide) ?_
  refine lv_istore_n (lv' := [(3, .int 0), (0, .ref (ad (2 + k0))), (1, .int x1), (2, .int x2)]) hx hb dX3_firstFault_1 rfl hl (by decide) rfl (fun ls hl => ?_)
  exact jX3_firstFault_2 C σ k0 hk0 x1 x2 1000 0 _ _ _ h (lv_sub hl [1, 2, 3, 0] rfl) hf

-- ===== X6_shop: ButtonMatch.shop(IIII)I
theorem lkX6_shop_13 : Cond.fieldLink RX6 13 "ButtonMatch" "sheets" "[LButtonMatch$Sheet;" ∈ wsX6_shop := by decide +kernel
theorem inX6_shop_X6 : ∀ w ∈ wsX60, w ∈ wsX6_shop := fun _ h => List.mem_cons_of_mem _ (List.mem_append_left _ (List.mem_append_left _ (List.mem_append_left _ (List.mem_append_left _ (List.mem_append_right _ h)))))
theorem lkX6_shop_20 : Cond.fieldLink RX6 20 "ButtonMatch" "shop" "LButtonMatch$Shop;" ∈ wsX6_shop := by decide +kernel
theorem lkX6_shop_27 : Cond.fieldLink RX6 27 "ButtonMatch" "readings" "LButtonMatch$Readings;" ∈ wsX6_shop := by decide +kernel
theorem inX6_shop_X0 : ∀ w ∈ wsX00, w ∈ wsX6_shop := fun _ h => List.mem_cons_of_mem _ (List.mem_append_left _ (List.mem_append_left _ (List.mem_append_left _ (List.mem_append_right _ h))))
theorem inX6_shop_X2 : ∀ w ∈ wsX20, w ∈ wsX6_shop := fun _ h => List.mem_cons_of_mem _ (List.mem_append_left _ (List.mem_append_left _ (List.mem_append_right _ h)))
def fX6_shop (x1 : Int32) (x2 : Int32) (x3 : Int32) (x4 : Int32) (σ : Sg) : Option (Int32 × Sg) :=
  ((fX6_refusalOfRow x1 x2 x3 x4 1 σ).bind fun q2 => (if q2.1 = 0 then (if gIn x1 4 then ((fX3_firstFault x1.toNatClampNeg x3 x4 q2.2).bind fun r7 => (if r7 = (-1) then ((fX2_stockFrom x1.toNatClampNeg x3 x4 q2.2).bind fun τ10 => some ((τ10 10 2), (up2 τ10 19 2 0))) else some (((-100) - r7), q2.2))) else none) else some (q2.1, q2.2)))
set_option maxHeartbeats 4000000 in
set_option maxRecDepth 100000 in
theorem kX6_shop (l : Launch) (D : va_G) (κ : Kp) (ad : Nat → Nat) (x1 : Int32) (x2 : Int32) (x3 : Int32) (x4 : Int32) (σ : Sg) {r : Int32} {τ : Sg} (hf : fX6_shop x1 x2 x3 x4 σ = some (r, τ)) : Ci l D κ (wsX κ ad) yX6_shop wsX6_shop 6 129 [.ref (ad 0), .int x1, .int x2, .int x3, .int x4] σ r τ := by
  refine Ci.of (cc := cX6_shop) (nL := 8) (ret := (some .int)) (by decide) rfl (Nat.le_of_ble_eq_true rfl) ?_
  intro p e s m below meth c A ls C h hl
  obtain ⟨hx, hb, hml, hr, hlk, hown, hts, hK, hA, hZ⟩ := id C
  have hl : lv_has ls 8 [(0, .ref (ad 0)), (1, .int x1), (2, .int x2), (3, .int x3), (4, .int x4)] := hl
  unfold fX6_shop at hf
  refine lv_aload_n hx hb dX6_shop_0 rfl (lv_at hl 0 rfl) ?_
  refine lv_iload_n hx hb dX6_shop_1 rfl (lv_at hl 1 rfl) ?_
  refine lv_iload_n hx hb dX6_shop_2 rfl (lv_at hl 2 rfl) ?_
  refine lv_iload_n hx hb dX6_shop_3 rfl (lv_at hl 3 rfl) ?_
  refine lv_iload hx hb dX6_shop_4 (lv_at hl 4 rfl) ?_
  refine lv_iconst (v := 1) hx hb dX6_shop_6 (by decide) ?_
  obtain ⟨q2, hg1, hf⟩ := bd_ok hf
  refine x_vi (As := [.int x1, .int x2, .int x3, .int x4, .int 1]) (rest := []) C h (gX_BM κ ad σ) rfl (kX6_refusalOfRow l D κ ad x1 x2 x3 x4 1 σ (r := q2.1) (τ := q2.2) hg1) (fun hts => cwV 5 hts gX6_shop_X6_refusalOfRow rfl rfl rfl (by decide +kernel) ⟨Nat.le_of_ble_eq_true rfl, Nat.le_of_ble_eq_true rfl⟩) rfl hl.1 (Nat.le_of_ble_eq_true rfl) rfl dX6_shop_7 (fun H locs h => ?_)
  refine lv_istore (lv' := [(5, .int q2.1), (0, .ref (ad 0)), (1, .int x1), (2, .int x2), (3, .int x3), (4, .int x4)]) hx hb dX6_shop_10 hl (by decide) rfl (fun ls hl => ?_)
  refine lv_iload hx hb dX6_shop_12 (lv_at hl 0 rfl) ?_
  refine lv_if_eq (tgt := 20) hx hb dX6_shop_14 (by decide) (fun c3 => ?_) (fun c3 => ?_)
  · have hf := tk_t c3 hf
    refine lv_aload_n hx hb dX6_shop_20 rfl (lv_at hl 1 rfl) ?_
    refine x_get (v := .ref (ad 1)) C h (gX_BM κ ad q2.2) rfl inX6_shop_X6 0 (by decide) (hts _ lkX6_shop_13) rfl dX6_shop_21 ?_
    refine lv_iload_n hx hb dX6_shop_24 rfl (lv_at hl 2 rfl) ?_
    obtain ⟨g4, hf⟩ := gd_ok hf
    have b5 : x1.toNatClampNeg < 4 := vp_lt g4
    refine x_aald (t0 := 2) (cn := "ButtonMatch$Sheet") (b := ad (2 + x1.toNatClampNeg)) C h (gX_arS κ ad q2.2) rfl g4 rfl dX6_shop_25 ?_
    refine lv_astore (lv' := [(6, .ref (ad (2 + x1.toNatClampNeg))), (5, .int q2.1), (0, .ref (ad 0)), (1, .int x1), (2, .int x2), (3, .int x3), (4, .int x4)]) hx hb dX6_shop_26 hl (by decide) rfl (fun ls hl => ?_)
    refine lv_aload hx hb dX6_shop_28 (lv_at hl 0 rfl) ?_
    refine lv_iload_n hx hb dX6_shop_30 rfl (lv_at hl 5 rfl) ?_
    refine lv_iload hx hb dX6_shop_31 (lv_at hl 6 rfl) ?_
    obtain ⟨r7, hg6, hf⟩ := bd_ok hf
    refine x_si (As := [.ref (ad (2 + x1.toNatClampNeg)), .int x3, .int x4]) (rest := []) C h (kX3_firstFault l D κ ad x1.toNatClampNeg b5 x3 x4 q2.2 (r := r7) hg6) (fun hts => va_cwS 3 hts gX6_shop_X3_firstFault rfl rfl rfl (by decide +kernel) ⟨Nat.le_of_ble_eq_true rfl, Nat.le_of_ble_eq_true rfl⟩) rfl hl.1 (Nat.le_of_ble_eq_true rfl) rfl dX6_shop_33 (fun H locs h => ?_)
    refine lv_istore (lv' := [(7, .int r7), (6, .ref (ad (2 + x1.toNatClampNeg))), (5, .int q2.1), (0, .ref (ad 0)), (1, .int x1), (2, .int x2), (3, .int x3), (4, .int x4)]) hx hb dX6_shop_36 hl (by decide) rfl (fun ls hl => ?_)
    refine lv_iload hx hb dX6_shop_38 (lv_at hl 0 rfl) ?_
    refine lv_iconst (v := (-1)) hx hb dX6_shop_40 (by decide) ?_
    refine lv_icmp_eq (tgt := 50) hx hb dX6_shop_41 (by decide) (fun c8 => ?_) (fun c8 => ?_)
    · have hf := tk_t c8 hf
      refine lv_aload_n hx hb dX6_shop_50 rfl (lv_at hl 3 rfl) ?_
      refine x_get (v := .ref (ad 10)) C h (gX_BM κ ad q2.2) rfl inX6_shop_X6 1 (by decide) (hts _ lkX6_shop_20) rfl dX6_shop_51 ?_
      refine lv_aload hx hb dX6_shop_54 (lv_at hl 1 rfl) ?_
      refine lv_iload_n hx hb dX6_shop_56 rfl (lv_at hl 6 rfl) ?_
      refine lv_iload hx hb dX6_shop_57 (lv_at hl 7 rfl) ?_
      obtain ⟨τ10, hg9, hf⟩ := bd_ok hf
      refine x_vv (As := [.ref (ad (2 + x1.toNatClampNeg)), .int x3, .int x4]) (rest := []) C h (gX_Sp κ ad q2.2) rfl (kX2_stockFrom l D κ ad x1.toNatClampNeg b5 x3 x4 q2.2 (τ := τ10) hg9) (fun hts => cwV 3 hts gX6_shop_X2_stockFrom rfl rfl rfl (by decide +kernel) ⟨Nat.le_of_ble_eq_true rfl, Nat.le_of_ble_eq_true rfl⟩) rfl hl.1 (Nat.le_of_ble_eq_true rfl) rfl dX6_shop_59 (fun H locs h => ?_)
      refine lv_aload_n hx hb dX6_shop_62 rfl (lv_at hl 3 rfl) ?_
      refine x_get (v := .ref (ad 19)) C h (gX_BM κ ad τ10) rfl inX6_shop_X6 2 (by decide) (hts _ lkX6_shop_27) rfl dX6_shop_63 ?_
      refine lv_iconst (v := 0) hx hb dX6_shop_66 (by decide) ?_
      refine x_putN C h (gX_Rd κ ad τ10) rfl inX6_shop_X0 tyX0 tyX0_ok nmX0 2 (by decide) ((hZ.2.2.2.2.2.2.2.1 _ nkRX6_53).use rfl) rfl (tyX0_ok 2 (by decide)) (Nat.le_of_ble_eq_true rfl) (sX_Rd_2 κ ad τ10 0) dX6_shop_67 (fun H locs h => ?_)
      refine lv_aload_n hx hb dX6_shop_70 rfl (lv_at hl 3 rfl) ?_
      refine x_get (v := .ref (ad 10)) C h (gX_BM κ ad (up2 τ10 19 2 0)) rfl inX6_shop_X6 1 (by decide) (hts _ lkX6_shop_20) rfl dX6_shop_71 ?_
      refine x_getN (v := .int (τ10 10 2)) C h (gX_Sp κ ad (up2 τ10 19 2 0)) rfl inX6_shop_X2 2 (by decide) ((hZ.2.2.2.2.2.2.2.1 _ nkRX6_56).use rfl) rfl dX6_shop_74 ?_
      obtain ⟨rfl, rfl⟩ := pr_ok hf
      exact x_iret C h dX6_shop_77
    · have hf := tk_f c8 hf
      refine lv_bipush (v := (-100)) hx hb dX6_shop_44 (by decide) ?_
      refine lv_iload hx hb dX6_shop_46 (lv_at hl 0 rfl) ?_
      refine lv_isub hx hb dX6_shop_48 ?_
      obtain ⟨rfl, rfl⟩ := pr_ok hf
      exact x_iret C h dX6_shop_49
  · have hf := tk_f c3 hf
    refine lv_iload hx hb dX6_shop_17 (lv_at hl 0 rfl) ?_
    obtain ⟨rfl, rfl⟩ := pr_ok hf
    exact x_iret C h dX6_shop_19
