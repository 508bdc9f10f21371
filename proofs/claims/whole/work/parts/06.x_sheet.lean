-- ===== J6_bitCount_0f7a4: java/lang/Integer.bitCount(I)I
theorem lkJ6_bitCount_0f7a4_265 : Cond.constant RJ6 265 (1431655765) ∈ wsJ6_bitCount_0f7a4 := by decide +kernel
theorem lkJ6_bitCount_0f7a4_266 : Cond.constant RJ6 266 (858993459) ∈ wsJ6_bitCount_0f7a4 := by decide +kernel
theorem lkJ6_bitCount_0f7a4_267 : Cond.constant RJ6 267 (252645135) ∈ wsJ6_bitCount_0f7a4 := by decide +kernel
def fJ6_bitCount_0f7a4 (x0 : Int32) (σ : Sg) : Int32 :=
  (lt (((x0 - (((x0.toUInt32 >>> (Int32.toUInt32 1 &&& Int32.toUInt32 31)).toInt32) &&& 1431655765)) &&& 858993459) + ((((x0 - (((x0.toUInt32 >>> (Int32.toUInt32 1 &&& Int32.toUInt32 31)).toInt32) &&& 1431655765)).toUInt32 >>> (Int32.toUInt32 2 &&& Int32.toUInt32 31)).toInt32) &&& 858993459)) fun y1 => (lt (((y1 + ((y1.toUInt32 >>> (Int32.toUInt32 4 &&& Int32.toUInt32 31)).toInt32)) &&& 252645135) + ((((y1 + ((y1.toUInt32 >>> (Int32.toUInt32 4 &&& Int32.toUInt32 31)).toInt32)) &&& 252645135).toUInt32 >>> (Int32.toUInt32 8 &&& Int32.toUInt32 31)).toInt32)) fun y2 => ((y2 + ((y2.toUInt32 >>> (Int32.toUInt32 16 &&& Int32.toUInt32 31)).toInt32)) &&& 63)))
set_option maxHeartbeats 4000000 in
set_option maxRecDepth 100000 in
theorem kJ6_bitCount_0f7a4 (l : Launch) (D : va_G) (κ : Kp) (ad : Nat → Nat) (x0 : Int32) (σ : Sg) {r : Int32} (hf : fJ6_bitCount_0f7a4 x0 σ = r) : Ci l D κ (wsX κ ad) yJ6_bitCount_0f7a4 wsJ6_bitCount_0f7a4 0 0 [.int x0] σ r σ := by
  refine Ci.of (cc := cJ6_bitCount_0f7a4) (nL := 1) (ret := (some .int)) (by decide) rfl (Nat.le_of_ble_eq_true rfl) ?_
  intro p e s m below meth c A ls C h hl
  obtain ⟨hx, hb, hml, hr, hlk, hown, hts, hK, hA, hZ⟩ := id C
  have hl : lv_has ls 1 [(0, .int x0)] := hl
  unfold fJ6_bitCount_0f7a4 at hf
  refine lv_iload_n hx hb dJ6_bitCount_0f7a4_0 rfl (lv_at hl 0 rfl) ?_
  refine lv_iload_n hx hb dJ6_bitCount_0f7a4_1 rfl (lv_at hl 0 rfl) ?_
  refine lv_iconst (v := 1) hx hb dJ6_bitCount_0f7a4_2 (by decide) ?_
  refine lv_iushr (v := (x0.toUInt32 >>> (Int32.toUInt32 1 &&& Int32.toUInt32 31)).toInt32) hx hb dJ6_bitCount_0f7a4_3 rfl ?_
  refine lv_ldcw (v := 1431655765) hx hb hown (hts _ lkJ6_bitCount_0f7a4_265) dJ6_bitCount_0f7a4_4 ?_
  refine lv_iand hx hb dJ6_bitCount_0f7a4_7 ?_
  refine lv_isub hx hb dJ6_bitCount_0f7a4_8 ?_
  refine lv_istore_n (lv' := [(0, .int (x0 - (((x0.toUInt32 >>> (Int32.toUInt32 1 &&& Int32.toUInt32 31)).toInt32) &&& 1431655765)))]) hx hb dJ6_bitCount_0f7a4_9 rfl hl (by decide) rfl (fun ls hl => ?_)
  refine lv_iload_n hx hb dJ6_bitCount_0f7a4_10 rfl (lv_at hl 0 rfl) ?_
  refine lv_ldcw (v := 858993459) hx hb hown (hts _ lkJ6_bitCount_0f7a4_266) dJ6_bitCount_0f7a4_11 ?_
  refine lv_iand hx hb dJ6_bitCount_0f7a4_14 ?_
  refine lv_iload_n hx hb dJ6_bitCount_0f7a4_15 rfl (lv_at hl 0 rfl) ?_
  refine lv_iconst (v := 2) hx hb dJ6_bitCount_0f7a4_16 (by decide) ?_
  refine lv_iushr (v := ((x0 - (((x0.toUInt32 >>> (Int32.toUInt32 1 &&& Int32.toUInt32 31)).toInt32) &&& 1431655765)).toUInt32 >>> (Int32.toUInt32 2 &&& Int32.toUInt32 31)).toInt32) hx hb dJ6_bitCount_0f7a4_17 rfl ?_
  refine lv_ldcw (v := 858993459) hx hb hown (hts _ lkJ6_bitCount_0f7a4_266) dJ6_bitCount_0f7a4_18 ?_
  refine lv_iand hx hb dJ6_bitCount_0f7a4_21 ?_
  refine lv_iadd hx hb dJ6_bitCount_0f7a4_22 ?_
  obtain ⟨y1, ey1, hf⟩ := lt_ok hf
  rw [← ey1]
  refine lv_istore_n (lv' := [(0, .int y1)]) hx hb dJ6_bitCount_0f7a4_23 rfl hl (by decide) rfl (fun ls hl => ?_)
  refine lv_iload_n hx hb dJ6_bitCount_0f7a4_24 rfl (lv_at hl 0 rfl) ?_
  refine lv_iload_n hx hb dJ6_bitCount_0f7a4_25 rfl (lv_at hl 0 rfl) ?_
  refine lv_iconst (v := 4) hx hb dJ6_bitCount_0f7a4_26 (by decide) ?_
  refine lv_iushr (v := (y1.toUInt32 >>> (Int32.toUInt32 4 &&& Int32.toUInt32 31)).toInt32) hx hb dJ6_bitCount_0f7a4_27 rfl ?_
  refine lv_iadd hx hb dJ6_bitCount_0f7a4_28 ?_
  refine lv_ldcw (v := 252645135) hx hb hown (hts _ lkJ6_bitCount_0f7a4_267) dJ6_bitCount_0f7a4_29 ?_
  refine lv_iand hx hb dJ6_bitCount_0f7a4_32 ?_
  refine lv_istore_n (lv' := [(0, .int ((y1 + ((y1.toUInt32 >>> (Int32.toUInt32 4 &&& Int32.toUInt32 31)).toInt32)) &&& 252645135))]) hx hb dJ6_bitCount_0f7a4_33 rfl hl (by decide) rfl (fun ls hl => ?_)
  refine lv_iload_n hx hb dJ6_bitCount_0f7a4_34 rfl (lv_at hl 0 rfl) ?_
  refine lv_iload_n hx hb dJ6_bitCount_0f7a4_35 rfl (lv_at hl 0 rfl) ?_
  refine lv_bipush (v := 8) hx hb dJ6_bitCount_0f7a4_36 (by decide) ?_
  refine lv_iushr (v := (((y1 + ((y1.toUInt32 >>> (Int32.toUInt32 4 &&& Int32.toUInt32 31)).toInt32)) &&& 252645135).toUInt32 >>> (Int32.toUInt32 8 &&& Int32.toUInt32 31)).toInt32) hx hb dJ6_bitCount_0f7a4_38 rfl ?_
  refine lv_iadd hx hb dJ6_bitCount_0f7a4_39 ?_
  obtain ⟨y2, ey2, hf⟩ := lt_ok hf
  rw [← ey2]
  refine lv_istore_n (lv' := [(0, .int y2)]) hx hb dJ6_bitCount_0f7a4_40 rfl hl (by decide) rfl (fun ls hl => ?_)
  refine lv_iload_n hx hb dJ6_bitCount_0f7a4_41 rfl (lv_at hl 0 rfl) ?_
  refine lv_iload_n hx hb dJ6_bitCount_0f7a4_42 rfl (lv_at hl 0 rfl) ?_
  refine lv_bipush (v := 16) hx hb dJ6_bitCount_0f7a4_43 (by decide) ?_
  refine lv_iushr (v := (y2.toUInt32 >>> (Int32.toUInt32 16 &&& Int32.toUInt32 31)).toInt32) hx hb dJ6_bitCount_0f7a4_45 rfl ?_
  refine lv_iadd hx hb dJ6_bitCount_0f7a4_46 ?_
  refine lv_istore_n (lv' := [(0, .int (y2 + ((y2.toUInt32 >>> (Int32.toUInt32 16 &&& Int32.toUInt32 31)).toInt32)))]) hx hb dJ6_bitCount_0f7a4_47 rfl hl (by decide) rfl (fun ls hl => ?_)
  refine lv_iload_n hx hb dJ6_bitCount_0f7a4_48 rfl (lv_at hl 0 rfl) ?_
  refine lv_bipush (v := 63) hx hb dJ6_bitCount_0f7a4_49 (by decide) ?_
  refine lv_iand hx hb dJ6_bitCount_0f7a4_51 ?_
  subst hf
  exact x_iret C h dJ6_bitCount_0f7a4_52

-- ===== J7_fill_53178: java/util/Arrays.fill([II)V
def fJ7_fill_53178_5 (k0 : Nat) (x1 : Int32) (x3 : Int32) : Nat → Int32 → Sg → Option (Sg)
  | 0, _, _ => none
  | n + 1, x2, σ => (if x3 ≤ x2 then some σ else (if gIn x2 60 then fJ7_fill_53178_5 k0 x1 x3 n (x2 + 1) (up2 σ (6 + k0) x2.toNatClampNeg x1) else none))
set_option maxHeartbeats 4000000 in
set_option maxRecDepth 100000 in
theorem jJ7_fill_53178_5 {p : Program} {l : Launch} {e : Env} {s : State} {m : MethodId} {args : Array Value} {below : List Frame} {meth : Method} {c : Code} {D : va_G} {κ : Kp} {ad : Nat → Nat} {A : Nat → Prop} {τ : Sg} (C : Mc p s m args meth c cJ7_fill_53178 4 none wsJ7_fill_53178 RJ7 D κ A) (k0 : Nat) (hk0 : k0 < 4) (x1 : Int32) (x3 : Int32) : ∀ (n : Nat) (x2 : Int32) (σ : Sg) (H : Heap) (locs : List Loc) (ls : Array Slot), Wd D (wsX κ ad) A s.heap H locs σ → lv_has ls 4 [(0, .ref (ad (6 + k0))), (1, .int x1), (2, .int x2), (3, .int x3)] → fJ7_fill_53178_5 k0 x1 x3 n x2 σ = some τ → W p l e { frames := 0, cells := 0, slots := 0, locals := 0 } s m args below meth c H locs 0 0 (Qv below args s D (wsX κ ad) A τ) (F0 m 5 ls []) := by
  obtain ⟨hx, hb, hml, hr, hlk, hown, hts, hK, hA, hZ⟩ := id C
  intro n
  induction n with
  | zero =>
    intro x2 σ H locs ls h hl hf
    rw [fJ7_fill_53178_5] at hf
    cases hf
  | succ n ih =>
    intro x2 σ H locs ls h hl hf
    rw [fJ7_fill_53178_5] at hf
    refine lv_iload_n hx hb dJ7_fill_53178_5 rfl (lv_at hl 2 rfl) ?_
    refine lv_iload_n hx hb dJ7_fill_53178_6 rfl (lv_at hl 3 rfl) ?_
    refine lv_icmp_ge (tgt := 20) hx hb dJ7_fill_53178_7 (by decide) (fun c1 => ?_) (fun c1 => ?_)
    · have hf := tk_t c1 hf
      obtain rfl := so_ok hf
      exact x_vret C h dJ7_fill_53178_20
    · have hf := tk_f c1 hf
      refine lv_aload_n hx hb dJ7_fill_53178_10 rfl (lv_at hl 0 rfl) ?_
      refine lv_iload_n hx hb dJ7_fill_53178_11 rfl (lv_at hl 2 rfl) ?_
      refine lv_iload_n hx hb dJ7_fill_53178_12 rfl (lv_at hl 1 rfl) ?_
      obtain ⟨g2, hf⟩ := gd_ok hf
      refine x_iast C h (gX_cl κ ad σ hk0) (sX_cl κ ad σ x2.toNatClampNeg x1 hk0) g2 dJ7_fill_53178_13 (fun H locs h => ?_)
      refine lv_iinc (v := (x2 + 1)) (lv' := [(2, .int (x2 + 1)), (0, .ref (ad (6 + k0))), (1, .int x1), (3, .int x3)]) hx hb dJ7_fill_53178_14 hl (k := 2) rfl rfl (by decide) rfl (fun ls hl => ?_)
      refine lv_goto (tgt := 5) hx hb dJ7_fill_53178_17 (by decide) ?_
      exact ih (x2 + 1) (up2 σ (6 + k0) x2.toNatClampNeg x1) _ _ _ h (lv_sub hl [1, 2, 0, 3] rfl) hf
def fJ7_fill_53178 (k0 : Nat) (x1 : Int32) (σ : Sg) : Option (Sg) :=
  fJ7_fill_53178_5 k0 x1 60 1000 0 σ
set_option maxHeartbeats 4000000 in
set_option maxRecDepth 100000 in
theorem kJ7_fill_53178 (l : Launch) (D : va_G) (κ : Kp) (ad : Nat → Nat) (k0 : Nat) (hk0 : k0 < 4) (x1 : Int32) (σ : Sg) {τ : Sg} (hf : fJ7_fill_53178 k0 x1 σ = some τ) : Cv l D κ (wsX κ ad) yJ7_fill_53178 wsJ7_fill_53178 0 0 [.ref (ad (6 + k0)), .int x1] σ τ := by
  refine Cv.of (cc := cJ7_fill_53178) (nL := 4) (ret := none) (by decide) rfl (Nat.le_of_ble_eq_true rfl) ?_
  intro p e s m below meth c A ls C h hl
  obtain ⟨hx, hb, hml, hr, hlk, hown, hts, hK, hA, hZ⟩ := id C
  have hl : lv_has ls 4 [(0, .ref (ad (6 + k0))), (1, .int x1)] := hl
  unfold fJ7_fill_53178 at hf
  refine lv_iconst (v := 0) hx hb dJ7_fill_53178_0 (by decide) ?_
  refine lv_istore_n (lv' := [(2, .int 0), (0, .ref (ad (6 + k0))), (1, .int x1)]) hx hb dJ7_fill_53178_1 rfl hl (by decide) rfl (fun ls hl => ?_)
  refine lv_aload_n hx hb dJ7_fill_53178_2 rfl (lv_at hl 1 rfl) ?_
  refine x_alen (v := 60) (t0 := 0) C h (gX_cl κ ad σ hk0) rfl rfl dJ7_fill_53178_3 ?_
  refine lv_istore_n (lv' := [(3, .int 60), (2, .int 0), (0, .ref (ad (6 + k0))), (1, .int x1)]) hx hb dJ7_fill_53178_4 rfl hl (by decide) rfl (fun ls hl => ?_)
  exact jJ7_fill_53178_5 C k0 hk0 x1 60 1000 0 σ _ _ _ h (lv_sub hl [2, 3, 1, 0] rfl) hf

-- ===== X1_isNothing: ButtonMatch$Sheet.isNothing()Z
theorem lkX1_isNothing_15 : Cond.fieldLink RX1 15 "ButtonMatch$Sheet" "lane" "I" ∈ wsX1_isNothing := by decide +kernel
theorem inX1_isNothing_X1 : ∀ w ∈ wsX10, w ∈ wsX1_isNothing := fun _ h => List.mem_cons_of_mem _ (List.mem_append_right _ h)
def fX1_isNothing (k0 : Nat) (σ : Sg) : Int32 :=
  (if (σ (2 + k0) 1) = (-1) then 1 else 0)
set_option maxHeartbeats 4000000 in
set_option maxRecDepth 100000 in
theorem kX1_isNothing (l : Launch) (D : va_G) (κ : Kp) (ad : Nat → Nat) (k0 : Nat) (hk0 : k0 < 4) (σ : Sg) {r : Int32} (hf : fX1_isNothing k0 σ = r) : Ci l D κ (wsX κ ad) yX1_isNothing wsX1_isNothing 0 0 [.ref (ad (2 + k0))] σ r σ := by
  refine Ci.of (cc := cX1_isNothing) (nL := 1) (ret := (some .boolean)) (by decide) rfl (Nat.le_of_ble_eq_true rfl) ?_
  intro p e s m below meth c A ls C h hl
  obtain ⟨hx, hb, hml, hr, hlk, hown, hts, hK, hA, hZ⟩ := id C
  have hl : lv_has ls 1 [(0, .ref (ad (2 + k0)))] := hl
  unfold fX1_isNothing at hf
  refine lv_aload_n hx hb dX1_isNothing_0 rfl (lv_at hl 0 rfl) ?_
  refine x_get (v := .int (σ (2 + k0) 1)) C h (gX_Sh κ ad σ hk0) rfl inX1_isNothing_X1 1 (by decide) (hts _ lkX1_isNothing_15) rfl dX1_isNothing_1 ?_
  refine lv_iconst (v := (-1)) hx hb dX1_isNothing_4 (by decide) ?_
  refine lv_icmp_ne (tgt := 12) hx hb dX1_isNothing_5 (by decide) (fun c1 => ?_) (fun c1 => ?_)
  · have hf := tk_f c1 hf
    refine lv_iconst (v := 0) hx hb dX1_isNothing_12 (by decide) ?_
    subst hf
    exact x_zret C rfl h dX1_isNothing_13
  · have hf := tk_t c1 hf
    refine lv_iconst (v := 1) hx hb dX1_isNothing_8 (by decide) ?_
    refine lv_goto (tgt := 13) hx hb dX1_isNothing_9 (by decide) ?_
    subst hf
    exact x_zret C rfl h dX1_isNothing_13
theorem nzX1_isNothing (k0 : Nat) (σ : Sg) : narrow .boolean (.int (fX1_isNothing k0 σ)) = .int (fX1_isNothing k0 σ) := by
  unfold fX1_isNothing
  repeat' split
  all_goals rfl

-- ===== X1_becomeNothing: ButtonMatch$Sheet.becomeNothing()V
theorem lkX1_becomeNothing_15 : Cond.fieldLink RX1 15 "ButtonMatch$Sheet" "lane" "I" ∈ wsX1_becomeNothing := by decide +kernel
theorem inX1_becomeNothing_X1 : ∀ w ∈ wsX10, w ∈ wsX1_becomeNothing := fun _ h => List.mem_cons_of_mem _ (List.mem_append_right _ h)
theorem lkX1_becomeNothing_19 : Cond.fieldLink RX1 19 "ButtonMatch$Sheet" "length" "I" ∈ wsX1_becomeNothing := by decide +kernel
def fX1_becomeNothing (k0 : Nat) (σ : Sg) : Sg :=
  (up2 (up2 σ (2 + k0) 1 (-1)) (2 + k0) 2 0)
set_option maxHeartbeats 4000000 in
set_option maxRecDepth 100000 in
theorem kX1_becomeNothing (l : Launch) (D : va_G) (κ : Kp) (ad : Nat → Nat) (k0 : Nat) (hk0 : k0 < 4) (σ : Sg) {τ : Sg} (hf : fX1_becomeNothing k0 σ = τ) : Cv l D κ (wsX κ ad) yX1_becomeNothing wsX1_becomeNothing 0 0 [.ref (ad (2 + k0))] σ τ := by
  refine Cv.of (cc := cX1_becomeNothing) (nL := 1) (ret := none) (by decide) rfl (Nat.le_of_ble_eq_true rfl) ?_
  intro p e s m below meth c A ls C h hl
  obtain ⟨hx, hb, hml, hr, hlk, hown, hts, hK, hA, hZ⟩ := id C
  have hl : lv_has ls 1 [(0, .ref (ad (2 + k0)))] := hl
  unfold fX1_becomeNothing at hf
  refine lv_aload_n hx hb dX1_becomeNothing_0 rfl (lv_at hl 0 rfl) ?_
  refine lv_iconst (v := (-1)) hx hb dX1_becomeNothing_1 (by decide) ?_
  refine x_put C h (gX_Sh κ ad σ hk0) rfl inX1_becomeNothing_X1 tyX1 tyX1_ok nmX1 1 (by decide) (hts _ lkX1_becomeNothing_15) rfl (tyX1_ok 1 (by decide)) (Nat.le_of_ble_eq_true rfl) (sX_Sh_1 κ ad σ (-1) hk0) dX1_becomeNothing_2 (fun H locs h => ?_)
  refine lv_aload_n hx hb dX1_becomeNothing_5 rfl (lv_at hl 0 rfl) ?_
  refine lv_iconst (v := 0) hx hb dX1_becomeNothing_6 (by decide) ?_
  refine x_put C h (gX_Sh κ ad (up2 σ (2 + k0) 1 (-1)) hk0) rfl inX1_becomeNothing_X1 tyX1 tyX1_ok nmX1 2 (by decide) (hts _ lkX1_becomeNothing_19) rfl (tyX1_ok 2 (by decide)) (Nat.le_of_ble_eq_true rfl) (sX_Sh_2 κ ad (up2 σ (2 + k0) 1 (-1)) 0 hk0) dX1_becomeNothing_7 (fun H locs h => ?_)
  subst hf
  exact x_vret C h dX1_becomeNothing_10

-- ===== X1_begin: ButtonMatch$Sheet.begin(II)V
theorem lkX1_begin_9 : Cond.fieldLink RX1 9 "ButtonMatch$Sheet" "cells" "[I" ∈ wsX1_begin := by decide +kernel
theorem inX1_begin_X1 : ∀ w ∈ wsX10, w ∈ wsX1_begin := fun _ h => List.mem_cons_of_mem _ (List.mem_append_right _ h)
theorem lkX1_begin_15 : Cond.fieldLink RX1 15 "ButtonMatch$Sheet" "lane" "I" ∈ wsX1_begin := by decide +kernel
theorem lkX1_begin_19 : Cond.fieldLink RX1 19 "ButtonMatch$Sheet" "length" "I" ∈ wsX1_begin := by decide +kernel
def fX1_begin (k0 : Nat) (x1 : Int32) (x2 : Int32) (σ : Sg) : Option (Sg) :=
  ((fJ7_fill_53178 k0 0 σ).bind fun τ2 => some (up2 (up2 τ2 (2 + k0) 1 x1) (2 + k0) 2 x2))
set_option maxHeartbeats 4000000 in
set_option maxRecDepth 100000 in
theorem kX1_begin (l : Launch) (D : va_G) (κ : Kp) (ad : Nat → Nat) (k0 : Nat) (hk0 : k0 < 4) (x1 : Int32) (x2 : Int32) (σ : Sg) {τ : Sg} (hf : fX1_begin k0 x1 x2 σ = some τ) : Cv l D κ (wsX κ ad) yX1_begin wsX1_begin 1 23 [.ref (ad (2 + k0)), .int x1, .int x2] σ τ := by
  refine Cv.of (cc := cX1_begin) (nL := 3) (ret := none) (by decide) rfl (Nat.le_of_ble_eq_true rfl) ?_
  intro p e s m below meth c A ls C h hl
  obtain ⟨hx, hb, hml, hr, hlk, hown, hts, hK, hA, hZ⟩ := id C
  have hl : lv_has ls 3 [(0, .ref (ad (2 + k0))), (1, .int x1), (2, .int x2)] := hl
  unfold fX1_begin at hf
  refine lv_aload_n hx hb dX1_begin_0 rfl (lv_at hl 0 rfl) ?_
  refine x_get (v := .ref (ad (6 + k0))) C h (gX_Sh κ ad σ hk0) rfl inX1_begin_X1 0 (by decide) (hts _ lkX1_begin_9) rfl dX1_begin_1 ?_
  refine lv_iconst (v := 0) hx hb dX1_begin_4 (by decide) ?_
  obtain ⟨τ2, hg1, hf⟩ := bd_ok hf
  refine x_sv (As := [.ref (ad (6 + k0)), .int 0]) (rest := []) C h (kJ7_fill_53178 l D κ ad k0 hk0 0 σ (τ := τ2) hg1) (fun hts => va_cwS 2 hts gX1_begin_J7_fill_53178 rfl rfl rfl (by decide +kernel) ⟨Nat.le_of_ble_eq_true rfl, Nat.le_of_ble_eq_true rfl⟩) rfl hl.1 (Nat.le_of_ble_eq_true rfl) rfl dX1_begin_5 (fun H locs h => ?_)
  refine lv_aload_n hx hb dX1_begin_8 rfl (lv_at hl 0 rfl) ?_
  refine lv_iload_n hx hb dX1_begin_9 rfl (lv_at hl 1 rfl) ?_
  refine x_put C h (gX_Sh κ ad τ2 hk0) rfl inX1_begin_X1 tyX1 tyX1_ok nmX1 1 (by decide) (hts _ lkX1_begin_15) rfl (tyX1_ok 1 (by decide)) (Nat.le_of_ble_eq_true rfl) (sX_Sh_1 κ ad τ2 x1 hk0) dX1_begin_10 (fun H locs h => ?_)
  refine lv_aload_n hx hb dX1_begin_13 rfl (lv_at hl 0 rfl) ?_
  refine lv_iload_n hx hb dX1_begin_14 rfl (lv_at hl 2 rfl) ?_
  refine x_put C h (gX_Sh κ ad (up2 τ2 (2 + k0) 1 x1) hk0) rfl inX1_begin_X1 tyX1 tyX1_ok nmX1 2 (by decide) (hts _ lkX1_begin_19) rfl (tyX1_ok 2 (by decide)) (Nat.le_of_ble_eq_true rfl) (sX_Sh_2 κ ad (up2 τ2 (2 + k0) 1 x1) x2 hk0) dX1_begin_15 (fun H locs h => ?_)
  obtain rfl := so_ok hf
  exact x_vret C h dX1_begin_18

-- ===== X1_covers: ButtonMatch$Sheet.covers(II)Z
theorem lkX1_covers_19 : Cond.fieldLink RX1 19 "ButtonMatch$Sheet" "length" "I" ∈ wsX1_covers := by decide +kernel
theorem inX1_covers_X1 : ∀ w ∈ wsX10, w ∈ wsX1_covers := fun _ h => List.mem_cons_of_mem _ (List.mem_append_right _ h)
def fX1_covers (k0 : Nat) (x1 : Int32) (x2 : Int32) (σ : Sg) : Int32 :=
  (if x1 < 0 then 0 else (if (σ (2 + k0) 2) < x1 then 0 else (if x2 < 0 then 0 else (if ((σ (2 + k0) 2) - x1) < x2 then 0 else 1))))
set_option maxHeartbeats 4000000 in
set_option maxRecDepth 100000 in
theorem kX1_covers (l : Launch) (D : va_G) (κ : Kp) (ad : Nat → Nat) (k0 : Nat) (hk0 : k0 < 4) (x1 : Int32) (x2 : Int32) (σ : Sg) {r : Int32} (hf : fX1_covers k0 x1 x2 σ = r) : Ci l D κ (wsX κ ad) yX1_covers wsX1_covers 0 0 [.ref (ad (2 + k0)), .int x1, .int x2] σ r σ := by
  refine Ci.of (cc := cX1_covers) (nL := 3) (ret := (some .boolean)) (by decide) rfl (Nat.le_of_ble_eq_true rfl) ?_
  intro p e s m below meth c A ls C h hl
  obtain ⟨hx, hb, hml, hr, hlk, hown, hts, hK, hA, hZ⟩ := id C
  have hl : lv_has ls 3 [(0, .ref (ad (2 + k0))), (1, .int x1), (2, .int x2)] := hl
  unfold fX1_covers at hf
  refine lv_iload_n hx hb dX1_covers_0 rfl (lv_at hl 1 rfl) ?_
  refine lv_if_lt (tgt := 30) hx hb dX1_covers_1 (by decide) (fun c1 => ?_) (fun c1 => ?_)
  · have hf := tk_t c1 hf
    refine lv_iconst (v := 0) hx hb dX1_covers_30 (by decide) ?_
    subst hf
    exact x_zret C rfl h dX1_covers_31
  · have hf := tk_f c1 hf
    refine lv_iload_n hx hb dX1_covers_4 rfl (lv_at hl 1 rfl) ?_
    refine lv_aload_n hx hb dX1_covers_5 rfl (lv_at hl 0 rfl) ?_
    refine x_get (v := .int (σ (2 + k0) 2)) C h (gX_Sh κ ad σ hk0) rfl inX1_covers_X1 2 (by decide) (hts _ lkX1_covers_19) rfl dX1_covers_6 ?_
    refine lv_icmp_gt (tgt := 30) hx hb dX1_covers_9 (by decide) (fun c2 => ?_) (fun c2 => ?_)
    · have hf := tk_t c2 hf
      refine lv_iconst (v := 0) hx hb dX1_covers_30 (by decide) ?_
      subst hf
      exact x_zret C rfl h dX1_covers_31
    · have hf := tk_f c2 hf
      refine lv_iload_n hx hb dX1_covers_12 rfl (lv_at hl 2 rfl) ?_
      refine lv_if_lt (tgt := 30) hx hb dX1_covers_13 (by decide) (fun c3 => ?_) (fun c3 => ?_)
      · have hf := tk_t c3 hf
        refine lv_iconst (v := 0) hx hb dX1_covers_30 (by decide) ?_
        subst hf
        exact x_zret C rfl h dX1_covers_31
      · have hf := tk_f c3 hf
        refine lv_iload_n hx hb dX1_covers_16 rfl (lv_at hl 2 rfl) ?_
        refine lv_aload_n hx hb dX1_covers_17 rfl (lv_at hl 0 rfl) ?_
        refine x_get (v := .int (σ (2 + k0) 2)) C h (gX_Sh κ ad σ hk0) rfl inX1_covers_X1 2 (by decide) (hts _ lkX1_covers_19) rfl dX1_covers_18 ?_
        refine lv_iload_n hx hb dX1_covers_21 rfl (lv_at hl 1 rfl) ?_
        refine lv_isub hx hb dX1_covers_22 ?_
        refine lv_icmp_gt (tgt := 30) hx hb dX1_covers_23 (by decide) (fun c4 => ?_) (fun c4 => ?_)
        · have hf := tk_t c4 hf
          refine lv_iconst (v := 0) hx hb dX1_covers_30 (by decide) ?_
          subst hf
          exact x_zret C rfl h dX1_covers_31
        · have hf := tk_f c4 hf
          refine lv_iconst (v := 1) hx hb dX1_covers_26 (by decide) ?_
          refine lv_goto (tgt := 31) hx hb dX1_covers_27 (by decide) ?_
          subst hf
          exact x_zret C rfl h dX1_covers_31
theorem nzX1_covers (k0 : Nat) (x1 : Int32) (x2 : Int32) (σ : Sg) : narrow .boolean (.int (fX1_covers k0 x1 x2 σ)) = .int (fX1_covers k0 x1 x2 σ) := by
  unfold fX1_covers
  repeat' split
  all_goals rfl

-- ===== X1_faultOfTaking: ButtonMatch$Sheet.faultOfTaking(III)I
theorem lkX1_faultOfTaking_15 : Cond.fieldLink RX1 15 "ButtonMatch$Sheet" "lane" "I" ∈ wsX1_faultOfTaking := by decide +kernel
theorem inX1_faultOfTaking_X1 : ∀ w ∈ wsX10, w ∈ wsX1_faultOfTaking := fun _ h => List.mem_cons_of_mem _ (List.mem_append_right _ h)
def fX1_faultOfTaking (k0 : Nat) (x1 : Int32) (x2 : Int32) (x3 : Int32) (σ : Sg) : Int32 :=
  (if (fX1_isNothing k0 σ) = 0 then (if (σ (2 + k0) 1) = x1 then (if 0 ≤ x3 then (if (fX1_covers k0 x2 x3 σ) = 0 then 3 else 0) else 4) else 2) else 1)
set_option maxHeartbeats 4000000 in
set_option maxRecDepth 100000 in
theorem kX1_faultOfTaking (l : Launch) (D : va_G) (κ : Kp) (ad : Nat → Nat) (k0 : Nat) (hk0 : k0 < 4) (x1 : Int32) (x2 : Int32) (x3 : Int32) (σ : Sg) {r : Int32} (hf : fX1_faultOfTaking k0 x1 x2 x3 σ = r) : Ci l D κ (wsX κ ad) yX1_faultOfTaking wsX1_faultOfTaking 1 22 [.ref (ad (2 + k0)), .int x1, .int x2, .int x3] σ r σ := by
  refine Ci.of (cc := cX1_faultOfTaking) (nL := 4) (ret := (some .int)) (by decide) rfl (Nat.le_of_ble_eq_true rfl) ?_
  intro p e s m below meth c A ls C h hl
  obtain ⟨hx, hb, hml, hr, hlk, hown, hts, hK, hA, hZ⟩ := id C
  have hl : lv_has ls 4 [(0, .ref (ad (2 + k0))), (1, .int x1), (2, .int x2), (3, .int x3)] := hl
  unfold fX1_faultOfTaking at hf
  refine lv_aload_n hx hb dX1_faultOfTaking_0 rfl (lv_at hl 0 rfl) ?_
  refine x_vi (As := []) (rest := []) C h (gX_Sh κ ad σ hk0) rfl (kX1_isNothing l D κ ad k0 hk0 σ (r := (fX1_isNothing k0 σ)) rfl) (fun hts => cwV 0 hts gX1_faultOfTaking_X1_isNothing rfl rfl rfl (by decide +kernel) ⟨Nat.le_of_ble_eq_true rfl, Nat.le_of_ble_eq_true rfl⟩) rfl hl.1 (Nat.le_of_ble_eq_true rfl) rfl dX1_faultOfTaking_1 (fun H locs h => ?_)
  refine lv_if_eq (tgt := 9) hx hb dX1_faultOfTaking_4 (by decide) (fun c1 => ?_) (fun c1 => ?_)
  · have hf := tk_t c1 hf
    refine lv_aload_n hx hb dX1_faultOfTaking_9 rfl (lv_at hl 0 rfl) ?_
    refine x_get (v := .int (σ (2 + k0) 1)) C h (gX_Sh κ ad σ hk0) rfl inX1_faultOfTaking_X1 1 (by decide) (hts _ lkX1_faultOfTaking_15) rfl dX1_faultOfTaking_10 ?_
    refine lv_iload_n hx hb dX1_faultOfTaking_13 rfl (lv_at hl 1 rfl) ?_
    refine lv_icmp_eq (tgt := 19) hx hb dX1_faultOfTaking_14 (by decide) (fun c2 => ?_) (fun c2 => ?_)
    · have hf := tk_t c2 hf
      refine lv_iload_n hx hb dX1_faultOfTaking_19 rfl (lv_at hl 3 rfl) ?_
      refine lv_if_ge (tgt := 25) hx hb dX1_faultOfTaking_20 (by decide) (fun c3 => ?_) (fun c3 => ?_)
      · have hf := tk_t c3 hf
        refine lv_aload_n hx hb dX1_faultOfTaking_25 rfl (lv_at hl 0 rfl) ?_
        refine lv_iload_n hx hb dX1_faultOfTaking_26 rfl (lv_at hl 2 rfl) ?_
        refine lv_iload_n hx hb dX1_faultOfTaking_27 rfl (lv_at hl 3 rfl) ?_
        refine x_vi (As := [.int x2, .int x3]) (rest := []) C h (gX_Sh κ ad σ hk0) rfl (kX1_covers l D κ ad k0 hk0 x2 x3 σ (r := (fX1_covers k0 x2 x3 σ)) rfl) (fun hts => cwV 2 hts gX1_faultOfTaking_X1_covers rfl rfl rfl (by decide +kernel) ⟨Nat.le_of_ble_eq_true rfl, Nat.le_of_ble_eq_true rfl⟩) rfl hl.1 (Nat.le_of_ble_eq_true rfl) rfl dX1_faultOfTaking_28 (fun H locs h => ?_)
        refine lv_if_eq (tgt := 38) hx hb dX1_faultOfTaking_31 (by decide) (fun c4 => ?_) (fun c4 => ?_)
        · have hf := tk_t c4 hf
          refine lv_iconst (v := 3) hx hb dX1_faultOfTaking_38 (by decide) ?_
          subst hf
          exact x_iret C h dX1_faultOfTaking_39
        · have hf := tk_f c4 hf
          refine lv_iconst (v := 0) hx hb dX1_faultOfTaking_34 (by decide) ?_
          refine lv_goto (tgt := 39) hx hb dX1_faultOfTaking_35 (by decide) ?_
          subst hf
          exact x_iret C h dX1_faultOfTaking_39
      · have hf := tk_f c3 hf
        refine lv_iconst (v := 4) hx hb dX1_faultOfTaking_23 (by decide) ?_
        subst hf
        exact x_iret C h dX1_faultOfTaking_24
    · have hf := tk_f c2 hf
      refine lv_iconst (v := 2) hx hb dX1_faultOfTaking_17 (by decide) ?_
      subst hf
      exact x_iret C h dX1_faultOfTaking_18
  · have hf := tk_f c1 hf
    refine lv_iconst (v := 1) hx hb dX1_faultOfTaking_7 (by decide) ?_
    subst hf
    exact x_iret C h dX1_faultOfTaking_8

-- ===== X1_read: ButtonMatch$Sheet.read(I)I
theorem lkX1_read_9 : Cond.fieldLink RX1 9 "ButtonMatch$Sheet" "cells" "[I" ∈ wsX1_read := by decide +kernel
theorem inX1_read_X1 : ∀ w ∈ wsX10, w ∈ wsX1_read := fun _ h => List.mem_cons_of_mem _ (List.mem_append_right _ h)
def fX1_read (k0 : Nat) (x1 : Int32) (σ : Sg) : Option (Int32) :=
  (if (fX1_covers k0 x1 1 σ) = 0 then some 0 else (if gIn x1 60 then some (σ (6 + k0) x1.toNatClampNeg) else none))
set_option maxHeartbeats 4000000 in
set_option maxRecDepth 100000 in
theorem kX1_read (l : Launch) (D : va_G) (κ : Kp) (ad : Nat → Nat) (k0 : Nat) (hk0 : k0 < 4) (x1 : Int32) (σ : Sg) {r : Int32} (hf : fX1_read k0 x1 σ = some r) : Ci l D κ (wsX κ ad) yX1_read wsX1_read 1 22 [.ref (ad (2 + k0)), .int x1] σ r σ := by
  refine Ci.of (cc := cX1_read) (nL := 2) (ret := (some .int)) (by decide) rfl (Nat.le_of_ble_eq_true rfl) ?_
  intro p e s m below meth c A ls C h hl
  obtain ⟨hx, hb, hml, hr, hlk, hown, hts, hK, hA, hZ⟩ := id C
  have hl : lv_has ls 2 [(0, .ref (ad (2 + k0))), (1, .int x1)] := hl
  unfold fX1_read at hf
  refine lv_aload_n hx hb dX1_read_0 rfl (lv_at hl 0 rfl) ?_
  refine lv_iload_n hx hb dX1_read_1 rfl (lv_at hl 1 rfl) ?_
  refine lv_iconst (v := 1) hx hb dX1_read_2 (by decide) ?_
  refine x_vi (As := [.int x1, .int 1]) (rest := []) C h (gX_Sh κ ad σ hk0) rfl (kX1_covers l D κ ad k0 hk0 x1 1 σ (r := (fX1_covers k0 x1 1 σ)) rfl) (fun hts => cwV 2 hts gX1_read_X1_covers rfl rfl rfl (by decide +kernel) ⟨Nat.le_of_ble_eq_true rfl, Nat.le_of_ble_eq_true rfl⟩) rfl hl.1 (Nat.le_of_ble_eq_true rfl) rfl dX1_read_3 (fun H locs h => ?_)
  refine lv_if_eq (tgt := 18) hx hb dX1_read_6 (by decide) (fun c1 => ?_) (fun c1 => ?_)
  · have hf := tk_t c1 hf
    refine lv_iconst (v := 0) hx hb dX1_read_18 (by decide) ?_
    obtain rfl := so_ok hf
    exact x_iret C h dX1_read_19
  · have hf := tk_f c1 hf
    refine lv_aload_n hx hb dX1_read_9 rfl (lv_at hl 0 rfl) ?_
    refine x_get (v := .ref (ad (6 + k0))) C h (gX_Sh κ ad σ hk0) rfl inX1_read_X1 0 (by decide) (hts _ lkX1_read_9) rfl dX1_read_10 ?_
    refine lv_iload_n hx hb dX1_read_13 rfl (lv_at hl 1 rfl) ?_
    obtain ⟨g2, hf⟩ := gd_ok hf
    refine x_iald (v := (σ (6 + k0) x1.toNatClampNeg)) C h (gX_cl κ ad σ hk0) g2 rfl dX1_read_14 ?_
    refine lv_goto (tgt := 19) hx hb dX1_read_15 (by decide) ?_
    obtain rfl := so_ok hf
    exact x_iret C h dX1_read_19

-- ===== X1_write: ButtonMatch$Sheet.write(II)V
theorem lkX1_write_9 : Cond.fieldLink RX1 9 "ButtonMatch$Sheet" "cells" "[I" ∈ wsX1_write := by decide +kernel
theorem inX1_write_X1 : ∀ w ∈ wsX10, w ∈ wsX1_write := fun _ h => List.mem_cons_of_mem _ (List.mem_append_right _ h)
theorem lkX1_write_15 : Cond.fieldLink RX1 15 "ButtonMatch$Sheet" "lane" "I" ∈ wsX1_write := by decide +kernel
def fX1_write (k0 : Nat) (x1 : Int32) (x2 : Int32) (σ : Sg) : Option (Sg) :=
  (if (fX1_covers k0 x1 1 σ) = 0 then some σ else (if (σ (2 + k0) 1) = 0 then (if gIn x1 60 then some (up2 σ (6 + k0) x1.toNatClampNeg x2.toInt8.toInt32) else none) else (if (σ (2 + k0) 1) = 1 then (if gIn x1 60 then some (up2 σ (6 + k0) x1.toNatClampNeg x2.toInt16.toInt32) else none) else (if gIn x1 60 then some (up2 σ (6 + k0) x1.toNatClampNeg x2) else none))))
set_option maxHeartbeats 4000000 in
set_option maxRecDepth 100000 in
theorem kX1_write (l : Launch) (D : va_G) (κ : Kp) (ad : Nat → Nat) (k0 : Nat) (hk0 : k0 < 4) (x1 : Int32) (x2 : Int32) (σ : Sg) {τ : Sg} (hf : fX1_write k0 x1 x2 σ = some τ) : Cv l D κ (wsX κ ad) yX1_write wsX1_write 1 22 [.ref (ad (2 + k0)), .int x1, .int x2] σ τ := by
  refine Cv.of (cc := cX1_write) (nL := 3) (ret := none) (by decide) rfl (Nat.le_of_ble_eq_true rfl) ?_
  intro p e s m below meth c A ls C h hl
  obtain ⟨hx, hb, hml, hr, hlk, hown, hts, hK, hA, hZ⟩ := id C
  have hl : lv_has ls 3 [(0, .ref (ad (2 + k0))), (1, .int x1), (2, .int x2)] := hl
  unfold fX1_write at hf
  refine lv_aload_n hx hb dX1_write_0 rfl (lv_at hl 0 rfl) ?_
  refine lv_iload_n hx hb dX1_write_1 rfl (lv_at hl 1 rfl) ?_
  refine lv_iconst (v := 1) hx hb dX1_write_2 (by decide) ?_
  refine x_vi (As := [.int x1, .int 1]) (rest := []) C h (gX_Sh κ ad σ hk0) rfl (kX1_covers l D κ ad k0 hk0 x1 1 σ (r := (fX1_covers k0 x1 1 σ)) rfl) (fun hts => cwV 2 hts gX1_write_X1_covers rfl rfl rfl (by decide +kernel) ⟨Nat.le_of_ble_eq_true rfl, Nat.le_of_ble_eq_true rfl⟩) rfl hl.1 (Nat.le_of_ble_eq_true rfl) rfl dX1_write_3 (fun H locs h => ?_)
  refine lv_if_eq (tgt := 41) hx hb dX1_write_6 (by decide) (fun c1 => ?_) (fun c1 => ?_)
  · have hf := tk_t c1 hf
    obtain rfl := so_ok hf
    exact x_vret C h dX1_write_41
  · have hf := tk_f c1 hf
    refine lv_aload_n hx hb dX1_write_9 rfl (lv_at hl 0 rfl) ?_
    refine x_get (v := .ref (ad (6 + k0))) C h (gX_Sh κ ad σ hk0) rfl inX1_write_X1 0 (by decide) (hts _ lkX1_write_9) rfl dX1_write_10 ?_
    refine lv_iload_n hx hb dX1_write_13 rfl (lv_at hl 1 rfl) ?_
    refine lv_aload_n hx hb dX1_write_14 rfl (lv_at hl 0 rfl) ?_
    refine x_get (v := .int (σ (2 + k0) 1)) C h (gX_Sh κ ad σ hk0) rfl inX1_write_X1 1 (by decide) (hts _ lkX1_write_15) rfl dX1_write_15 ?_
    refine lv_if_ne (tgt := 26) hx hb dX1_write_18 (by decide) (fun c2 => ?_) (fun c2 => ?_)
    · have hf := tk_f c2 hf
      refine lv_aload_n hx hb dX1_write_26 rfl (lv_at hl 0 rfl) ?_
      refine x_get (v := .int (σ (2 + k0) 1)) C h (gX_Sh κ ad σ hk0) rfl inX1_write_X1 1 (by decide) (hts _ lkX1_write_15) rfl dX1_write_27 ?_
      refine lv_iconst (v := 1) hx hb dX1_write_30 (by decide) ?_
      refine lv_icmp_ne (tgt := 39) hx hb dX1_write_31 (by decide) (fun c3 => ?_) (fun c3 => ?_)
      · have hf := tk_f c3 hf
        refine lv_iload_n hx hb dX1_write_39 rfl (lv_at hl 2 rfl) ?_
        obtain ⟨g4, hf⟩ := gd_ok hf
        refine x_iast C h (gX_cl κ ad σ hk0) (sX_cl κ ad σ x1.toNatClampNeg x2 hk0) g4 dX1_write_40 (fun H locs h => ?_)
        obtain rfl := so_ok hf
        exact x_vret C h dX1_write_41
      · have hf := tk_t c3 hf
        refine lv_iload_n hx hb dX1_write_34 rfl (lv_at hl 2 rfl) ?_
        refine lv_i2s (v := x2.toInt16.toInt32) hx hb dX1_write_35 rfl ?_
        refine lv_goto (tgt := 40) hx hb dX1_write_36 (by decide) ?_
        obtain ⟨g5, hf⟩ := gd_ok hf
        refine x_iast C h (gX_cl κ ad σ hk0) (sX_cl κ ad σ x1.toNatClampNeg x2.toInt16.toInt32 hk0) g5 dX1_write_40 (fun H locs h => ?_)
        obtain rfl := so_ok hf
        exact x_vret C h dX1_write_41
    · have hf := tk_t c2 hf
      refine lv_iload_n hx hb dX1_write_21 rfl (lv_at hl 2 rfl) ?_
      refine lv_i2b (v := x2.toInt8.toInt32) hx hb dX1_write_22 rfl ?_
      refine lv_goto (tgt := 40) hx hb dX1_write_23 (by decide) ?_
      obtain ⟨g6, hf⟩ := gd_ok hf
      refine x_iast C h (gX_cl κ ad σ hk0) (sX_cl κ ad σ x1.toNatClampNeg x2.toInt8.toInt32 hk0) g6 dX1_write_40 (fun H locs h => ?_)
      obtain rfl := so_ok hf
      exact x_vret C h dX1_write_41
