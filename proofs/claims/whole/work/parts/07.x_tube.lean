-- ===== X5_fillFrom: ButtonMatch$Tube.fillFrom(LButtonMatch$Sheet;I)V
theorem lkX5_fillFrom_15 : Cond.fieldLink RX5 15 "ButtonMatch$Tube" "kind" "I" ∈ wsX5_fillFrom := by decide +kernel
theorem inX5_fillFrom_X5 : ∀ w ∈ wsX50, w ∈ wsX5_fillFrom := fun _ h => List.mem_cons_of_mem _ (List.mem_append_left _ (List.mem_append_right _ h))
theorem lkX5_fillFrom_21 : Cond.fieldLink RX5 21 "ButtonMatch$Tube" "colour" "I" ∈ wsX5_fillFrom := by decide +kernel
theorem lkX5_fillFrom_24 : Cond.fieldLink RX5 24 "ButtonMatch$Tube" "size" "I" ∈ wsX5_fillFrom := by decide +kernel
theorem lkX5_fillFrom_27 : Cond.fieldLink RX5 27 "ButtonMatch$Tube" "holes" "I" ∈ wsX5_fillFrom := by decide +kernel
theorem lkX5_fillFrom_30 : Cond.fieldLink RX5 30 "ButtonMatch$Tube" "count" "I" ∈ wsX5_fillFrom := by decide +kernel
theorem lkX5_fillFrom_33 : Cond.fieldLink RX5 33 "ButtonMatch$Tube" "pence" "I" ∈ wsX5_fillFrom := by decide +kernel
def fX5_fillFrom_30 (k0 : Nat) (k1 : Nat) (x2 : Int32) (z0 : Int32) (q1 : Nat) (σ : Sg) : Option (Sg) :=
  ((fX1_read k1 (x2 + 2) (up2 σ (13 + q1) 0 z0)).bind fun r2 => ((fX1_read k1 (x2 + 3) (up2 (up2 σ (13 + q1) 0 z0) (13 + k0) 1 (r2 - 48))).bind fun r4 => ((fX1_read k1 (x2 + 4) (up2 (up2 (up2 σ (13 + q1) 0 z0) (13 + k0) 1 (r2 - 48)) (13 + k0) 2 (r4 - 48))).bind fun r6 => ((fX1_read k1 (x2 + 5) (up2 (up2 (up2 (up2 σ (13 + q1) 0 z0) (13 + k0) 1 (r2 - 48)) (13 + k0) 2 (r4 - 48)) (13 + k0) 3 (r6 - 48))).bind fun r8 => ((fX1_read k1 (x2 + 6) (up2 (up2 (up2 (up2 (up2 σ (13 + q1) 0 z0) (13 + k0) 1 (r2 - 48)) (13 + k0) 2 (r4 - 48)) (13 + k0) 3 (r6 - 48)) (13 + k0) 4 (r8 - 48))).bind fun r10 => some (up2 (up2 (up2 (up2 (up2 (up2 σ (13 + q1) 0 z0) (13 + k0) 1 (r2 - 48)) (13 + k0) 2 (r4 - 48)) (13 + k0) 3 (r6 - 48)) (13 + k0) 4 (r8 - 48)) (13 + k0) 5 (r10 - 48)))))))
set_option maxHeartbeats 4000000 in
set_option maxRecDepth 100000 in
theorem jX5_fillFrom_30 {p : Program} {l : Launch} {e : Env} {s : State} {m : MethodId} {args : Array Value} {below : List Frame} {meth : Method} {c : Code} {D : va_G} {κ : Kp} {ad : Nat → Nat} {A : Nat → Prop} {τ : Sg} (C : Mc p s m args meth c cX5_fillFrom 4 none wsX5_fillFrom RX5 D κ A) (k0 : Nat) (hk0 : k0 < 6) (k1 : Nat) (hk1 : k1 < 4) (x2 : Int32) (z0 : Int32) (q1 : Nat) (hq1 : q1 < 6) (σ : Sg) (H : Heap) (locs : List Loc) (ls : Array Slot) (h : Wd D (wsX κ ad) A s.heap H locs σ) (hl : lv_has ls 4 [(0, .ref (ad (13 + k0))), (1, .ref (ad (2 + k1))), (2, .int x2)]) (hf : fX5_fillFrom_30  k0 k1 x2 z0 q1 σ = some τ) : W p l e { frames := 2, cells := 0, slots := 0, locals := 43 } s m args below meth c H locs 0 0 (Qv below args s D (wsX κ ad) A τ) (F0 m 30 ls [.int z0, .ref (ad (13 + q1))]) := by
  obtain ⟨hx, hb, hml, hr, hlk, hown, hts, hK, hA, hZ⟩ := id C
  unfold fX5_fillFrom_30 at hf
  refine x_put C h (gX_Tu κ ad σ hq1) rfl inX5_fillFrom_X5 tyX5 tyX5_ok nmX5 0 (by decide) (hts _ lkX5_fillFrom_15) rfl (tyX5_ok 0 (by decide)) (Nat.le_of_ble_eq_true rfl) (sX_Tu_0 κ ad σ z0 hq1) dX5_fillFrom_30 (fun H locs h => ?_)
  refine lv_aload_n hx hb dX5_fillFrom_33 rfl (lv_at hl 0 rfl) ?_
  refine lv_aload_n hx hb dX5_fillFrom_34 rfl (lv_at hl 1 rfl) ?_
  refine lv_iload_n hx hb dX5_fillFrom_35 rfl (lv_at hl 2 rfl) ?_
  refine lv_iconst (v := 2) hx hb dX5_fillFrom_36 (by decide) ?_
  refine lv_iadd hx hb dX5_fillFrom_37 ?_
  obtain ⟨r2, hg1, hf⟩ := bd_ok hf
  refine x_vi (As := [.int (x2 + 2)]) (rest := [.ref (ad (13 + k0))]) C h (gX_Sh κ ad (up2 σ (13 + q1) 0 z0) hk1) rfl (kX1_read l D κ ad k1 hk1 (x2 + 2) (up2 σ (13 + q1) 0 z0) (r := r2) hg1) (fun hts => cwV 1 hts gX5_fillFrom_X1_read rfl rfl rfl (by decide +kernel) ⟨Nat.le_of_ble_eq_true rfl, Nat.le_of_ble_eq_true rfl⟩) rfl hl.1 (Nat.le_of_ble_eq_true rfl) rfl dX5_fillFrom_38 (fun H locs h => ?_)
  refine lv_bipush (v := 48) hx hb dX5_fillFrom_41 (by decide) ?_
  refine lv_isub hx hb dX5_fillFrom_43 ?_
  refine x_put C h (gX_Tu κ ad (up2 σ (13 + q1) 0 z0) hk0) rfl inX5_fillFrom_X5 tyX5 tyX5_ok nmX5 1 (by decide) (hts _ lkX5_fillFrom_21) rfl (tyX5_ok 1 (by decide)) (Nat.le_of_ble_eq_true rfl) (sX_Tu_1 κ ad (up2 σ (13 + q1) 0 z0) (r2 - 48) hk0) dX5_fillFrom_44 (fun H locs h => ?_)
  refine lv_aload_n hx hb dX5_fillFrom_47 rfl (lv_at hl 0 rfl) ?_
  refine lv_aload_n hx hb dX5_fillFrom_48 rfl (lv_at hl 1 rfl) ?_
  refine lv_iload_n hx hb dX5_fillFrom_49 rfl (lv_at hl 2 rfl) ?_
  refine lv_iconst (v := 3) hx hb dX5_fillFrom_50 (by decide) ?_
  refine lv_iadd hx hb dX5_fillFrom_51 ?_
  obtain ⟨r4, hg3, hf⟩ := bd_ok hf
  refine x_vi (As := [.int (x2 + 3)]) (rest := [.ref (ad (13 + k0))]) C h (gX_Sh κ ad (up2 (up2 σ (13 + q1) 0 z0) (13 + k0) 1 (r2 - 48)) hk1) rfl (kX1_read l D κ ad k1 hk1 (x2 + 3) (up2 (up2 σ (13 + q1) 0 z0) (13 + k0) 1 (r2 - 48)) (r := r4) hg3) (fun hts => cwV 1 hts gX5_fillFrom_X1_read rfl rfl rfl (by decide +kernel) ⟨Nat.le_of_ble_eq_true rfl, Nat.le_of_ble_eq_true rfl⟩) rfl hl.1 (Nat.le_of_ble_eq_true rfl) rfl dX5_fillFrom_52 (fun H locs h => ?_)
  refine lv_bipush (v := 48) hx hb dX5_fillFrom_55 (by decide) ?_
  refine lv_isub hx hb dX5_fillFrom_57 ?_
  refine x_put C h (gX_Tu κ ad (up2 (up2 σ (13 + q1) 0 z0) (13 + k0) 1 (r2 - 48)) hk0) rfl inX5_fillFrom_X5 tyX5 tyX5_ok nmX5 2 (by decide) (hts _ lkX5_fillFrom_24) rfl (tyX5_ok 2 (by decide)) (Nat.le_of_ble_eq_true rfl) (sX_Tu_2 κ ad (up2 (up2 σ (13 + q1) 0 z0) (13 + k0) 1 (r2 - 48)) (r4 - 48) hk0) dX5_fillFrom_58 (fun H locs h => ?_)
  refine lv_aload_n hx hb dX5_fillFrom_61 rfl (lv_at hl 0 rfl) ?_
  refine lv_aload_n hx hb dX5_fillFrom_62 rfl (lv_at hl 1 rfl) ?_
  refine lv_iload_n hx hb dX5_fillFrom_63 rfl (lv_at hl 2 rfl) ?_
  refine lv_iconst (v := 4) hx hb dX5_fillFrom_64 (by decide) ?_
  refine lv_iadd hx hb dX5_fillFrom_65 ?_
  obtain ⟨r6, hg5, hf⟩ := bd_ok hf
  refine x_vi (As := [.int (x2 + 4)]) (rest := [.ref (ad (13 + k0))]) C h (gX_Sh κ ad (up2 (up2 (up2 σ (13 + q1) 0 z0) (13 + k0) 1 (r2 - 48)) (13 + k0) 2 (r4 - 48)) hk1) rfl (kX1_read l D κ ad k1 hk1 (x2 + 4) (up2 (up2 (up2 σ (13 + q1) 0 z0) (13 + k0) 1 (r2 - 48)) (13 + k0) 2 (r4 - 48)) (r := r6) hg5) (fun hts => cwV 1 hts gX5_fillFrom_X1_read rfl rfl rfl (by decide +kernel) ⟨Nat.le_of_ble_eq_true rfl, Nat.le_of_ble_eq_true rfl⟩) rfl hl.1 (Nat.le_of_ble_eq_true rfl) rfl dX5_fillFrom_66 (fun H locs h => ?_)
  refine lv_bipush (v := 48) hx hb dX5_fillFrom_69 (by decide) ?_
  refine lv_isub hx hb dX5_fillFrom_71 ?_
  refine x_put C h (gX_Tu κ ad (up2 (up2 (up2 σ (13 + q1) 0 z0) (13 + k0) 1 (r2 - 48)) (13 + k0) 2 (r4 - 48)) hk0) rfl inX5_fillFrom_X5 tyX5 tyX5_ok nmX5 3 (by decide) (hts _ lkX5_fillFrom_27) rfl (tyX5_ok 3 (by decide)) (Nat.le_of_ble_eq_true rfl) (sX_Tu_3 κ ad (up2 (up2 (up2 σ (13 + q1) 0 z0) (13 + k0) 1 (r2 - 48)) (13 + k0) 2 (r4 - 48)) (r6 - 48) hk0) dX5_fillFrom_72 (fun H locs h => ?_)
  refine lv_aload_n hx hb dX5_fillFrom_75 rfl (lv_at hl 0 rfl) ?_
  refine lv_aload_n hx hb dX5_fillFrom_76 rfl (lv_at hl 1 rfl) ?_
  refine lv_iload_n hx hb dX5_fillFrom_77 rfl (lv_at hl 2 rfl) ?_
  refine lv_iconst (v := 5) hx hb dX5_fillFrom_78 (by decide) ?_
  refine lv_iadd hx hb dX5_fillFrom_79 ?_
  obtain ⟨r8, hg7, hf⟩ := bd_ok hf
  refine x_vi (As := [.int (x2 + 5)]) (rest := [.ref (ad (13 + k0))]) C h (gX_Sh κ ad (up2 (up2 (up2 (up2 σ (13 + q1) 0 z0) (13 + k0) 1 (r2 - 48)) (13 + k0) 2 (r4 - 48)) (13 + k0) 3 (r6 - 48)) hk1) rfl (kX1_read l D κ ad k1 hk1 (x2 + 5) (up2 (up2 (up2 (up2 σ (13 + q1) 0 z0) (13 + k0) 1 (r2 - 48)) (13 + k0) 2 (r4 - 48)) (13 + k0) 3 (r6 - 48)) (r := r8) hg7) (fun hts => cwV 1 hts gX5_fillFrom_X1_read rfl rfl rfl (by decide +kernel) ⟨Nat.le_of_ble_eq_true rfl, Nat.le_of_ble_eq_true rfl⟩) rfl hl.1 (Nat.le_of_ble_eq_true rfl) rfl dX5_fillFrom_80 (fun H locs h => ?_)
  refine lv_bipush (v := 48) hx hb dX5_fillFrom_83 (by decide) ?_
  refine lv_isub hx hb dX5_fillFrom_85 ?_
  refine x_put C h (gX_Tu κ ad (up2 (up2 (up2 (up2 σ (13 + q1) 0 z0) (13 + k0) 1 (r2 - 48)) (13 + k0) 2 (r4 - 48)) (13 + k0) 3 (r6 - 48)) hk0) rfl inX5_fillFrom_X5 tyX5 tyX5_ok nmX5 4 (by decide) (hts _ lkX5_fillFrom_30) rfl (tyX5_ok 4 (by decide)) (Nat.le_of_ble_eq_true rfl) (sX_Tu_4 κ ad (up2 (up2 (up2 (up2 σ (13 + q1) 0 z0) (13 + k0) 1 (r2 - 48)) (13 + k0) 2 (r4 - 48)) (13 + k0) 3 (r6 - 48)) (r8 - 48) hk0) dX5_fillFrom_86 (fun H locs h => ?_)
  refine lv_aload_n hx hb dX5_fillFrom_89 rfl (lv_at hl 0 rfl) ?_
  refine lv_aload_n hx hb dX5_fillFrom_90 rfl (lv_at hl 1 rfl) ?_
  refine lv_iload_n hx hb dX5_fillFrom_91 rfl (lv_at hl 2 rfl) ?_
  refine lv_bipush (v := 6) hx hb dX5_fillFrom_92 (by decide) ?_
  refine lv_iadd hx hb dX5_fillFrom_94 ?_
  obtain ⟨r10, hg9, hf⟩ := bd_ok hf
  refine x_vi (As := [.int (x2 + 6)]) (rest := [.ref (ad (13 + k0))]) C h (gX_Sh κ ad (up2 (up2 (up2 (up2 (up2 σ (13 + q1) 0 z0) (13 + k0) 1 (r2 - 48)) (13 + k0) 2 (r4 - 48)) (13 + k0) 3 (r6 - 48)) (13 + k0) 4 (r8 - 48)) hk1) rfl (kX1_read l D κ ad k1 hk1 (x2 + 6) (up2 (up2 (up2 (up2 (up2 σ (13 + q1) 0 z0) (13 + k0) 1 (r2 - 48)) (13 + k0) 2 (r4 - 48)) (13 + k0) 3 (r6 - 48)) (13 + k0) 4 (r8 - 48)) (r := r10) hg9) (fun hts => cwV 1 hts gX5_fillFrom_X1_read rfl rfl rfl (by decide +kernel) ⟨Nat.le_of_ble_eq_true rfl, Nat.le_of_ble_eq_true rfl⟩) rfl hl.1 (Nat.le_of_ble_eq_true rfl) rfl dX5_fillFrom_95 (fun H locs h => ?_)
  refine lv_bipush (v := 48) hx hb dX5_fillFrom_98 (by decide) ?_
  refine lv_isub hx hb dX5_fillFrom_100 ?_
  refine x_put C h (gX_Tu κ ad (up2 (up2 (up2 (up2 (up2 σ (13 + q1) 0 z0) (13 + k0) 1 (r2 - 48)) (13 + k0) 2 (r4 - 48)) (13 + k0) 3 (r6 - 48)) (13 + k0) 4 (r8 - 48)) hk0) rfl inX5_fillFrom_X5 tyX5 tyX5_ok nmX5 5 (by decide) (hts _ lkX5_fillFrom_33) rfl (tyX5_ok 5 (by decide)) (Nat.le_of_ble_eq_true rfl) (sX_Tu_5 κ ad (up2 (up2 (up2 (up2 (up2 σ (13 + q1) 0 z0) (13 + k0) 1 (r2 - 48)) (13 + k0) 2 (r4 - 48)) (13 + k0) 3 (r6 - 48)) (13 + k0) 4 (r8 - 48)) (r10 - 48) hk0) dX5_fillFrom_101 (fun H locs h => ?_)
  obtain rfl := so_ok hf
  exact x_vret C h dX5_fillFrom_104
def fX5_fillFrom (k0 : Nat) (k1 : Nat) (x2 : Int32) (σ : Sg) : Option (Sg) :=
  ((fX1_read k1 (x2 + 1) σ).bind fun r12 => (if r12 = 111 then fX5_fillFrom_30 k0 k1 x2 2 k0 σ else (if r12 = 115 then fX5_fillFrom_30 k0 k1 x2 1 k0 σ else fX5_fillFrom_30 k0 k1 x2 0 k0 σ)))
set_option maxHeartbeats 4000000 in
set_option maxRecDepth 100000 in
theorem kX5_fillFrom (l : Launch) (D : va_G) (κ : Kp) (ad : Nat → Nat) (k0 : Nat) (hk0 : k0 < 6) (k1 : Nat) (hk1 : k1 < 4) (x2 : Int32) (σ : Sg) {τ : Sg} (hf : fX5_fillFrom k0 k1 x2 σ = some τ) : Cv l D κ (wsX κ ad) yX5_fillFrom wsX5_fillFrom 2 43 [.ref (ad (13 + k0)), .ref (ad (2 + k1)), .int x2] σ τ := by
  refine Cv.of (cc := cX5_fillFrom) (nL := 4) (ret := none) (by decide) rfl (Nat.le_of_ble_eq_true rfl) ?_
  intro p e s m below meth c A ls C h hl
  obtain ⟨hx, hb, hml, hr, hlk, hown, hts, hK, hA, hZ⟩ := id C
  have hl : lv_has ls 4 [(0, .ref (ad (13 + k0))), (1, .ref (ad (2 + k1))), (2, .int x2)] := hl
  unfold fX5_fillFrom at hf
  refine lv_aload_n hx hb dX5_fillFrom_0 rfl (lv_at hl 1 rfl) ?_
  refine lv_iload_n hx hb dX5_fillFrom_1 rfl (lv_at hl 2 rfl) ?_
  refine lv_iconst (v := 1) hx hb dX5_fillFrom_2 (by decide) ?_
  refine lv_iadd hx hb dX5_fillFrom_3 ?_
  obtain ⟨r12, hg11, hf⟩ := bd_ok hf
  refine x_vi (As := [.int (x2 + 1)]) (rest := []) C h (gX_Sh κ ad σ hk1) rfl (kX1_read l D κ ad k1 hk1 (x2 + 1) σ (r := r12) hg11) (fun hts => cwV 1 hts gX5_fillFrom_X1_read rfl rfl rfl (by decide +kernel) ⟨Nat.le_of_ble_eq_true rfl, Nat.le_of_ble_eq_true rfl⟩) rfl hl.1 (Nat.le_of_ble_eq_true rfl) rfl dX5_fillFrom_4 (fun H locs h => ?_)
  refine lv_istore_n (lv' := [(3, .int r12), (0, .ref (ad (13 + k0))), (1, .ref (ad (2 + k1))), (2, .int x2)]) hx hb dX5_fillFrom_7 rfl hl (by decide) rfl (fun ls hl => ?_)
  refine lv_aload_n hx hb dX5_fillFrom_8 rfl (lv_at hl 1 rfl) ?_
  refine lv_iload_n hx hb dX5_fillFrom_9 rfl (lv_at hl 0 rfl) ?_
  refine lv_bipush (v := 111) hx hb dX5_fillFrom_10 (by decide) ?_
  refine lv_icmp_ne (tgt := 19) hx hb dX5_fillFrom_12 (by decide) (fun c13 => ?_) (fun c13 => ?_)
  · have hf := tk_f c13 hf
    refine lv_iload_n hx hb dX5_fillFrom_19 rfl (lv_at hl 0 rfl) ?_
    refine lv_bipush (v := 115) hx hb dX5_fillFrom_20 (by decide) ?_
    refine lv_icmp_ne (tgt := 29) hx hb dX5_fillFrom_22 (by decide) (fun c14 => ?_) (fun c14 => ?_)
    · have hf := tk_f c14 hf
      refine lv_iconst (v := 0) hx hb dX5_fillFrom_29 (by decide) ?_
      exact jX5_fillFrom_30 C k0 hk0 k1 hk1 x2 0 k0 hk0 σ _ _ _ h (lv_sub hl [1, 2, 3] rfl) hf
    · have hf := tk_t c14 hf
      refine lv_iconst (v := 1) hx hb dX5_fillFrom_25 (by decide) ?_
      refine lv_goto (tgt := 30) hx hb dX5_fillFrom_26 (by decide) ?_
      exact jX5_fillFrom_30 C k0 hk0 k1 hk1 x2 1 k0 hk0 σ _ _ _ h (lv_sub hl [1, 2, 3] rfl) hf
  · have hf := tk_t c13 hf
    refine lv_iconst (v := 2) hx hb dX5_fillFrom_15 (by decide) ?_
    refine lv_goto (tgt := 30) hx hb dX5_fillFrom_16 (by decide) ?_
    exact jX5_fillFrom_30 C k0 hk0 k1 hk1 x2 2 k0 hk0 σ _ _ _ h (lv_sub hl [1, 2, 3] rfl) hf

-- ===== X5_looksColour: ButtonMatch$Tube.looksColour()I
theorem lkX5_looksColour_15 : Cond.fieldLink RX5 15 "ButtonMatch$Tube" "kind" "I" ∈ wsX5_looksColour := by decide +kernel
theorem inX5_looksColour_X5 : ∀ w ∈ wsX50, w ∈ wsX5_looksColour := fun _ h => List.mem_cons_of_mem _ (List.mem_append_right _ h)
theorem lkX5_looksColour_21 : Cond.fieldLink RX5 21 "ButtonMatch$Tube" "colour" "I" ∈ wsX5_looksColour := by decide +kernel
theorem mwX5_looksColour_36 : Cond.methodLink RX5 36 Lib.Math.min.name ∈ wsX5_looksColour ∧ Cond.static Lib.Math.min.name ∈ wsX5_looksColour ∧ Cond.initialized "java/lang/Math" ∈ wsX5_looksColour ∧ Cond.code Lib.Math.min.name Lib.Math.min.code 2 (some .int) ∈ wsX5_looksColour := ⟨by decide +kernel, by decide +kernel, by decide +kernel, by decide +kernel⟩
def fX5_looksColour (k0 : Nat) (σ : Sg) : Int32 :=
  (if (σ (13 + k0) 0) = 1 then (if ((σ (13 + k0) 1) + 1) < 7 then ((σ (13 + k0) 1) + 1) else 7) else (σ (13 + k0) 1))
set_option maxHeartbeats 4000000 in
set_option maxRecDepth 100000 in
theorem kX5_looksColour (l : Launch) (D : va_G) (κ : Kp) (ad : Nat → Nat) (k0 : Nat) (hk0 : k0 < 6) (σ : Sg) {r : Int32} (hf : fX5_looksColour k0 σ = r) : Ci l D κ (wsX κ ad) yX5_looksColour wsX5_looksColour 1 23 [.ref (ad (13 + k0))] σ r σ := by
  refine Ci.of (cc := cX5_looksColour) (nL := 1) (ret := (some .int)) (by decide) rfl (Nat.le_of_ble_eq_true rfl) ?_
  intro p e s m below meth c A ls C h hl
  obtain ⟨hx, hb, hml, hr, hlk, hown, hts, hK, hA, hZ⟩ := id C
  have hl : lv_has ls 1 [(0, .ref (ad (13 + k0)))] := hl
  unfold fX5_looksColour at hf
  refine lv_aload_n hx hb dX5_looksColour_0 rfl (lv_at hl 0 rfl) ?_
  refine x_get (v := .int (σ (13 + k0) 0)) C h (gX_Tu κ ad σ hk0) rfl inX5_looksColour_X5 0 (by decide) (hts _ lkX5_looksColour_15) rfl dX5_looksColour_1 ?_
  refine lv_iconst (v := 1) hx hb dX5_looksColour_4 (by decide) ?_
  refine lv_icmp_ne (tgt := 22) hx hb dX5_looksColour_5 (by decide) (fun c1 => ?_) (fun c1 => ?_)
  · have hf := tk_f c1 hf
    refine lv_aload_n hx hb dX5_looksColour_22 rfl (lv_at hl 0 rfl) ?_
    refine x_get (v := .int (σ (13 + k0) 1)) C h (gX_Tu κ ad σ hk0) rfl inX5_looksColour_X5 1 (by decide) (hts _ lkX5_looksColour_21) rfl dX5_looksColour_23 ?_
    subst hf
    exact x_iret C h dX5_looksColour_26
  · have hf := tk_t c1 hf
    refine lv_bipush (v := 7) hx hb dX5_looksColour_8 (by decide) ?_
    refine lv_aload_n hx hb dX5_looksColour_10 rfl (lv_at hl 0 rfl) ?_
    refine x_get (v := .int (σ (13 + k0) 1)) C h (gX_Tu κ ad σ hk0) rfl inX5_looksColour_X5 1 (by decide) (hts _ lkX5_looksColour_21) rfl dX5_looksColour_11 ?_
    refine lv_iconst (v := 1) hx hb dX5_looksColour_14 (by decide) ?_
    refine lv_iadd hx hb dX5_looksColour_15 ?_
    refine va_mmin hx hb (hml.trans hl.1.symm) hown (hts _ mwX5_looksColour_36.1) (hts _ mwX5_looksColour_36.2.1) (hts _ mwX5_looksColour_36.2.2.1) (hts _ mwX5_looksColour_36.2.2.2) (Nat.le_of_ble_eq_true rfl) (Nat.le_of_ble_eq_true rfl) (Nat.zero_le _) (Nat.zero_le _) dX5_looksColour_16 ?_
    refine lv_goto (tgt := 26) hx hb dX5_looksColour_19 (by decide) ?_
    subst hf
    exact x_iret C h dX5_looksColour_26

-- ===== X5_looksSize: ButtonMatch$Tube.looksSize()I
theorem lkX5_looksSize_15 : Cond.fieldLink RX5 15 "ButtonMatch$Tube" "kind" "I" ∈ wsX5_looksSize := by decide +kernel
theorem inX5_looksSize_X5 : ∀ w ∈ wsX50, w ∈ wsX5_looksSize := fun _ h => List.mem_cons_of_mem _ (List.mem_append_right _ h)
theorem lkX5_looksSize_24 : Cond.fieldLink RX5 24 "ButtonMatch$Tube" "size" "I" ∈ wsX5_looksSize := by decide +kernel
theorem mwX5_looksSize_42 : Cond.methodLink RX5 42 Lib.Math.max.name ∈ wsX5_looksSize ∧ Cond.static Lib.Math.max.name ∈ wsX5_looksSize ∧ Cond.initialized "java/lang/Math" ∈ wsX5_looksSize ∧ Cond.code Lib.Math.max.name Lib.Math.max.code 2 (some .int) ∈ wsX5_looksSize := ⟨by decide +kernel, by decide +kernel, by decide +kernel, by decide +kernel⟩
def fX5_looksSize (k0 : Nat) (σ : Sg) : Int32 :=
  (if (σ (13 + k0) 0) = 2 then (if 0 < ((σ (13 + k0) 2) - 1) then ((σ (13 + k0) 2) - 1) else 0) else (σ (13 + k0) 2))
set_option maxHeartbeats 4000000 in
set_option maxRecDepth 100000 in
theorem kX5_looksSize (l : Launch) (D : va_G) (κ : Kp) (ad : Nat → Nat) (k0 : Nat) (hk0 : k0 < 6) (σ : Sg) {r : Int32} (hf : fX5_looksSize k0 σ = r) : Ci l D κ (wsX κ ad) yX5_looksSize wsX5_looksSize 1 23 [.ref (ad (13 + k0))] σ r σ := by
  refine Ci.of (cc := cX5_looksSize) (nL := 1) (ret := (some .int)) (by decide) rfl (Nat.le_of_ble_eq_true rfl) ?_
  intro p e s m below meth c A ls C h hl
  obtain ⟨hx, hb, hml, hr, hlk, hown, hts, hK, hA, hZ⟩ := id C
  have hl : lv_has ls 1 [(0, .ref (ad (13 + k0)))] := hl
  unfold fX5_looksSize at hf
  refine lv_aload_n hx hb dX5_looksSize_0 rfl (lv_at hl 0 rfl) ?_
  refine x_get (v := .int (σ (13 + k0) 0)) C h (gX_Tu κ ad σ hk0) rfl inX5_looksSize_X5 0 (by decide) (hts _ lkX5_looksSize_15) rfl dX5_looksSize_1 ?_
  refine lv_iconst (v := 2) hx hb dX5_looksSize_4 (by decide) ?_
  refine lv_icmp_ne (tgt := 21) hx hb dX5_looksSize_5 (by decide) (fun c1 => ?_) (fun c1 => ?_)
  · have hf := tk_f c1 hf
    refine lv_aload_n hx hb dX5_looksSize_21 rfl (lv_at hl 0 rfl) ?_
    refine x_get (v := .int (σ (13 + k0) 2)) C h (gX_Tu κ ad σ hk0) rfl inX5_looksSize_X5 2 (by decide) (hts _ lkX5_looksSize_24) rfl dX5_looksSize_22 ?_
    subst hf
    exact x_iret C h dX5_looksSize_25
  · have hf := tk_t c1 hf
    refine lv_iconst (v := 0) hx hb dX5_looksSize_8 (by decide) ?_
    refine lv_aload_n hx hb dX5_looksSize_9 rfl (lv_at hl 0 rfl) ?_
    refine x_get (v := .int (σ (13 + k0) 2)) C h (gX_Tu κ ad σ hk0) rfl inX5_looksSize_X5 2 (by decide) (hts _ lkX5_looksSize_24) rfl dX5_looksSize_10 ?_
    refine lv_iconst (v := 1) hx hb dX5_looksSize_13 (by decide) ?_
    refine lv_isub hx hb dX5_looksSize_14 ?_
    refine va_mmax hx hb (hml.trans hl.1.symm) hown (hts _ mwX5_looksSize_42.1) (hts _ mwX5_looksSize_42.2.1) (hts _ mwX5_looksSize_42.2.2.1) (hts _ mwX5_looksSize_42.2.2.2) (Nat.le_of_ble_eq_true rfl) (Nat.le_of_ble_eq_true rfl) (Nat.zero_le _) (Nat.zero_le _) dX5_looksSize_15 ?_
    refine lv_goto (tgt := 25) hx hb dX5_looksSize_18 (by decide) ?_
    subst hf
    exact x_iret C h dX5_looksSize_25

-- ===== X5_farFrom: ButtonMatch$Tube.farFrom(III)I
theorem mwX5_farFrom_49 : Cond.methodLink RX5 49 Lib.Math.abs.name ∈ wsX5_farFrom ∧ Cond.static Lib.Math.abs.name ∈ wsX5_farFrom ∧ Cond.initialized "java/lang/Math" ∈ wsX5_farFrom ∧ Cond.code Lib.Math.abs.name Lib.Math.abs.code 1 (some .int) ∈ wsX5_farFrom := ⟨by decide +kernel, by decide +kernel, by decide +kernel, by decide +kernel⟩
theorem lkX5_farFrom_27 : Cond.fieldLink RX5 27 "ButtonMatch$Tube" "holes" "I" ∈ wsX5_farFrom := by decide +kernel
theorem inX5_farFrom_X5 : ∀ w ∈ wsX50, w ∈ wsX5_farFrom := fun _ h => List.mem_cons_of_mem _ (List.mem_append_right _ h)
def fX5_farFrom (k0 : Nat) (x1 : Int32) (x2 : Int32) (x3 : Int32) (σ : Sg) : Int32 :=
  (lt ((if 0 ≤ ((fX5_looksColour k0 σ) - x1) then ((fX5_looksColour k0 σ) - x1) else 0 - ((fX5_looksColour k0 σ) - x1)) + (if 0 ≤ ((fX5_looksSize k0 σ) - x2) then ((fX5_looksSize k0 σ) - x2) else 0 - ((fX5_looksSize k0 σ) - x2))) fun y1 => (if (σ (13 + k0) 3) = x3 then y1 else (y1 + 2)))
set_option maxHeartbeats 4000000 in
set_option maxRecDepth 100000 in
theorem kX5_farFrom (l : Launch) (D : va_G) (κ : Kp) (ad : Nat → Nat) (k0 : Nat) (hk0 : k0 < 6) (x1 : Int32) (x2 : Int32) (x3 : Int32) (σ : Sg) {r : Int32} (hf : fX5_farFrom k0 x1 x2 x3 σ = r) : Ci l D κ (wsX κ ad) yX5_farFrom wsX5_farFrom 2 43 [.ref (ad (13 + k0)), .int x1, .int x2, .int x3] σ r σ := by
  refine Ci.of (cc := cX5_farFrom) (nL := 5) (ret := (some .int)) (by decide) rfl (Nat.le_of_ble_eq_true rfl) ?_
  intro p e s m below meth c A ls C h hl
  obtain ⟨hx, hb, hml, hr, hlk, hown, hts, hK, hA, hZ⟩ := id C
  have hl : lv_has ls 5 [(0, .ref (ad (13 + k0))), (1, .int x1), (2, .int x2), (3, .int x3)] := hl
  unfold fX5_farFrom at hf
  refine lv_aload_n hx hb dX5_farFrom_0 rfl (lv_at hl 0 rfl) ?_
  refine x_vi (As := []) (rest := []) C h (gX_Tu κ ad σ hk0) rfl (kX5_looksColour l D κ ad k0 hk0 σ (r := (fX5_looksColour k0 σ)) rfl) (fun hts => cwV 0 hts gX5_farFrom_X5_looksColour rfl rfl rfl (by decide +kernel) ⟨Nat.le_of_ble_eq_true rfl, Nat.le_of_ble_eq_true rfl⟩) rfl hl.1 (Nat.le_of_ble_eq_true rfl) rfl dX5_farFrom_1 (fun H locs h => ?_)
  refine lv_iload_n hx hb dX5_farFrom_4 rfl (lv_at hl 1 rfl) ?_
  refine lv_isub hx hb dX5_farFrom_5 ?_
  refine va_mabs hx hb (hml.trans hl.1.symm) hown (hts _ mwX5_farFrom_49.1) (hts _ mwX5_farFrom_49.2.1) (hts _ mwX5_farFrom_49.2.2.1) (hts _ mwX5_farFrom_49.2.2.2) (Nat.le_of_ble_eq_true rfl) (Nat.le_of_ble_eq_true rfl) (Nat.zero_le _) (Nat.zero_le _) dX5_farFrom_6 ?_
  refine lv_aload_n hx hb dX5_farFrom_9 rfl (lv_at hl 0 rfl) ?_
  refine x_vi (As := []) (rest := [.int (if 0 ≤ ((fX5_looksColour k0 σ) - x1) then ((fX5_looksColour k0 σ) - x1) else 0 - ((fX5_looksColour k0 σ) - x1))]) C h (gX_Tu κ ad σ hk0) rfl (kX5_looksSize l D κ ad k0 hk0 σ (r := (fX5_looksSize k0 σ)) rfl) (fun hts => cwV 0 hts gX5_farFrom_X5_looksSize rfl rfl rfl (by decide +kernel) ⟨Nat.le_of_ble_eq_true rfl, Nat.le_of_ble_eq_true rfl⟩) rfl hl.1 (Nat.le_of_ble_eq_true rfl) rfl dX5_farFrom_10 (fun H locs h => ?_)
  refine lv_iload_n hx hb dX5_farFrom_13 rfl (lv_at hl 2 rfl) ?_
  refine lv_isub hx hb dX5_farFrom_14 ?_
  refine va_mabs hx hb (hml.trans hl.1.symm) hown (hts _ mwX5_farFrom_49.1) (hts _ mwX5_farFrom_49.2.1) (hts _ mwX5_farFrom_49.2.2.1) (hts _ mwX5_farFrom_49.2.2.2) (Nat.le_of_ble_eq_true rfl) (Nat.le_of_ble_eq_true rfl) (Nat.zero_le _) (Nat.zero_le _) dX5_farFrom_15 ?_
  refine lv_iadd hx hb dX5_farFrom_18 ?_
  obtain ⟨y1, ey1, hf⟩ := lt_ok hf
  rw [← ey1]
  refine lv_istore (lv' := [(4, .int y1), (0, .ref (ad (13 + k0))), (1, .int x1), (2, .int x2), (3, .int x3)]) hx hb dX5_farFrom_19 hl (by decide) rfl (fun ls hl => ?_)
  refine lv_aload_n hx hb dX5_farFrom_21 rfl (lv_at hl 1 rfl) ?_
  refine x_get (v := .int (σ (13 + k0) 3)) C h (gX_Tu κ ad σ hk0) rfl inX5_farFrom_X5 3 (by decide) (hts _ lkX5_farFrom_27) rfl dX5_farFrom_22 ?_
  refine lv_iload_n hx hb dX5_farFrom_25 rfl (lv_at hl 4 rfl) ?_
  refine lv_icmp_ne (tgt := 34) hx hb dX5_farFrom_26 (by decide) (fun c2 => ?_) (fun c2 => ?_)
  · have hf := tk_f c2 hf
    refine lv_iload hx hb dX5_farFrom_34 (lv_at hl 0 rfl) ?_
    refine lv_iconst (v := 2) hx hb dX5_farFrom_36 (by decide) ?_
    refine lv_iadd hx hb dX5_farFrom_37 ?_
    subst hf
    exact x_iret C h dX5_farFrom_38
  · have hf := tk_t c2 hf
    refine lv_iload hx hb dX5_farFrom_29 (lv_at hl 0 rfl) ?_
    refine lv_goto (tgt := 38) hx hb dX5_farFrom_31 (by decide) ?_
    subst hf
    exact x_iret C h dX5_farFrom_38

-- ===== X5_part: ButtonMatch$Tube.part(I)I
theorem lkX5_part_15 : Cond.fieldLink RX5 15 "ButtonMatch$Tube" "kind" "I" ∈ wsX5_part := by decide +kernel
theorem inX5_part_X5 : ∀ w ∈ wsX50, w ∈ wsX5_part := fun _ h => List.mem_cons_of_mem _ (List.mem_append_right _ h)
theorem lkX5_part_21 : Cond.fieldLink RX5 21 "ButtonMatch$Tube" "colour" "I" ∈ wsX5_part := by decide +kernel
theorem lkX5_part_24 : Cond.fieldLink RX5 24 "ButtonMatch$Tube" "size" "I" ∈ wsX5_part := by decide +kernel
theorem lkX5_part_27 : Cond.fieldLink RX5 27 "ButtonMatch$Tube" "holes" "I" ∈ wsX5_part := by decide +kernel
theorem lkX5_part_30 : Cond.fieldLink RX5 30 "ButtonMatch$Tube" "count" "I" ∈ wsX5_part := by decide +kernel
theorem lkX5_part_33 : Cond.fieldLink RX5 33 "ButtonMatch$Tube" "pence" "I" ∈ wsX5_part := by decide +kernel
def fX5_part (k0 : Nat) (x1 : Int32) (σ : Sg) : Int32 :=
  (if x1 = 0 then (σ (13 + k0) 0) else (if x1 = 1 then (σ (13 + k0) 1) else (if x1 = 2 then (σ (13 + k0) 2) else (if x1 = 3 then (σ (13 + k0) 3) else (if x1 = 4 then (σ (13 + k0) 4) else (if x1 = 5 then (σ (13 + k0) 5) else (if x1 = 6 then (fX5_looksColour k0 σ) else (fX5_looksSize k0 σ))))))))
set_option maxHeartbeats 4000000 in
set_option maxRecDepth 100000 in
theorem kX5_part (l : Launch) (D : va_G) (κ : Kp) (ad : Nat → Nat) (k0 : Nat) (hk0 : k0 < 6) (x1 : Int32) (σ : Sg) {r : Int32} (hf : fX5_part k0 x1 σ = r) : Ci l D κ (wsX κ ad) yX5_part wsX5_part 2 43 [.ref (ad (13 + k0)), .int x1] σ r σ := by
  refine Ci.of (cc := cX5_part) (nL := 2) (ret := (some .int)) (by decide) rfl (Nat.le_of_ble_eq_true rfl) ?_
  intro p e s m below meth c A ls C h hl
  obtain ⟨hx, hb, hml, hr, hlk, hown, hts, hK, hA, hZ⟩ := id C
  have hl : lv_has ls 2 [(0, .ref (ad (13 + k0))), (1, .int x1)] := hl
  unfold fX5_part at hf
  refine lv_iload_n hx hb dX5_part_0 rfl (lv_at hl 1 rfl) ?_
  by_cases c1 : x1 = 0
  · have hf := tk_t c1 hf
    refine lv_tableIn (off := 43) (tgt := 44) hx hb dX5_part_1 (by rw [c1]; decide) (by rw [c1]; decide) (by rw [c1]; rfl) (by decide) ?_
    refine lv_aload_n hx hb dX5_part_44 rfl (lv_at hl 0 rfl) ?_
    refine x_get (v := .int (σ (13 + k0) 0)) C h (gX_Tu κ ad σ hk0) rfl inX5_part_X5 0 (by decide) (hts _ lkX5_part_15) rfl dX5_part_45 ?_
    subst hf
    exact x_iret C h dX5_part_48
  have hf := tk_f c1 hf
  by_cases c2 : x1 = 1
  · have hf := tk_t c2 hf
    refine lv_tableIn (off := 48) (tgt := 49) hx hb dX5_part_1 (by rw [c2]; decide) (by rw [c2]; decide) (by rw [c2]; rfl) (by decide) ?_
    refine lv_aload_n hx hb dX5_part_49 rfl (lv_at hl 0 rfl) ?_
    refine x_get (v := .int (σ (13 + k0) 1)) C h (gX_Tu κ ad σ hk0) rfl inX5_part_X5 1 (by decide) (hts _ lkX5_part_21) rfl dX5_part_50 ?_
    subst hf
    exact x_iret C h dX5_part_53
  have hf := tk_f c2 hf
  by_cases c3 : x1 = 2
  · have hf := tk_t c3 hf
    refine lv_tableIn (off := 53) (tgt := 54) hx hb dX5_part_1 (by rw [c3]; decide) (by rw [c3]; decide) (by rw [c3]; rfl) (by decide) ?_
    refine lv_aload_n hx hb dX5_part_54 rfl (lv_at hl 0 rfl) ?_
    refine x_get (v := .int (σ (13 + k0) 2)) C h (gX_Tu κ ad σ hk0) rfl inX5_part_X5 2 (by decide) (hts _ lkX5_part_24) rfl dX5_part_55 ?_
    subst hf
    exact x_iret C h dX5_part_58
  have hf := tk_f c3 hf
  by_cases c4 : x1 = 3
  · have hf := tk_t c4 hf
    refine lv_tableIn (off := 58) (tgt := 59) hx hb dX5_part_1 (by rw [c4]; decide) (by rw [c4]; decide) (by rw [c4]; rfl) (by decide) ?_
    refine lv_aload_n hx hb dX5_part_59 rfl (lv_at hl 0 rfl) ?_
    refine x_get (v := .int (σ (13 + k0) 3)) C h (gX_Tu κ ad σ hk0) rfl inX5_part_X5 3 (by decide) (hts _ lkX5_part_27) rfl dX5_part_60 ?_
    subst hf
    exact x_iret C h dX5_part_63
  have hf := tk_f c4 hf
  by_cases c5 : x1 = 4
  · have hf := tk_t c5 hf
    refine lv_tableIn (off := 63) (tgt := 64) hx hb dX5_part_1 (by rw [c5]; decide) (by rw [c5]; decide) (by rw [c5]; rfl) (by decide) ?_
    refine lv_aload_n hx hb dX5_part_64 rfl (lv_at hl 0 rfl) ?_
    refine x_get (v := .int (σ (13 + k0) 4)) C h (gX_Tu κ ad σ hk0) rfl inX5_part_X5 4 (by decide) (hts _ lkX5_part_30) rfl dX5_part_65 ?_
    subst hf
    exact x_iret C h dX5_part_68
  have hf := tk_f c5 hf
  by_cases c6 : x1 = 5
  · have hf := tk_t c6 hf
    refine lv_tableIn (off := 68) (tgt := 69) hx hb dX5_part_1 (by rw [c6]; decide) (by rw [c6]; decide) (by rw [c6]; rfl) (by decide) ?_
    refine lv_aload_n hx hb dX5_part_69 rfl (lv_at hl 0 rfl) ?_
    refine x_get (v := .int (σ (13 + k0) 5)) C h (gX_Tu κ ad σ hk0) rfl inX5_part_X5 5 (by decide) (hts _ lkX5_part_33) rfl dX5_part_70 ?_
    subst hf
    exact x_iret C h dX5_part_73
  have hf := tk_f c6 hf
  by_cases c7 : x1 = 6
  · have hf := tk_t c7 hf
    refine lv_tableIn (off := 73) (tgt := 74) hx hb dX5_part_1 (by rw [c7]; decide) (by rw [c7]; decide) (by rw [c7]; rfl) (by decide) ?_
    refine lv_aload_n hx hb dX5_part_74 rfl (lv_at hl 0 rfl) ?_
    refine x_vi (As := []) (rest := []) C h (gX_Tu κ ad σ hk0) rfl (kX5_looksColour l D κ ad k0 hk0 σ (r := (fX5_looksColour k0 σ)) rfl) (fun hts => cwV 0 hts gX5_part_X5_looksColour rfl rfl rfl (by decide +kernel) ⟨Nat.le_of_ble_eq_true rfl, Nat.le_of_ble_eq_true rfl⟩) rfl hl.1 (Nat.le_of_ble_eq_true rfl) rfl dX5_part_75 (fun H locs h => ?_)
    subst hf
    exact x_iret C h dX5_part_78
  have hf := tk_f c7 hf
  have ec1 : ¬ x1.toInt = 0 := sw_ne c1
  have ec2 : ¬ x1.toInt = 1 := sw_ne c2
  have ec3 : ¬ x1.toInt = 2 := sw_ne c3
  have ec4 : ¬ x1.toInt = 3 := sw_ne c4
  have ec5 : ¬ x1.toInt = 4 := sw_ne c5
  have ec6 : ¬ x1.toInt = 5 := sw_ne c6
  have ec7 : ¬ x1.toInt = 6 := sw_ne c7
  refine lv_tableOut (tgt := 79) hx hb dX5_part_1 (by omega) (by decide) ?_
  refine lv_aload_n hx hb dX5_part_79 rfl (lv_at hl 0 rfl) ?_
  refine x_vi (As := []) (rest := []) C h (gX_Tu κ ad σ hk0) rfl (kX5_looksSize l D κ ad k0 hk0 σ (r := (fX5_looksSize k0 σ)) rfl) (fun hts => cwV 0 hts gX5_part_X5_looksSize rfl rfl rfl (by decide +kernel) ⟨Nat.le_of_ble_eq_true rfl, Nat.le_of_ble_eq_true rfl⟩) rfl hl.1 (Nat.le_of_ble_eq_true rfl) rfl dX5_part_80 (fun H locs h => ?_)
  subst hf
  exact x_iret C h dX5_part_83

-- ===== X4_waysToDraw: ButtonMatch$Tin.waysToDraw(II)J
def fX4_waysToDraw_12 (σ : Sg) (x0 : Int32) (x1 : Int32) : Nat → Int64 → Int32 → Option (Int64)
  | 0, _, _ => none
  | n + 1, x2, x4 => (if x1 < x4 then some x2 else (if ¬ x4.toInt64 = 0 then fX4_waysToDraw_12 σ x0 x1 n ((x2 * (((x0 - x1) + x4).toInt64)) / x4.toInt64) (x4 + 1) else none))
set_option maxHeartbeats 4000000 in
set_option maxRecDepth 100000 in
theorem jX4_waysToDraw_12 {p : Program} {l : Launch} {e : Env} {s : State} {m : MethodId} {args : Array Value} {below : List Frame} {meth : Method} {c : Code} {D : va_G} {κ : Kp} {ad : Nat → Nat} {A : Nat → Prop} {r : Int64} (C : Mc p s m args meth c cX4_waysToDraw 5 (some .long) wsX4_waysToDraw RX4 D κ A) (σ : Sg) (x0 : Int32) (x1 : Int32) : ∀ (n : Nat) (x2 : Int64) (x4 : Int32) (H : Heap) (locs : List Loc) (ls : Array Slot), Wd D (wsX κ ad) A s.heap H locs σ → lv_has ls 5 [(0, .int x0), (1, .int x1), (2, .long x2), (4, .int x4)] → fX4_waysToDraw_12 σ x0 x1 n x2 x4 = some r → W p l e { frames := 0, cells := 0, slots := 0, locals := 0 } s m args below meth c H locs 0 0 (Ql below args s D (wsX κ ad) A r σ) (F0 m 12 ls []) := by
  obtain ⟨hx, hb, hml, hr, hlk, hown, hts, hK, hA, hZ⟩ := id C
  intro n
  induction n with
  | zero =>
    intro x2 x4 H locs ls h hl hf
    rw [fX4_waysToDraw_12] at hf
    cases hf
  | succ n ih =>
    intro x2 x4 H locs ls h hl hf
    rw [fX4_waysToDraw_12] at hf
    refine lv_iload hx hb dX4_waysToDraw_12 (lv_at hl 3 rfl) ?_
    refine lv_iload_n hx hb dX4_waysToDraw_14 rfl (lv_at hl 1 rfl) ?_
    refine lv_icmp_gt (tgt := 38) hx hb dX4_waysToDraw_15 (by decide) (fun c1 => ?_) (fun c1 => ?_)
    · have hf := tk_t c1 hf
      refine lv_lload_n hx hb dX4_waysToDraw_38 rfl (lv_at hl 2 rfl) ?_
      obtain rfl := so_ok hf
      exact x_lret C h dX4_waysToDraw_39
    · have hf := tk_f c1 hf
      refine lv_lload_n hx hb dX4_waysToDraw_18 rfl (lv_at hl 2 rfl) ?_
      refine lv_iload_n hx hb dX4_waysToDraw_19 rfl (lv_at hl 0 rfl) ?_
      refine lv_iload_n hx hb dX4_waysToDraw_20 rfl (lv_at hl 1 rfl) ?_
      refine lv_isub hx hb dX4_waysToDraw_21 ?_
      refine lv_iload hx hb dX4_waysToDraw_22 (lv_at hl 3 rfl) ?_
      refine lv_iadd hx hb dX4_waysToDraw_24 ?_
      refine lv_i2l (v := ((x0 - x1) + x4).toInt64) hx hb dX4_waysToDraw_25 rfl ?_
      refine lv_lmul hx hb dX4_waysToDraw_26 ?_
      refine lv_iload hx hb dX4_waysToDraw_27 (lv_at hl 3 rfl) ?_
      refine lv_i2l (v := x4.toInt64) hx hb dX4_waysToDraw_29 rfl ?_
      obtain ⟨g2, hf⟩ := gd_ok hf
      refine lv_ldiv hx hb dX4_waysToDraw_30 g2 ?_
      refine lv_lstore_n (lv' := [(2, .long ((x2 * (((x0 - x1) + x4).toInt64)) / x4.toInt64)), (0, .int x0), (1, .int x1), (4, .int x4)]) hx hb dX4_waysToDraw_31 rfl hl (by decide) rfl (fun ls hl => ?_)
      refine lv_iinc (v := (x4 + 1)) (lv' := [(4, .int (x4 + 1)), (2, .long ((x2 * (((x0 - x1) + x4).toInt64)) / x4.toInt64)), (0, .int x0), (1, .int x1)]) hx hb dX4_waysToDraw_32 hl (k := 3) rfl rfl (by decide) rfl (fun ls hl => ?_)
      refine lv_goto (tgt := 12) hx hb dX4_waysToDraw_35 (by decide) ?_
      exact ih ((x2 * (((x0 - x1) + x4).toInt64)) / x4.toInt64) (x4 + 1) _ _ _ h (lv_sub hl [2, 3, 1, 0] rfl) hf
def fX4_waysToDraw (x0 : Int32) (x1 : Int32) (σ : Sg) : Option (Int64) :=
  (if x1 ≤ x0 then fX4_waysToDraw_12 σ x0 x1 1000 1 1 else some 0)
set_option maxHeartbeats 4000000 in
set_option maxRecDepth 100000 in
theorem kX4_waysToDraw (l : Launch) (D : va_G) (κ : Kp) (ad : Nat → Nat) (x0 : Int32) (x1 : Int32) (σ : Sg) {r : Int64} (hf : fX4_waysToDraw x0 x1 σ = some r) : Cl l D κ (wsX κ ad) yX4_waysToDraw wsX4_waysToDraw 0 0 [.int x0, .int x1] σ r σ := by
  refine Cl.of (cc := cX4_waysToDraw) (nL := 5) (ret := (some .long)) (by decide) rfl (Nat.le_of_ble_eq_true rfl) ?_
  intro p e s m below meth c A ls C h hl
  obtain ⟨hx, hb, hml, hr, hlk, hown, hts, hK, hA, hZ⟩ := id C
  have hl : lv_has ls 5 [(0, .int x0), (1, .int x1)] := hl
  unfold fX4_waysToDraw at hf
  refine lv_iload_n hx hb dX4_waysToDraw_0 rfl (lv_at hl 1 rfl) ?_
  refine lv_iload_n hx hb dX4_waysToDraw_1 rfl (lv_at hl 0 rfl) ?_
  refine lv_icmp_le (tgt := 7) hx hb dX4_waysToDraw_2 (by decide) (fun c3 => ?_) (fun c3 => ?_)
  · have hf := tk_t c3 hf
    refine lv_lconst (v := 1) hx hb dX4_waysToDraw_7 (by decide) ?_
    refine lv_lstore_n (lv' := [(2, .long 1), (0, .int x0), (1, .int x1)]) hx hb dX4_waysToDraw_8 rfl hl (by decide) rfl (fun ls hl => ?_)
    refine lv_iconst (v := 1) hx hb dX4_waysToDraw_9 (by decide) ?_
    refine lv_istore (lv' := [(4, .int 1), (2, .long 1), (0, .int x0), (1, .int x1)]) hx hb dX4_waysToDraw_10 hl (by decide) rfl (fun ls hl => ?_)
    exact jX4_waysToDraw_12 C σ x0 x1 1000 1 1 _ _ _ h (lv_sub hl [2, 3, 1, 0] rfl) hf
  · have hf := tk_f c3 hf
    refine lv_lconst (v := 0) hx hb dX4_waysToDraw_5 (by decide) ?_
    obtain rfl := so_ok hf
    exact x_lret C h dX4_waysToDraw_6

-- ===== X4_commonDivisor: ButtonMatch$Tin.commonDivisor(JJ)J
def fX4_commonDivisor_3 (σ : Sg) : Nat → Int64 → Int64 → Int32 → Option (Int64)
  | 0, _, _, _ => none
  | n + 1, x0, x2, x4 => (if 128 ≤ x4 then some x0 else (if (lg_cmp x2 0) = 0 then some x0 else (if ¬ x2 = 0 then fX4_commonDivisor_3 σ n x2 (x0 - x0 / x2 * x2) (x4 + 1) else none)))
set_option maxHeartbeats 4000000 in
set_option maxRecDepth 100000 in
theorem jX4_commonDivisor_3 {p : Program} {l : Launch} {e : Env} {s : State} {m : MethodId} {args : Array Value} {below : List Frame} {meth : Method} {c : Code} {D : va_G} {κ : Kp} {ad : Nat → Nat} {A : Nat → Prop} {r : Int64} (C : Mc p s m args meth c cX4_commonDivisor 7 (some .long) wsX4_commonDivisor RX4 D κ A) (σ : Sg) : ∀ (n : Nat) (x0 : Int64) (x2 : Int64) (x4 : Int32) (H : Heap) (locs : List Loc) (ls : Array Slot), Wd D (wsX κ ad) A s.heap H locs σ → lv_has ls 7 [(0, .long x0), (2, .long x2), (4, .int x4)] → fX4_commonDivisor_3 σ n x0 x2 x4 = some r → W p l e { frames := 0, cells := 0, slots := 0, locals := 0 } s m args below meth c H locs 0 0 (Ql below args s D (wsX κ ad) A r σ) (F0 m 3 ls []) := by
  obtain ⟨hx, hb, hml, hr, hlk, hown, hts, hK, hA, hZ⟩ := id C
  intro n
  induction n with
  | zero =>
    intro x0 x2 x4 H locs ls h hl hf
    rw [fX4_commonDivisor_3] at hf
    cases hf
  | succ n ih =>
    intro x0 x2 x4 H locs ls h hl hf
    rw [fX4_commonDivisor_3] at hf
    refine lv_iload hx hb dX4_commonDivisor_3 (lv_at hl 2 rfl) ?_
    refine lv_sipush (v := 128) hx hb dX4_commonDivisor_5 (by decide) ?_
    refine lv_icmp_ge (tgt := 33) hx hb dX4_commonDivisor_8 (by decide) (fun c1 => ?_) (fun c1 => ?_)
    · have hf := tk_t c1 hf
      refine lv_lload_n hx hb dX4_commonDivisor_33 rfl (lv_at hl 0 rfl) ?_
      obtain rfl := so_ok hf
      exact x_lret C h dX4_commonDivisor_34
    · have hf := tk_f c1 hf
      refine lv_lload_n hx hb dX4_commonDivisor_11 rfl (lv_at hl 1 rfl) ?_
      refine lv_lconst (v := 0) hx hb dX4_commonDivisor_12 (by decide) ?_
      refine W.lcmp hx hb dX4_commonDivisor_13 ?_
      refine lv_if_eq (tgt := 33) hx hb dX4_commonDivisor_14 (by decide) (fun c2 => ?_) (fun c2 => ?_)
      · have hf := tk_t c2 hf
        refine lv_lload_n hx hb dX4_commonDivisor_33 rfl (lv_at hl 0 rfl) ?_
        obtain rfl := so_ok hf
        exact x_lret C h dX4_commonDivisor_34
      · have hf := tk_f c2 hf
        refine lv_lload_n hx hb dX4_commonDivisor_17 rfl (lv_at hl 0 rfl) ?_
        refine lv_lload_n hx hb dX4_commonDivisor_18 rfl (lv_at hl 1 rfl) ?_
        obtain ⟨g3, hf⟩ := gd_ok hf
        refine lv_lrem hx hb dX4_commonDivisor_19 g3 ?_
        refine lv_lstore (lv' := [(5, .long (x0 - x0 / x2 * x2)), (0, .long x0), (2, .long x2), (4, .int x4)]) hx hb dX4_commonDivisor_20 hl (by decide) rfl (fun ls hl => ?_)
        refine lv_lload_n hx hb dX4_commonDivisor_22 rfl (lv_at hl 2 rfl) ?_
        refine lv_lstore_n (lv' := [(0, .long x2), (5, .long (x0 - x0 / x2 * x2)), (2, .long x2), (4, .int x4)]) hx hb dX4_commonDivisor_23 rfl hl (by decide) rfl (fun ls hl => ?_)
        refine lv_lload hx hb dX4_commonDivisor_24 (lv_at hl 1 rfl) ?_
        refine lv_lstore_n (lv' := [(2, .long (x0 - x0 / x2 * x2)), (0, .long x2), (5, .long (x0 - x0 / x2 * x2)), (4, .int x4)]) hx hb dX4_commonDivisor_26 rfl hl (by decide) rfl (fun ls hl => ?_)
        refine lv_iinc (v := (x4 + 1)) (lv' := [(4, .int (x4 + 1)), (2, .long (x0 - x0 / x2 * x2)), (0, .long x2), (5, .long (x0 - x0 / x2 * x2))]) hx hb dX4_commonDivisor_27 hl (k := 3) rfl rfl (by decide) rfl (fun ls hl => ?_)
        refine lv_goto (tgt := 3) hx hb dX4_commonDivisor_30 (by decide) ?_
        exact ih x2 (x0 - x0 / x2 * x2) (x4 + 1) _ _ _ h (lv_sub hl [2, 1, 0] rfl) hf
def fX4_commonDivisor (x0 : Int64) (x2 : Int64) (σ : Sg) : Option (Int64) :=
  fX4_commonDivisor_3 σ 1000 x0 x2 0
set_option maxHeartbeats 4000000 in
set_option maxRecDepth 100000 in
theorem kX4_commonDivisor (l : Launch) (D : va_G) (κ : Kp) (ad : Nat → Nat) (x0 : Int64) (x2 : Int64) (σ : Sg) {r : Int64} (hf : fX4_commonDivisor x0 x2 σ = some r) : Cl l D κ (wsX κ ad) yX4_commonDivisor wsX4_commonDivisor 0 0 [.long x0, .long x2] σ r σ := by
  refine Cl.of (cc := cX4_commonDivisor) (nL := 7) (ret := (some .long)) (by decide) rfl (Nat.le_of_ble_eq_true rfl) ?_
  intro p e s m below meth c A ls C h hl
  obtain ⟨hx, hb, hml, hr, hlk, hown, hts, hK, hA, hZ⟩ := id C
  have hl : lv_has ls 7 [(0, .long x0), (2, .long x2)] := hl
  unfold fX4_commonDivisor at hf
  refine lv_iconst (v := 0) hx hb dX4_commonDivisor_0 (by decide) ?_
  refine lv_istore (lv' := [(4, .int 0), (0, .long x0), (2, .long x2)]) hx hb dX4_commonDivisor_1 hl (by decide) rfl (fun ls hl => ?_)
  exact jX4_commonDivisor_3 C σ 1000 x0 x2 0 _ _ _ h (lv_sub hl [1, 2, 0] rfl) hf

-- ===== X4_share: ButtonMatch$Tin.share(IIII)J
theorem mwX4_share_19 : Cond.methodLink RX4 19 Lib.MathLoose.max_long.x ∈ wsX4_share ∧ Cond.static Lib.MathLoose.max_long.x ∈ wsX4_share ∧ Cond.initialized "java/lang/Math" ∈ wsX4_share ∧ Cond.code Lib.MathLoose.max_long.x Lib.MathLoose.max_long.code 4 (some .long) ∈ wsX4_share := ⟨by decide +kernel, by decide +kernel, by decide +kernel, by decide +kernel⟩
def fX4_share (x0 : Int32) (x1 : Int32) (x2 : Int32) (x3 : Int32) (σ : Sg) : Option (Int64) :=
  ((fX4_waysToDraw x0 x2 σ).bind fun r2 => ((fX4_waysToDraw (x0 - x1) x2 σ).bind fun r4 => ((fX4_commonDivisor r2 (r2 - r4) σ).bind fun r6 => (if x3 = 0 then (if ¬ (if r6 < 1 then 1 else r6) = 0 then some ((r2 - r4) / (if r6 < 1 then 1 else r6)) else none) else (if ¬ (if r6 < 1 then 1 else r6) = 0 then some (r2 / (if r6 < 1 then 1 else r6)) else none)))))
set_option maxHeartbeats 4000000 in
set_option maxRecDepth 100000 in
theorem kX4_share (l : Launch) (D : va_G) (κ : Kp) (ad : Nat → Nat) (x0 : Int32) (x1 : Int32) (x2 : Int32) (x3 : Int32) (σ : Sg) {r : Int64} (hf : fX4_share x0 x1 x2 x3 σ = some r) : Cl l D κ (wsX κ ad) yX4_share wsX4_share 1 26 [.int x0, .int x1, .int x2, .int x3] σ r σ := by
  refine Cl.of (cc := cX4_share) (nL := 10) (ret := (some .long)) (by decide) rfl (Nat.le_of_ble_eq_true rfl) ?_
  intro p e s m below meth c A ls C h hl
  obtain ⟨hx, hb, hml, hr, hlk, hown, hts, hK, hA, hZ⟩ := id C
  have hl : lv_has ls 10 [(0, .int x0), (1, .int x1), (2, .int x2), (3, .int x3)] := hl
  unfold fX4_share at hf
  refine lv_iload_n hx hb dX4_share_0 rfl (lv_at hl 0 rfl) ?_
  refine lv_iload_n hx hb dX4_share_1 rfl (lv_at hl 2 rfl) ?_
  obtain ⟨r2, hg1, hf⟩ := bd_ok hf
  refine x_sl (As := [.int x0, .int x2]) (rest := []) C h (kX4_waysToDraw l D κ ad x0 x2 σ (r := r2) hg1) (fun hts => va_cwS 2 hts gX4_share_X4_waysToDraw rfl rfl rfl (by decide +kernel) ⟨Nat.le_of_ble_eq_true rfl, Nat.le_of_ble_eq_true rfl⟩) rfl hl.1 (Nat.le_of_ble_eq_true rfl) rfl dX4_share_2 (fun H locs h => ?_)
  refine lv_lstore (lv' := [(4, .long r2), (0, .int x0), (1, .int x1), (2, .int x2), (3, .int x3)]) hx hb dX4_share_5 hl (by decide) rfl (fun ls hl => ?_)
  refine lv_lload hx hb dX4_share_7 (lv_at hl 0 rfl) ?_
  refine lv_iload_n hx hb dX4_share_9 rfl (lv_at hl 1 rfl) ?_
  refine lv_iload_n hx hb dX4_share_10 rfl (lv_at hl 2 rfl) ?_
  refine lv_isub hx hb dX4_share_11 ?_
  refine lv_iload_n hx hb dX4_share_12 rfl (lv_at hl 3 rfl) ?_
  obtain ⟨r4, hg3, hf⟩ := bd_ok hf
  refine x_sl (As := [.int (x0 - x1), .int x2]) (rest := [.long r2]) C h (kX4_waysToDraw l D κ ad (x0 - x1) x2 σ (r := r4) hg3) (fun hts => va_cwS 2 hts gX4_share_X4_waysToDraw rfl rfl rfl (by decide +kernel) ⟨Nat.le_of_ble_eq_true rfl, Nat.le_of_ble_eq_true rfl⟩) rfl hl.1 (Nat.le_of_ble_eq_true rfl) rfl dX4_share_13 (fun H locs h => ?_)
  refine lv_lsub hx hb dX4_share_16 ?_
  refine lv_lstore (lv' := [(6, .long (r2 - r4)), (4, .long r2), (0, .int x0), (1, .int x1), (2, .int x2), (3, .int x3)]) hx hb dX4_share_17 hl (by decide) rfl (fun ls hl => ?_)
  refine lv_lconst (v := 1) hx hb dX4_share_19 (by decide) ?_
  refine lv_lload hx hb dX4_share_20 (lv_at hl 1 rfl) ?_
  refine lv_lload hx hb dX4_share_22 (lv_at hl 0 rfl) ?_
  obtain ⟨r6, hg5, hf⟩ := bd_ok hf
  refine x_sl (As := [.long r2, .long (r2 - r4)]) (rest := [.long 1]) C h (kX4_commonDivisor l D κ ad r2 (r2 - r4) σ (r := r6) hg5) (fun hts => va_cwS 2 hts gX4_share_X4_commonDivisor rfl rfl rfl (by decide +kernel) ⟨Nat.le_of_ble_eq_true rfl, Nat.le_of_ble_eq_true rfl⟩) rfl hl.1 (Nat.le_of_ble_eq_true rfl) rfl dX4_share_24 (fun H locs h => ?_)
  refine va_mmax_long hx hb (hml.trans hl.1.symm) hown (hts _ mwX4_share_19.1) (hts _ mwX4_share_19.2.1) (hts _ mwX4_share_19.2.2.1) (hts _ mwX4_share_19.2.2.2) (Nat.le_of_ble_eq_true rfl) (Nat.le_of_ble_eq_true rfl) (Nat.zero_le _) (Nat.zero_le _) dX4_share_27 ?_
  refine lv_lstore (lv' := [(8, .long (if r6 < 1 then 1 else r6)), (6, .long (r2 - r4)), (4, .long r2), (0, .int x0), (1, .int x1), (2, .int x2), (3, .int x3)]) hx hb dX4_share_30 hl (by decide) rfl (fun ls hl => ?_)
  refine lv_iload_n hx hb dX4_share_32 rfl (lv_at hl 6 rfl) ?_
  refine lv_if_ne (tgt := 44) hx hb dX4_share_33 (by decide) (fun c7 => ?_) (fun c7 => ?_)
  · have hf := tk_f c7 hf
    refine lv_lload hx hb dX4_share_44 (lv_at hl 2 rfl) ?_
    refine lv_lload hx hb dX4_share_46 (lv_at hl 0 rfl) ?_
    obtain ⟨g8, hf⟩ := gd_ok hf
    refine lv_ldiv hx hb dX4_share_48 g8 ?_
    obtain rfl := so_ok hf
    exact x_lret C h dX4_share_49
  · have hf := tk_t c7 hf
    refine lv_lload hx hb dX4_share_36 (lv_at hl 1 rfl) ?_
    refine lv_lload hx hb dX4_share_38 (lv_at hl 0 rfl) ?_
    obtain ⟨g9, hf⟩ := gd_ok hf
    refine lv_ldiv hx hb dX4_share_40 g9 ?_
    refine lv_goto (tgt := 49) hx hb dX4_share_41 (by decide) ?_
    obtain rfl := so_ok hf
    exact x_lret C h dX4_share_49

-- ===== X4_fewestForHalf: ButtonMatch$Tin.fewestForHalf(II)I
theorem lkX4_fewestForHalf_24 : Cond.constantLong RX4 24 (2) ∈ wsX4_fewestForHalf := by decide +kernel
def fX4_fewestForHalf_2 (σ : Sg) (x0 : Int32) (x1 : Int32) : Nat → Int32 → Option (Int32)
  | 0, _ => none
  | n + 1, x2 => (if x0 < x2 then some (-9) else ((fX4_waysToDraw (x0 - x1) x2 σ).bind fun r3 => ((fX4_waysToDraw x0 x2 σ).bind fun r5 => (if 0 < (lg_cmp (2 * r3) r5) then fX4_fewestForHalf_2 σ x0 x1 n (x2 + 1) else some x2))))
set_option maxHeartbeats 4000000 in
set_option maxRecDepth 100000 in
theorem jX4_fewestForHalf_2 {p : Program} {l : Launch} {e : Env} {s : State} {m : MethodId} {args : Array Value} {below : List Frame} {meth : Method} {c : Code} {D : va_G} {κ : Kp} {ad : Nat → Nat} {A : Nat → Prop} {r : Int32} (C : Mc p s m args meth c cX4_fewestForHalf 3 (some .int) wsX4_fewestForHalf RX4 D κ A) (σ : Sg) (x0 : Int32) (x1 : Int32) : ∀ (n : Nat) (x2 : Int32) (H : Heap) (locs : List Loc) (ls : Array Slot), Wd D (wsX κ ad) A s.heap H locs σ → lv_has ls 3 [(0, .int x0), (1, .int x1), (2, .int x2)] → fX4_fewestForHalf_2 σ x0 x1 n x2 = some r → W p l e { frames := 1, cells := 0, slots := 0, locals := 24 } s m args below meth c H locs 0 0 (Qi below args s D (wsX κ ad) A r σ) (F0 m 2 ls []) := by
  obtain ⟨hx, hb, hml, hr, hlk, hown, hts, hK, hA, hZ⟩ := id C
  intro n
  induction n with
  | zero =>
    intro x2 H locs ls h hl hf
    rw [fX4_fewestForHalf_2] at hf
    cases hf
  | succ n ih =>
    intro x2 H locs ls h hl hf
    rw [fX4_fewestForHalf_2] at hf
    refine lv_iload_n hx hb dX4_fewestForHalf_2 rfl (lv_at hl 2 rfl) ?_
    refine lv_iload_n hx hb dX4_fewestForHalf_3 rfl (lv_at hl 0 rfl) ?_
    refine lv_icmp_gt (tgt := 35) hx hb dX4_fewestForHalf_4 (by decide) (fun c1 => ?_) (fun c1 => ?_)
    · have hf := tk_t c1 hf
      refine lv_bipush (v := (-9)) hx hb dX4_fewestForHalf_35 (by decide) ?_
      obtain rfl := so_ok hf
      exact x_iret C h dX4_fewestForHalf_37
    · have hf := tk_f c1 hf
      refine lv_ldc2 (v := 2) hx hb hown (hts _ lkX4_fewestForHalf_24) dX4_fewestForHalf_7 ?_
      refine lv_iload_n hx hb dX4_fewestForHalf_10 rfl (lv_at hl 0 rfl) ?_
      refine lv_iload_n hx hb dX4_fewestForHalf_11 rfl (lv_at hl 1 rfl) ?_
      refine lv_isub hx hb dX4_fewestForHalf_12 ?_
      refine lv_iload_n hx hb dX4_fewestForHalf_13 rfl (lv_at hl 2 rfl) ?_
      obtain ⟨r3, hg2, hf⟩ := bd_ok hf
      refine x_sl (As := [.int (x0 - x1), .int x2]) (rest := [.long 2]) C h (kX4_waysToDraw l D κ ad (x0 - x1) x2 σ (r := r3) hg2) (fun hts => va_cwS 2 hts gX4_fewestForHalf_X4_waysToDraw rfl rfl rfl (by decide +kernel) ⟨Nat.le_of_ble_eq_true rfl, Nat.le_of_ble_eq_true rfl⟩) rfl hl.1 (Nat.le_of_ble_eq_true rfl) rfl dX4_fewestForHalf_14 (fun H locs h => ?_)
      refine lv_lmul hx hb dX4_fewestForHalf_17 ?_
      refine lv_iload_n hx hb dX4_fewestForHalf_18 rfl (lv_at hl 0 rfl) ?_
      refine lv_iload_n hx hb dX4_fewestForHalf_19 rfl (lv_at hl 2 rfl) ?_
      obtain ⟨r5, hg4, hf⟩ := bd_ok hf
      refine x_sl (As := [.int x0, .int x2]) (rest := [.long (2 * r3)]) C h (kX4_waysToDraw l D κ ad x0 x2 σ (r := r5) hg4) (fun hts => va_cwS 2 hts gX4_fewestForHalf_X4_waysToDraw rfl rfl rfl (by decide +kernel) ⟨Nat.le_of_ble_eq_true rfl, Nat.le_of_ble_eq_true rfl⟩) rfl hl.1 (Nat.le_of_ble_eq_true rfl) rfl dX4_fewestForHalf_20 (fun H locs h => ?_)
      refine W.lcmp hx hb dX4_fewestForHalf_23 ?_
      refine lv_if_gt (tgt := 29) hx hb dX4_fewestForHalf_24 (by decide) (fun c6 => ?_) (fun c6 => ?_)
      · have hf := tk_t c6 hf
        refine lv_iinc (v := (x2 + 1)) (lv' := [(2, .int (x2 + 1)), (0, .int x0), (1, .int x1)]) hx hb dX4_fewestForHalf_29 hl (k := 2) rfl rfl (by decide) rfl (fun ls hl => ?_)
        refine lv_goto (tgt := 2) hx hb dX4_fewestForHalf_32 (by decide) ?_
        exact ih (x2 + 1) _ _ _ h (lv_sub hl [1, 2, 0] rfl) hf
      · have hf := tk_f c6 hf
        refine lv_iload_n hx hb dX4_fewestForHalf_27 rfl (lv_at hl 2 rfl) ?_
        obtain rfl := so_ok hf
        exact x_iret C h dX4_fewestForHalf_28
def fX4_fewestForHalf (x0 : Int32) (x1 : Int32) (σ : Sg) : Option (Int32) :=
  fX4_fewestForHalf_2 σ x0 x1 1000 0
set_option maxHeartbeats 4000000 in
set_option maxRecDepth 100000 in
theorem kX4_fewestForHalf (l : Launch) (D : va_G) (κ : Kp) (ad : Nat → Nat) (x0 : Int32) (x1 : Int32) (σ : Sg) {r : Int32} (hf : fX4_fewestForHalf x0 x1 σ = some r) : Ci l D κ (wsX κ ad) yX4_fewestForHalf wsX4_fewestForHalf 1 24 [.int x0, .int x1] σ r σ := by
  refine Ci.of (cc := cX4_fewestForHalf) (nL := 3) (ret := (some .int)) (by decide) rfl (Nat.le_of_ble_eq_true rfl) ?_
  intro p e s m below meth c A ls C h hl
  obtain ⟨hx, hb, hml, hr, hlk, hown, hts, hK, hA, hZ⟩ := id C
  have hl : lv_has ls 3 [(0, .int x0), (1, .int x1)] := hl
  unfold fX4_fewestForHalf at hf
  refine lv_iconst (v := 0) hx hb dX4_fewestForHalf_0 (by decide) ?_
  refine lv_istore_n (lv' := [(2, .int 0), (0, .int x0), (1, .int x1)]) hx hb dX4_fewestForHalf_1 rfl hl (by decide) rfl (fun ls hl => ?_)
  exact jX4_fewestForHalf_2 C σ x0 x1 1000 0 _ _ _ h (lv_sub hl [1, 2, 0] rfl) hf

-- ===== X3_isWhole: ButtonMatch$Text.isWhole(I)Z
def fX3_isWhole (x0 : Int32) (σ : Sg) : Int32 :=
  (if x0 < 18 then 0 else (if ((x0 - 11) - (x0 - 11) / 7 * 7) = 0 then 1 else 0))
set_option maxHeartbeats 4000000 in
set_option maxRecDepth 100000 in
theorem kX3_isWhole (l : Launch) (D : va_G) (κ : Kp) (ad : Nat → Nat) (x0 : Int32) (σ : Sg) {r : Int32} (hf : fX3_isWhole x0 σ = r) : Ci l D κ (wsX κ ad) yX3_isWhole wsX3_isWhole 0 0 [.int x0] σ r σ := by
  refine Ci.of (cc := cX3_isWhole) (nL := 1) (ret := (some .boolean)) (by decide) rfl (Nat.le_of_ble_eq_true rfl) ?_
  intro p e s m below meth c A ls C h hl
  obtain ⟨hx, hb, hml, hr, hlk, hown, hts, hK, hA, hZ⟩ := id C
  have hl : lv_has ls 1 [(0, .int x0)] := hl
  unfold fX3_isWhole at hf
  refine lv_iload_n hx hb dX3_isWhole_0 rfl (lv_at hl 0 rfl) ?_
  refine lv_bipush (v := 18) hx hb dX3_isWhole_1 (by decide) ?_
  refine lv_icmp_lt (tgt := 20) hx hb dX3_isWhole_3 (by decide) (fun c1 => ?_) (fun c1 => ?_)
  · have hf := tk_t c1 hf
    refine lv_iconst (v := 0) hx hb dX3_isWhole_20 (by decide) ?_
    subst hf
    exact x_zret C rfl h dX3_isWhole_21
  · have hf := tk_f c1 hf
    refine lv_iload_n hx hb dX3_isWhole_6 rfl (lv_at hl 0 rfl) ?_
    refine lv_bipush (v := 11) hx hb dX3_isWhole_7 (by decide) ?_
    refine lv_isub hx hb dX3_isWhole_9 ?_
    refine lv_bipush (v := 7) hx hb dX3_isWhole_10 (by decide) ?_
    refine lv_irem hx hb dX3_isWhole_12 (by decide) ?_
    refine lv_if_ne (tgt := 20) hx hb dX3_isWhole_13 (by decide) (fun c2 => ?_) (fun c2 => ?_)
    · have hf := tk_f c2 hf
      refine lv_iconst (v := 0) hx hb dX3_isWhole_20 (by decide) ?_
      subst hf
      exact x_zret C rfl h dX3_isWhole_21
    · have hf := tk_t c2 hf
      refine lv_iconst (v := 1) hx hb dX3_isWhole_16 (by decide) ?_
      refine lv_goto (tgt := 21) hx hb dX3_isWhole_17 (by decide) ?_
      subst hf
      exact x_zret C rfl h dX3_isWhole_21
theorem nzX3_isWhole (x0 : Int32) (σ : Sg) : narrow .boolean (.int (fX3_isWhole x0 σ)) = .int (fX3_isWhole x0 σ) := by
  unfold fX3_isWhole
  repeat' split
  all_goals rfl

-- ===== X3_isOfSort: ButtonMatch$Text.isOfSort(CI)Z
def fX3_isOfSort (x0 : Int32) (x1 : Int32) (σ : Sg) : Int32 :=
  (if x0 = 99 then (if x1 < 48 then 0 else (if 55 < x1 then 0 else 1)) else (if x0 = 100 then (if x1 < 48 then 0 else (if 57 < x1 then 0 else 1)) else (if x0 = 104 then (if x1 = 50 then 1 else (if x1 = 52 then 1 else 0)) else (if x0 = 107 then (if x1 = 116 then 1 else (if x1 = 115 then 1 else (if x1 = 111 then 1 else 0))) else (if x1 = x0 then 1 else 0)))))
set_option maxHeartbeats 4000000 in
set_option maxRecDepth 100000 in
theorem kX3_isOfSort (l : Launch) (D : va_G) (κ : Kp) (ad : Nat → Nat) (x0 : Int32) (x1 : Int32) (σ : Sg) {r : Int32} (hf : fX3_isOfSort x0 x1 σ = r) : Ci l D κ (wsX κ ad) yX3_isOfSort wsX3_isOfSort 0 0 [.int x0, .int x1] σ r σ := by
  refine Ci.of (cc := cX3_isOfSort) (nL := 2) (ret := (some .boolean)) (by decide) rfl (Nat.le_of_ble_eq_true rfl) ?_
  intro p e s m below meth c A ls C h hl
  obtain ⟨hx, hb, hml, hr, hlk, hown, hts, hK, hA, hZ⟩ := id C
  have hl : lv_has ls 2 [(0, .int x0), (1, .int x1)] := hl
  unfold fX3_isOfSort at hf
  refine lv_iload_n hx hb dX3_isOfSort_0 rfl (lv_at hl 0 rfl) ?_
  refine lv_bipush (v := 99) hx hb dX3_isOfSort_1 (by decide) ?_
  refine lv_icmp_ne (tgt := 24) hx hb dX3_isOfSort_3 (by decide) (fun c1 => ?_) (fun c1 => ?_)
  · have hf := tk_f c1 hf
    refine lv_iload_n hx hb dX3_isOfSort_24 rfl (lv_at hl 0 rfl) ?_
    refine lv_bipush (v := 100) hx hb dX3_isOfSort_25 (by decide) ?_
    refine lv_icmp_ne (tgt := 48) hx hb dX3_isOfSort_27 (by decide) (fun c2 => ?_) (fun c2 => ?_)
    · have hf := tk_f c2 hf
      refine lv_iload_n hx hb dX3_isOfSort_48 rfl (lv_at hl 0 rfl) ?_
      refine lv_bipush (v := 104) hx hb dX3_isOfSort_49 (by decide) ?_
      refine lv_icmp_ne (tgt := 72) hx hb dX3_isOfSort_51 (by decide) (fun c3 => ?_) (fun c3 => ?_)
      · have hf := tk_f c3 hf
        refine lv_iload_n hx hb dX3_isOfSort_72 rfl (lv_at hl 0 rfl) ?_
        refine lv_bipush (v := 107) hx hb dX3_isOfSort_73 (by decide) ?_
        refine lv_icmp_ne (tgt := 102) hx hb dX3_isOfSort_75 (by decide) (fun c4 => ?_) (fun c4 => ?_)
        · have hf := tk_f c4 hf
          refine lv_iload_n hx hb dX3_isOfSort_102 rfl (lv_at hl 1 rfl) ?_
          refine lv_iload_n hx hb dX3_isOfSort_103 rfl (lv_at hl 0 rfl) ?_
          refine lv_icmp_ne (tgt := 111) hx hb dX3_isOfSort_104 (by decide) (fun c5 => ?_) (fun c5 => ?_)
          · have hf := tk_f c5 hf
            refine lv_iconst (v := 0) hx hb dX3_isOfSort_111 (by decide) ?_
            subst hf
            exact x_zret C rfl h dX3_isOfSort_112
          · have hf := tk_t c5 hf
            refine lv_iconst (v := 1) hx hb dX3_isOfSort_107 (by decide) ?_
            refine lv_goto (tgt := 112) hx hb dX3_isOfSort_108 (by decide) ?_
            subst hf
            exact x_zret C rfl h dX3_isOfSort_112
        · have hf := tk_t c4 hf
          refine lv_iload_n hx hb dX3_isOfSort_78 rfl (lv_at hl 1 rfl) ?_
          refine lv_bipush (v := 116) hx hb dX3_isOfSort_79 (by decide) ?_
          refine lv_icmp_eq (tgt := 96) hx hb dX3_isOfSort_81 (by decide) (fun c6 => ?_) (fun c6 => ?_)
          · have hf := tk_t c6 hf
            refine lv_iconst (v := 1) hx hb dX3_isOfSort_96 (by decide) ?_
            refine lv_goto (tgt := 101) hx hb dX3_isOfSort_97 (by decide) ?_
            subst hf
            exact x_zret C rfl h dX3_isOfSort_101
          · have hf := tk_f c6 hf
            refine lv_iload_n hx hb dX3_isOfSort_84 rfl (lv_at hl 1 rfl) ?_
            refine lv_bipush (v := 115) hx hb dX3_isOfSort_85 (by decide) ?_
            refine lv_icmp_eq (tgt := 96) hx hb dX3_isOfSort_87 (by decide) (fun c7 => ?_) (fun c7 => ?_)
            · have hf := tk_t c7 hf
              refine lv_iconst (v := 1) hx hb dX3_isOfSort_96 (by decide) ?_
              refine lv_goto (tgt := 101) hx hb dX3_isOfSort_97 (by decide) ?_
              subst hf
              exact x_zret C rfl h dX3_isOfSort_101
            · have hf := tk_f c7 hf
              refine lv_iload_n hx hb dX3_isOfSort_90 rfl (lv_at hl 1 rfl) ?_
              refine lv_bipush (v := 111) hx hb dX3_isOfSort_91 (by decide) ?_
              refine lv_icmp_ne (tgt := 100) hx hb dX3_isOfSort_93 (by decide) (fun c8 => ?_) (fun c8 => ?_)
              · have hf := tk_f c8 hf
                refine lv_iconst (v := 0) hx hb dX3_isOfSort_100 (by decide) ?_
                subst hf
                exact x_zret C rfl h dX3_isOfSort_101
              · have hf := tk_t c8 hf
                refine lv_iconst (v := 1) hx hb dX3_isOfSort_96 (by decide) ?_
                refine lv_goto (tgt := 101) hx hb dX3_isOfSort_97 (by decide) ?_
                subst hf
                exact x_zret C rfl h dX3_isOfSort_101
      · have hf := tk_t c3 hf
        refine lv_iload_n hx hb dX3_isOfSort_54 rfl (lv_at hl 1 rfl) ?_
        refine lv_bipush (v := 50) hx hb dX3_isOfSort_55 (by decide) ?_
        refine lv_icmp_eq (tgt := 66) hx hb dX3_isOfSort_57 (by decide) (fun c9 => ?_) (fun c9 => ?_)
        · have hf := tk_t c9 hf
          refine lv_iconst (v := 1) hx hb dX3_isOfSort_66 (by decide) ?_
          refine lv_goto (tgt := 71) hx hb dX3_isOfSort_67 (by decide) ?_
          subst hf
          exact x_zret C rfl h dX3_isOfSort_71
        · have hf := tk_f c9 hf
          refine lv_iload_n hx hb dX3_isOfSort_60 rfl (lv_at hl 1 rfl) ?_
          refine lv_bipush (v := 52) hx hb dX3_isOfSort_61 (by decide) ?_
          refine lv_icmp_ne (tgt := 70) hx hb dX3_isOfSort_63 (by decide) (fun c10 => ?_) (fun c10 => ?_)
          · have hf := tk_f c10 hf
            refine lv_iconst (v := 0) hx hb dX3_isOfSort_70 (by decide) ?_
            subst hf
            exact x_zret C rfl h dX3_isOfSort_71
          · have hf := tk_t c10 hf
            refine lv_iconst (v := 1) hx hb dX3_isOfSort_66 (by decide) ?_
            refine lv_goto (tgt := 71) hx hb dX3_isOfSort_67 (by decide) ?_
            subst hf
            exact x_zret C rfl h dX3_isOfSort_71
    · have hf := tk_t c2 hf
      refine lv_iload_n hx hb dX3_isOfSort_30 rfl (lv_at hl 1 rfl) ?_
      refine lv_bipush (v := 48) hx hb dX3_isOfSort_31 (by decide) ?_
      refine lv_icmp_lt (tgt := 46) hx hb dX3_isOfSort_33 (by decide) (fun c11 => ?_) (fun c11 => ?_)
      · have hf := tk_t c11 hf
        refine lv_iconst (v := 0) hx hb dX3_isOfSort_46 (by decide) ?_
        subst hf
        exact x_zret C rfl h dX3_isOfSort_47
      · have hf := tk_f c11 hf
        refine lv_iload_n hx hb dX3_isOfSort_36 rfl (lv_at hl 1 rfl) ?_
        refine lv_bipush (v := 57) hx hb dX3_isOfSort_37 (by decide) ?_
        refine lv_icmp_gt (tgt := 46) hx hb dX3_isOfSort_39 (by decide) (fun c12 => ?_) (fun c12 => ?_)
        · have hf := tk_t c12 hf
          refine lv_iconst (v := 0) hx hb dX3_isOfSort_46 (by decide) ?_
          subst hf
          exact x_zret C rfl h dX3_isOfSort_47
        · have hf := tk_f c12 hf
          refine lv_iconst (v := 1) hx hb dX3_isOfSort_42 (by decide) ?_
          refine lv_goto (tgt := 47) hx hb dX3_isOfSort_43 (by decide) ?_
          subst hf
          exact x_zret C rfl h dX3_isOfSort_47
  · have hf := tk_t c1 hf
    refine lv_iload_n hx hb dX3_isOfSort_6 rfl (lv_at hl 1 rfl) ?_
    refine lv_bipush (v := 48) hx hb dX3_isOfSort_7 (by decide) ?_
    refine lv_icmp_lt (tgt := 22) hx hb dX3_isOfSort_9 (by decide) (fun c13 => ?_) (fun c13 => ?_)
    · have hf := tk_t c13 hf
      refine lv_iconst (v := 0) hx hb dX3_isOfSort_22 (by decide) ?_
      subst hf
      exact x_zret C rfl h dX3_isOfSort_23
    · have hf := tk_f c13 hf
      refine lv_iload_n hx hb dX3_isOfSort_12 rfl (lv_at hl 1 rfl) ?_
      refine lv_bipush (v := 55) hx hb dX3_isOfSort_13 (by decide) ?_
      refine lv_icmp_gt (tgt := 22) hx hb dX3_isOfSort_15 (by decide) (fun c14 => ?_) (fun c14 => ?_)
      · have hf := tk_t c14 hf
        refine lv_iconst (v := 0) hx hb dX3_isOfSort_22 (by decide) ?_
        subst hf
        exact x_zret C rfl h dX3_isOfSort_23
      · have hf := tk_f c14 hf
        refine lv_iconst (v := 1) hx hb dX3_isOfSort_18 (by decide) ?_
        refine lv_goto (tgt := 23) hx hb dX3_isOfSort_19 (by decide) ?_
        subst hf
        exact x_zret C rfl h dX3_isOfSort_23
theorem nzX3_isOfSort (x0 : Int32) (x1 : Int32) (σ : Sg) : narrow .boolean (.int (fX3_isOfSort x0 x1 σ)) = .int (fX3_isOfSort x0 x1 σ) := by
  unfold fX3_isOfSort
  repeat' split
  all_goals rfl
