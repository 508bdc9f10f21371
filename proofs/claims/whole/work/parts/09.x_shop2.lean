-- ===== X2_allAsSet: ButtonMatch$Shop.allAsSet()I
theorem lkX2_allAsSet_21 : Cond.fieldLink RX2 21 "ButtonMatch$Shop" "tubeCount" "I" ∈ wsX2_allAsSet := by decide +kernel
theorem inX2_allAsSet_X2 : ∀ w ∈ wsX20, w ∈ wsX2_allAsSet := fun _ h => List.mem_cons_of_mem _ (List.mem_append_right _ h)
def fX2_allAsSet (σ : Sg) : Int32 :=
  ((1 <<< ((σ 10 2) &&& 31)) - 1)
set_option maxHeartbeats 4000000 in
set_option maxRecDepth 100000 in
theorem kX2_allAsSet (l : Launch) (D : va_G) (κ : Kp) (ad : Nat → Nat) (σ : Sg) {r : Int32} (hf : fX2_allAsSet σ = r) : Ci l D κ (wsX κ ad) yX2_allAsSet wsX2_allAsSet 0 0 [.ref (ad 10)] σ r σ := by
  refine Ci.of (cc := cX2_allAsSet) (nL := 1) (ret := (some .int)) (by decide) rfl (Nat.le_of_ble_eq_true rfl) ?_
  intro p e s m below meth c A ls C h hl
  obtain ⟨hx, hb, hml, hr, hlk, hown, hts, hK, hA, hZ⟩ := id C
  have hl : lv_has ls 1 [(0, .ref (ad 10))] := hl
  unfold fX2_allAsSet at hf
  refine lv_iconst (v := 1) hx hb dX2_allAsSet_0 (by decide) ?_
  refine lv_aload_n hx hb dX2_allAsSet_1 rfl (lv_at hl 0 rfl) ?_
  refine x_get (v := .int (σ 10 2)) C h (gX_Sp κ ad σ) rfl inX2_allAsSet_X2 2 (by decide) (hts _ lkX2_allAsSet_21) rfl dX2_allAsSet_2 ?_
  refine lv_ishl hx hb dX2_allAsSet_5 ?_
  refine lv_iconst (v := 1) hx hb dX2_allAsSet_6 (by decide) ?_
  refine lv_isub hx hb dX2_allAsSet_7 ?_
  subst hf
  exact x_iret C h dX2_allAsSet_8

-- ===== X2_signFits: ButtonMatch$Shop.signFits(LButtonMatch$Tube;I)Z
theorem nkRX2_95 : ("ButtonMatch$Shop", 95, "ButtonMatch$Tube", "holes", "I") ∈ nestL := by decide
theorem inX2_signFits_X5 : ∀ w ∈ wsX50, w ∈ wsX2_signFits := fun _ h => List.mem_cons_of_mem _ (List.mem_append_left _ (List.mem_append_right _ h))
theorem lkX2_signFits_42 : Cond.fieldLink RX2 42 "ButtonMatch$Shop" "holes" "I" ∈ wsX2_signFits := by decide +kernel
theorem inX2_signFits_X2 : ∀ w ∈ wsX20, w ∈ wsX2_signFits := fun _ h => List.mem_cons_of_mem _ (List.mem_append_right _ h)
def fX2_signFits (k1 : Nat) (x2 : Int32) (σ : Sg) : Int32 :=
  (if x2 = 0 then (if (fX5_looksColour k1 σ) = (fX2_rememberedColour σ) then 1 else 0) else (if x2 = 1 then (if (fX5_looksSize k1 σ) = (fX2_rememberedSize σ) then 1 else 0) else (if (σ (13 + k1) 3) = (σ 10 5) then 1 else 0)))
set_option maxHeartbeats 4000000 in
set_option maxRecDepth 100000 in
theorem kX2_signFits (l : Launch) (D : va_G) (κ : Kp) (ad : Nat → Nat) (k1 : Nat) (hk1 : k1 < 6) (x2 : Int32) (σ : Sg) {r : Int32} (hf : fX2_signFits k1 x2 σ = r) : Ci l D κ (wsX κ ad) yX2_signFits wsX2_signFits 2 43 [.ref (ad 10), .ref (ad (13 + k1)), .int x2] σ r σ := by
  refine Ci.of (cc := cX2_signFits) (nL := 3) (ret := (some .boolean)) (by decide) rfl (Nat.le_of_ble_eq_true rfl) ?_
  intro p e s m below meth c A ls C h hl
  obtain ⟨hx, hb, hml, hr, hlk, hown, hts, hK, hA, hZ⟩ := id C
  have hl : lv_has ls 3 [(0, .ref (ad 10)), (1, .ref (ad (13 + k1))), (2, .int x2)] := hl
  unfold fX2_signFits at hf
  refine lv_iload_n hx hb dX2_signFits_0 rfl (lv_at hl 2 rfl) ?_
  by_cases c1 : x2 = 0
  · have hf := tk_t c1 hf
    refine lv_lookup (off := 27) (tgt := 28) hx hb dX2_signFits_1 (by decide) (by rw [c1]; rfl) (by decide) ?_
    refine lv_aload_n hx hb dX2_signFits_28 rfl (lv_at hl 1 rfl) ?_
    refine x_vi (As := []) (rest := []) C h (gX_Tu κ ad σ hk1) rfl (kX5_looksColour l D κ ad k1 hk1 σ (r := (fX5_looksColour k1 σ)) rfl) (fun hts => cwV 0 hts gX2_signFits_X5_looksColour rfl rfl rfl (by decide +kernel) ⟨Nat.le_of_ble_eq_true rfl, Nat.le_of_ble_eq_true rfl⟩) rfl hl.1 (Nat.le_of_ble_eq_true rfl) rfl dX2_signFits_29 (fun H locs h => ?_)
    refine lv_aload_n hx hb dX2_signFits_32 rfl (lv_at hl 0 rfl) ?_
    refine x_vi (As := []) (rest := [.int (fX5_looksColour k1 σ)]) C h (gX_Sp κ ad σ) rfl (kX2_rememberedColour l D κ ad σ (r := (fX2_rememberedColour σ)) rfl) (fun hts => cwV 0 hts gX2_signFits_X2_rememberedColour rfl rfl rfl (by decide +kernel) ⟨Nat.le_of_ble_eq_true rfl, Nat.le_of_ble_eq_true rfl⟩) rfl hl.1 (Nat.le_of_ble_eq_true rfl) rfl dX2_signFits_33 (fun H locs h => ?_)
    refine lv_icmp_ne (tgt := 43) hx hb dX2_signFits_36 (by decide) (fun c2 => ?_) (fun c2 => ?_)
    · have hf := tk_f c2 hf
      refine lv_iconst (v := 0) hx hb dX2_signFits_43 (by decide) ?_
      subst hf
      exact x_zret C rfl h dX2_signFits_44
    · have hf := tk_t c2 hf
      refine lv_iconst (v := 1) hx hb dX2_signFits_39 (by decide) ?_
      refine lv_goto (tgt := 44) hx hb dX2_signFits_40 (by decide) ?_
      subst hf
      exact x_zret C rfl h dX2_signFits_44
  have hf := tk_f c1 hf
  by_cases c3 : x2 = 1
  · have hf := tk_t c3 hf
    refine lv_lookup (off := 44) (tgt := 45) hx hb dX2_signFits_1 (by decide) (by rw [c3]; rfl) (by decide) ?_
    refine lv_aload_n hx hb dX2_signFits_45 rfl (lv_at hl 1 rfl) ?_
    refine x_vi (As := []) (rest := []) C h (gX_Tu κ ad σ hk1) rfl (kX5_looksSize l D κ ad k1 hk1 σ (r := (fX5_looksSize k1 σ)) rfl) (fun hts => cwV 0 hts gX2_signFits_X5_looksSize rfl rfl rfl (by decide +kernel) ⟨Nat.le_of_ble_eq_true rfl, Nat.le_of_ble_eq_true rfl⟩) rfl hl.1 (Nat.le_of_ble_eq_true rfl) rfl dX2_signFits_46 (fun H locs h => ?_)
    refine lv_aload_n hx hb dX2_signFits_49 rfl (lv_at hl 0 rfl) ?_
    refine x_vi (As := []) (rest := [.int (fX5_looksSize k1 σ)]) C h (gX_Sp κ ad σ) rfl (kX2_rememberedSize l D κ ad σ (r := (fX2_rememberedSize σ)) rfl) (fun hts => cwV 0 hts gX2_signFits_X2_rememberedSize rfl rfl rfl (by decide +kernel) ⟨Nat.le_of_ble_eq_true rfl, Nat.le_of_ble_eq_true rfl⟩) rfl hl.1 (Nat.le_of_ble_eq_true rfl) rfl dX2_signFits_50 (fun H locs h => ?_)
    refine lv_icmp_ne (tgt := 60) hx hb dX2_signFits_53 (by decide) (fun c4 => ?_) (fun c4 => ?_)
    · have hf := tk_f c4 hf
      refine lv_iconst (v := 0) hx hb dX2_signFits_60 (by decide) ?_
      subst hf
      exact x_zret C rfl h dX2_signFits_61
    · have hf := tk_t c4 hf
      refine lv_iconst (v := 1) hx hb dX2_signFits_56 (by decide) ?_
      refine lv_goto (tgt := 61) hx hb dX2_signFits_57 (by decide) ?_
      subst hf
      exact x_zret C rfl h dX2_signFits_61
  have hf := tk_f c3 hf
  have ec1 : ¬ x2.toInt = 0 := sw_ne c1
  have ec3 : ¬ x2.toInt = 1 := sw_ne c3
  refine lv_lookup (off := 61) (tgt := 62) hx hb dX2_signFits_1 (by decide) (sw_lk2 ec1 ec3) (by decide) ?_
  refine lv_aload_n hx hb dX2_signFits_62 rfl (lv_at hl 1 rfl) ?_
  refine x_getN (v := .int (σ (13 + k1) 3)) C h (gX_Tu κ ad σ hk1) rfl inX2_signFits_X5 3 (by decide) ((hZ.2.2.2.2.2.2.2.1 _ nkRX2_95).use rfl) rfl dX2_signFits_63 ?_
  refine lv_aload_n hx hb dX2_signFits_66 rfl (lv_at hl 0 rfl) ?_
  refine x_get (v := .int (σ 10 5)) C h (gX_Sp κ ad σ) rfl inX2_signFits_X2 5 (by decide) (hts _ lkX2_signFits_42) rfl dX2_signFits_67 ?_
  refine lv_icmp_ne (tgt := 77) hx hb dX2_signFits_70 (by decide) (fun c5 => ?_) (fun c5 => ?_)
  · have hf := tk_f c5 hf
    refine lv_iconst (v := 0) hx hb dX2_signFits_77 (by decide) ?_
    subst hf
    exact x_zret C rfl h dX2_signFits_78
  · have hf := tk_t c5 hf
    refine lv_iconst (v := 1) hx hb dX2_signFits_73 (by decide) ?_
    refine lv_goto (tgt := 78) hx hb dX2_signFits_74 (by decide) ?_
    subst hf
    exact x_zret C rfl h dX2_signFits_78
theorem nzX2_signFits (k1 : Nat) (x2 : Int32) (σ : Sg) : narrow .boolean (.int (fX2_signFits k1 x2 σ)) = .int (fX2_signFits k1 x2 σ) := by
  unfold fX2_signFits
  repeat' split
  all_goals rfl

-- ===== X2_sifted: ButtonMatch$Shop.sifted(II)I
theorem lkX2_sifted_21 : Cond.fieldLink RX2 21 "ButtonMatch$Shop" "tubeCount" "I" ∈ wsX2_sifted := by decide +kernel
theorem inX2_sifted_X2 : ∀ w ∈ wsX20, w ∈ wsX2_sifted := fun _ h => List.mem_cons_of_mem _ (List.mem_append_left _ (List.mem_append_right _ h))
theorem lkX2_sifted_11 : Cond.fieldLink RX2 11 "ButtonMatch$Shop" "tubes" "[LButtonMatch$Tube;" ∈ wsX2_sifted := by decide +kernel
def fX2_sifted_5 (σ : Sg) (x1 : Int32) (x2 : Int32) : Nat → Int32 → Int32 → Option (Int32)
  | 0, _, _ => none
  | n + 1, x3, x4 => (if (σ 10 2) ≤ x4 then some x3 else (if ((x1 >>> (x4 &&& 31)) &&& 1) = 0 then fX2_sifted_5 σ x1 x2 n x3 (x4 + 1) else (if gIn x4 6 then (if (fX2_signFits x4.toNatClampNeg x2 σ) = 0 then fX2_sifted_5 σ x1 x2 n x3 (x4 + 1) else fX2_sifted_5 σ x1 x2 n (x3 ||| (1 <<< (x4 &&& 31))) (x4 + 1)) else none)))
set_option maxHeartbeats 4000000 in
set_option maxRecDepth 100000 in
theorem jX2_sifted_5 {p : Program} {l : Launch} {e : Env} {s : State} {m : MethodId} {args : Array Value} {below : List Frame} {meth : Method} {c : Code} {D : va_G} {κ : Kp} {ad : Nat → Nat} {A : Nat → Prop} {r : Int32} (C : Mc p s m args meth c cX2_sifted 5 (some .int) wsX2_sifted RX2 D κ A) (σ : Sg) (x1 : Int32) (x2 : Int32) : ∀ (n : Nat) (x3 : Int32) (x4 : Int32) (H : Heap) (locs : List Loc) (ls : Array Slot), Wd D (wsX κ ad) A s.heap H locs σ → lv_has ls 5 [(0, .ref (ad 10)), (1, .int x1), (2, .int x2), (3, .int x3), (4, .int x4)] → fX2_sifted_5 σ x1 x2 n x3 x4 = some r → W p l e { frames := 3, cells := 0, slots := 0, locals := 65 } s m args below meth c H locs 0 0 (Qi below args s D (wsX κ ad) A r σ) (F0 m 5 ls []) := by
  obtain ⟨hx, hb, hml, hr, hlk, hown, hts, hK, hA, hZ⟩ := id C
  intro n
  induction n with
  | zero =>
    intro x3 x4 H locs ls h hl hf
    rw [fX2_sifted_5] at hf
    cases hf
  | succ n ih =>
    intro x3 x4 H locs ls h hl hf
    rw [fX2_sifted_5] at hf
    refine lv_iload hx hb dX2_sifted_5 (lv_at hl 4 rfl) ?_
    refine lv_aload_n hx hb dX2_sifted_7 rfl (lv_at hl 0 rfl) ?_
    refine x_get (v := .int (σ 10 2)) C h (gX_Sp κ ad σ) rfl inX2_sifted_X2 2 (by decide) (hts _ lkX2_sifted_21) rfl dX2_sifted_8 ?_
    refine lv_icmp_ge (tgt := 51) hx hb dX2_sifted_11 (by decide) (fun c1 => ?_) (fun c1 => ?_)
    · have hf := tk_t c1 hf
      refine lv_iload_n hx hb dX2_sifted_51 rfl (lv_at hl 3 rfl) ?_
      obtain rfl := so_ok hf
      exact x_iret C h dX2_sifted_52
    · have hf := tk_f c1 hf
      refine lv_iload_n hx hb dX2_sifted_14 rfl (lv_at hl 1 rfl) ?_
      refine lv_iload hx hb dX2_sifted_15 (lv_at hl 4 rfl) ?_
      refine lv_ishr hx hb dX2_sifted_17 ?_
      refine lv_iconst (v := 1) hx hb dX2_sifted_18 (by decide) ?_
      refine lv_iand hx hb dX2_sifted_19 ?_
      refine lv_if_eq (tgt := 45) hx hb dX2_sifted_20 (by decide) (fun c2 => ?_) (fun c2 => ?_)
      · have hf := tk_t c2 hf
        refine lv_iinc (v := (x4 + 1)) (lv' := [(4, .int (x4 + 1)), (0, .ref (ad 10)), (1, .int x1), (2, .int x2), (3, .int x3)]) hx hb dX2_sifted_45 hl (k := 4) rfl rfl (by decide) rfl (fun ls hl => ?_)
        refine lv_goto (tgt := 5) hx hb dX2_sifted_48 (by decide) ?_
        exact ih x3 (x4 + 1) _ _ _ h (lv_sub hl [1, 2, 3, 4, 0] rfl) hf
      · have hf := tk_f c2 hf
        refine lv_aload_n hx hb dX2_sifted_23 rfl (lv_at hl 0 rfl) ?_
        refine lv_aload_n hx hb dX2_sifted_24 rfl (lv_at hl 0 rfl) ?_
        refine x_get (v := .ref (ad 11)) C h (gX_Sp κ ad σ) rfl inX2_sifted_X2 0 (by decide) (hts _ lkX2_sifted_11) rfl dX2_sifted_25 ?_
        refine lv_iload hx hb dX2_sifted_28 (lv_at hl 4 rfl) ?_
        obtain ⟨g3, hf⟩ := gd_ok hf
        have b4 : x4.toNatClampNeg < 6 := vp_lt g3
        refine x_aald (t0 := 3) (cn := "ButtonMatch$Tube") (b := ad (13 + x4.toNatClampNeg)) C h (gX_arT κ ad σ) rfl g3 rfl dX2_sifted_30 ?_
        refine lv_iload_n hx hb dX2_sifted_31 rfl (lv_at hl 2 rfl) ?_
        refine x_vi (As := [.ref (ad (13 + x4.toNatClampNeg)), .int x2]) (rest := []) C h (gX_Sp κ ad σ) rfl (kX2_signFits l D κ ad x4.toNatClampNeg b4 x2 σ (r := (fX2_signFits x4.toNatClampNeg x2 σ)) rfl) (fun hts => cwV 2 hts gX2_sifted_X2_signFits rfl rfl rfl (by decide +kernel) ⟨Nat.le_of_ble_eq_true rfl, Nat.le_of_ble_eq_true rfl⟩) rfl hl.1 (Nat.le_of_ble_eq_true rfl) rfl dX2_sifted_32 (fun H locs h => ?_)
        refine lv_if_eq (tgt := 45) hx hb dX2_sifted_35 (by decide) (fun c5 => ?_) (fun c5 => ?_)
        · have hf := tk_t c5 hf
          refine lv_iinc (v := (x4 + 1)) (lv' := [(4, .int (x4 + 1)), (0, .ref (ad 10)), (1, .int x1), (2, .int x2), (3, .int x3)]) hx hb dX2_sifted_45 hl (k := 4) rfl rfl (by decide) rfl (fun ls hl => ?_)
          refine lv_goto (tgt := 5) hx hb dX2_sifted_48 (by decide) ?_
          exact ih x3 (x4 + 1) _ _ _ h (lv_sub hl [1, 2, 3, 4, 0] rfl) hf
        · have hf := tk_f c5 hf
          refine lv_iload_n hx hb dX2_sifted_38 rfl (lv_at hl 3 rfl) ?_
          refine lv_iconst (v := 1) hx hb dX2_sifted_39 (by decide) ?_
          refine lv_iload hx hb dX2_sifted_40 (lv_at hl 4 rfl) ?_
          refine lv_ishl hx hb dX2_sifted_42 ?_
          refine lv_ior hx hb dX2_sifted_43 ?_
          refine lv_istore_n (lv' := [(3, .int (x3 ||| (1 <<< (x4 &&& 31)))), (0, .ref (ad 10)), (1, .int x1), (2, .int x2), (4, .int x4)]) hx hb dX2_sifted_44 rfl hl (by decide) rfl (fun ls hl => ?_)
          refine lv_iinc (v := (x4 + 1)) (lv' := [(4, .int (x4 + 1)), (3, .int (x3 ||| (1 <<< (x4 &&& 31)))), (0, .ref (ad 10)), (1, .int x1), (2, .int x2)]) hx hb dX2_sifted_45 hl (k := 4) rfl rfl (by decide) rfl (fun ls hl => ?_)
          refine lv_goto (tgt := 5) hx hb dX2_sifted_48 (by decide) ?_
          exact ih (x3 ||| (1 <<< (x4 &&& 31))) (x4 + 1) _ _ _ h (lv_sub hl [2, 3, 4, 1, 0] rfl) hf
def fX2_sifted (x1 : Int32) (x2 : Int32) (σ : Sg) : Option (Int32) :=
  fX2_sifted_5 σ x1 x2 1000 0 0
set_option maxHeartbeats 4000000 in
set_option maxRecDepth 100000 in
theorem kX2_sifted (l : Launch) (D : va_G) (κ : Kp) (ad : Nat → Nat) (x1 : Int32) (x2 : Int32) (σ : Sg) {r : Int32} (hf : fX2_sifted x1 x2 σ = some r) : Ci l D κ (wsX κ ad) yX2_sifted wsX2_sifted 3 65 [.ref (ad 10), .int x1, .int x2] σ r σ := by
  refine Ci.of (cc := cX2_sifted) (nL := 5) (ret := (some .int)) (by decide) rfl (Nat.le_of_ble_eq_true rfl) ?_
  intro p e s m below meth c A ls C h hl
  obtain ⟨hx, hb, hml, hr, hlk, hown, hts, hK, hA, hZ⟩ := id C
  have hl : lv_has ls 5 [(0, .ref (ad 10)), (1, .int x1), (2, .int x2)] := hl
  unfold fX2_sifted at hf
  refine lv_iconst (v := 0) hx hb dX2_sifted_0 (by decide) ?_
  refine lv_istore_n (lv' := [(3, .int 0), (0, .ref (ad 10)), (1, .int x1), (2, .int x2)]) hx hb dX2_sifted_1 rfl hl (by decide) rfl (fun ls hl => ?_)
  refine lv_iconst (v := 0) hx hb dX2_sifted_2 (by decide) ?_
  refine lv_istore (lv' := [(4, .int 0), (3, .int 0), (0, .ref (ad 10)), (1, .int x1), (2, .int x2)]) hx hb dX2_sifted_3 hl (by decide) rfl (fun ls hl => ?_)
  exact jX2_sifted_5 C σ x1 x2 1000 0 0 _ _ _ h (lv_sub hl [2, 3, 4, 1, 0] rfl) hf

-- ===== X2_sieved: ButtonMatch$Shop.sieved([IIII)I
def fX2_sieved_12 (σ : Sg) (k1 : Nat) (x2 : Int32) (x3 : Int32) (x4 : Int32) : Nat → Int32 → Int32 → Int32 → Option (Int32)
  | 0, _, _, _ => none
  | n + 1, x5, x6, x7 => (if x3 ≤ x7 then (if x4 = 0 then some x6 else some x5) else (if x2 < 0 then (if x4 = 0 then some x6 else some x5) else (if 60 ≤ (x2 + x7) then (if x4 = 0 then some x6 else some x5) else (if gIn (x2 + x7) 60 then ((fX2_sifted x5 (σ (6 + k1) ((x2 + x7).toNatClampNeg)) σ).bind fun r9 => fX2_sieved_12 σ k1 x2 x3 x4 n r9 (x6 + (fJ6_bitCount_0f7a4 x5 σ)) (x7 + 1)) else none))))
set_option maxHeartbeats 4000000 in
set_option maxRecDepth 100000 in
theorem jX2_sieved_12 {p : Program} {l : Launch} {e : Env} {s : State} {m : MethodId} {args : Array Value} {below : List Frame} {meth : Method} {c : Code} {D : va_G} {κ : Kp} {ad : Nat → Nat} {A : Nat → Prop} {r : Int32} (C : Mc p s m args meth c cX2_sieved 8 (some .int) wsX2_sieved RX2 D κ A) (σ : Sg) (k1 : Nat) (hk1 : k1 < 4) (x2 : Int32) (x3 : Int32) (x4 : Int32) : ∀ (n : Nat) (x5 : Int32) (x6 : Int32) (x7 : Int32) (H : Heap) (locs : List Loc) (ls : Array Slot), Wd D (wsX κ ad) A s.heap H locs σ → lv_has ls 8 [(0, .ref (ad 10)), (1, .ref (ad (6 + k1))), (2, .int x2), (3, .int x3), (4, .int x4), (5, .int x5), (6, .int x6), (7, .int x7)] → fX2_sieved_12 σ k1 x2 x3 x4 n x5 x6 x7 = some r → W p l e { frames := 4, cells := 0, slots := 0, locals := 89 } s m args below meth c H locs 0 0 (Qi below args s D (wsX κ ad) A r σ) (F0 m 12 ls []) := by
  obtain ⟨hx, hb, hml, hr, hlk, hown, hts, hK, hA, hZ⟩ := id C
  intro n
  induction n with
  | zero =>
    intro x5 x6 x7 H locs ls h hl hf
    rw [fX2_sieved_12] at hf
    cases hf
  | succ n ih =>
    intro x5 x6 x7 H locs ls h hl hf
    rw [fX2_sieved_12] at hf
    refine lv_iload hx hb dX2_sieved_12 (lv_at hl 7 rfl) ?_
    refine lv_iload_n hx hb dX2_sieved_14 rfl (lv_at hl 3 rfl) ?_
    refine lv_icmp_ge (tgt := 61) hx hb dX2_sieved_15 (by decide) (fun c1 => ?_) (fun c1 => ?_)
    · have hf := tk_t c1 hf
      refine lv_iload hx hb dX2_sieved_61 (lv_at hl 4 rfl) ?_
      refine lv_if_ne (tgt := 71) hx hb dX2_sieved_63 (by decide) (fun c2 => ?_) (fun c2 => ?_)
      · have hf := tk_f c2 hf
        refine lv_iload hx hb dX2_sieved_71 (lv_at hl 5 rfl) ?_
        obtain rfl := so_ok hf
        exact x_iret C h dX2_sieved_73
      · have hf := tk_t c2 hf
        refine lv_iload hx hb dX2_sieved_66 (lv_at hl 6 rfl) ?_
        refine lv_goto (tgt := 73) hx hb dX2_sieved_68 (by decide) ?_
        obtain rfl := so_ok hf
        exact x_iret C h dX2_sieved_73
    · have hf := tk_f c1 hf
      refine lv_iload_n hx hb dX2_sieved_18 rfl (lv_at hl 2 rfl) ?_
      refine lv_if_lt (tgt := 61) hx hb dX2_sieved_19 (by decide) (fun c3 => ?_) (fun c3 => ?_)
      · have hf := tk_t c3 hf
        refine lv_iload hx hb dX2_sieved_61 (lv_at hl 4 rfl) ?_
        refine lv_if_ne (tgt := 71) hx hb dX2_sieved_63 (by decide) (fun c4 => ?_) (fun c4 => ?_)
        · have hf := tk_f c4 hf
          refine lv_iload hx hb dX2_sieved_71 (lv_at hl 5 rfl) ?_
          obtain rfl := so_ok hf
          exact x_iret C h dX2_sieved_73
        · have hf := tk_t c4 hf
          refine lv_iload hx hb dX2_sieved_66 (lv_at hl 6 rfl) ?_
          refine lv_goto (tgt := 73) hx hb dX2_sieved_68 (by decide) ?_
          obtain rfl := so_ok hf
          exact x_iret C h dX2_sieved_73
      · have hf := tk_f c3 hf
        refine lv_iload_n hx hb dX2_sieved_22 rfl (lv_at hl 2 rfl) ?_
        refine lv_iload hx hb dX2_sieved_23 (lv_at hl 7 rfl) ?_
        refine lv_iadd hx hb dX2_sieved_25 ?_
        refine lv_aload_n hx hb dX2_sieved_26 rfl (lv_at hl 1 rfl) ?_
        refine x_alen (v := 60) (t0 := 0) C h (gX_cl κ ad σ hk1) rfl rfl dX2_sieved_27 ?_
        refine lv_icmp_ge (tgt := 61) hx hb dX2_sieved_28 (by decide) (fun c5 => ?_) (fun c5 => ?_)
        · have hf := tk_t c5 hf
          refine lv_iload hx hb dX2_sieved_61 (lv_at hl 4 rfl) ?_
          refine lv_if_ne (tgt := 71) hx hb dX2_sieved_63 (by decide) (fun c6 => ?_) (fun c6 => ?_)
          · have hf := tk_f c6 hf
            refine lv_iload hx hb dX2_sieved_71 (lv_at hl 5 rfl) ?_
            obtain rfl := so_ok hf
            exact x_iret C h dX2_sieved_73
          · have hf := tk_t c6 hf
            refine lv_iload hx hb dX2_sieved_66 (lv_at hl 6 rfl) ?_
            refine lv_goto (tgt := 73) hx hb dX2_sieved_68 (by decide) ?_
            obtain rfl := so_ok hf
            exact x_iret C h dX2_sieved_73
        · have hf := tk_f c5 hf
          refine lv_iload hx hb dX2_sieved_31 (lv_at hl 6 rfl) ?_
          refine lv_iload hx hb dX2_sieved_33 (lv_at hl 5 rfl) ?_
          refine x_si (As := [.int x5]) (rest := [.int x6]) C h (kJ6_bitCount_0f7a4 l D κ ad x5 σ (r := (fJ6_bitCount_0f7a4 x5 σ)) rfl) (fun hts => va_cwS 1 hts gX2_sieved_J6_bitCount_0f7a4 rfl rfl rfl (by decide +kernel) ⟨Nat.le_of_ble_eq_true rfl, Nat.le_of_ble_eq_true rfl⟩) rfl hl.1 (Nat.le_of_ble_eq_true rfl) rfl dX2_sieved_35 (fun H locs h => ?_)
          refine lv_iadd hx hb dX2_sieved_38 ?_
          refine lv_istore (lv' := [(6, .int (x6 + (fJ6_bitCount_0f7a4 x5 σ))), (0, .ref (ad 10)), (1, .ref (ad (6 + k1))), (2, .int x2), (3, .int x3), (4, .int x4), (5, .int x5), (7, .int x7)]) hx hb dX2_sieved_39 hl (by decide) rfl (fun ls hl => ?_)
          refine lv_aload_n hx hb dX2_sieved_41 rfl (lv_at hl 1 rfl) ?_
          refine lv_iload hx hb dX2_sieved_42 (lv_at hl 6 rfl) ?_
          refine lv_aload_n hx hb dX2_sieved_44 rfl (lv_at hl 2 rfl) ?_
          refine lv_iload_n hx hb dX2_sieved_45 rfl (lv_at hl 3 rfl) ?_
          refine lv_iload hx hb dX2_sieved_46 (lv_at hl 7 rfl) ?_
          refine lv_iadd hx hb dX2_sieved_48 ?_
          obtain ⟨g7, hf⟩ := gd_ok hf
          refine x_iald (v := (σ (6 + k1) ((x2 + x7).toNatClampNeg))) C h (gX_cl κ ad σ hk1) g7 rfl dX2_sieved_49 ?_
          obtain ⟨r9, hg8, hf⟩ := bd_ok hf
          refine x_vi (As := [.int x5, .int (σ (6 + k1) ((x2 + x7).toNatClampNeg))]) (rest := []) C h (gX_Sp κ ad σ) rfl (kX2_sifted l D κ ad x5 (σ (6 + k1) ((x2 + x7).toNatClampNeg)) σ (r := r9) hg8) (fun hts => cwV 2 hts gX2_sieved_X2_sifted rfl rfl rfl (by decide +kernel) ⟨Nat.le_of_ble_eq_true rfl, Nat.le_of_ble_eq_true rfl⟩) rfl hl.1 (Nat.le_of_ble_eq_true rfl) rfl dX2_sieved_50 (fun H locs h => ?_)
          refine lv_istore (lv' := [(5, .int r9), (6, .int (x6 + (fJ6_bitCount_0f7a4 x5 σ))), (0, .ref (ad 10)), (1, .ref (ad (6 + k1))), (2, .int x2), (3, .int x3), (4, .int x4), (7, .int x7)]) hx hb dX2_sieved_53 hl (by decide) rfl (fun ls hl => ?_)
          refine lv_iinc (v := (x7 + 1)) (lv' := [(7, .int (x7 + 1)), (5, .int r9), (6, .int (x6 + (fJ6_bitCount_0f7a4 x5 σ))), (0, .ref (ad 10)), (1, .ref (ad (6 + k1))), (2, .int x2), (3, .int x3), (4, .int x4)]) hx hb dX2_sieved_55 hl (k := 7) rfl rfl (by decide) rfl (fun ls hl => ?_)
          refine lv_goto (tgt := 12) hx hb dX2_sieved_58 (by decide) ?_
          exact ih r9 (x6 + (fJ6_bitCount_0f7a4 x5 σ)) (x7 + 1) _ _ _ h (lv_sub hl [3, 4, 5, 6, 7, 1, 2, 0] rfl) hf
def fX2_sieved (k1 : Nat) (x2 : Int32) (x3 : Int32) (x4 : Int32) (σ : Sg) : Option (Int32) :=
  fX2_sieved_12 σ k1 x2 x3 x4 1000 (fX2_allAsSet σ) 0 0
set_option maxHeartbeats 4000000 in
set_option maxRecDepth 100000 in
theorem kX2_sieved (l : Launch) (D : va_G) (κ : Kp) (ad : Nat → Nat) (k1 : Nat) (hk1 : k1 < 4) (x2 : Int32) (x3 : Int32) (x4 : Int32) (σ : Sg) {r : Int32} (hf : fX2_sieved k1 x2 x3 x4 σ = some r) : Ci l D κ (wsX κ ad) yX2_sieved wsX2_sieved 4 89 [.ref (ad 10), .ref (ad (6 + k1)), .int x2, .int x3, .int x4] σ r σ := by
  refine Ci.of (cc := cX2_sieved) (nL := 8) (ret := (some .int)) (by decide) rfl (Nat.le_of_ble_eq_true rfl) ?_
  intro p e s m below meth c A ls C h hl
  obtain ⟨hx, hb, hml, hr, hlk, hown, hts, hK, hA, hZ⟩ := id C
  have hl : lv_has ls 8 [(0, .ref (ad 10)), (1, .ref (ad (6 + k1))), (2, .int x2), (3, .int x3), (4, .int x4)] := hl
  unfold fX2_sieved at hf
  refine lv_aload_n hx hb dX2_sieved_0 rfl (lv_at hl 0 rfl) ?_
  refine x_vi (As := []) (rest := []) C h (gX_Sp κ ad σ) rfl (kX2_allAsSet l D κ ad σ (r := (fX2_allAsSet σ)) rfl) (fun hts => cwV 0 hts gX2_sieved_X2_allAsSet rfl rfl rfl (by decide +kernel) ⟨Nat.le_of_ble_eq_true rfl, Nat.le_of_ble_eq_true rfl⟩) rfl hl.1 (Nat.le_of_ble_eq_true rfl) rfl dX2_sieved_1 (fun H locs h => ?_)
  refine lv_istore (lv' := [(5, .int (fX2_allAsSet σ)), (0, .ref (ad 10)), (1, .ref (ad (6 + k1))), (2, .int x2), (3, .int x3), (4, .int x4)]) hx hb dX2_sieved_4 hl (by decide) rfl (fun ls hl => ?_)
  refine lv_iconst (v := 0) hx hb dX2_sieved_6 (by decide) ?_
  refine lv_istore (lv' := [(6, .int 0), (5, .int (fX2_allAsSet σ)), (0, .ref (ad 10)), (1, .ref (ad (6 + k1))), (2, .int x2), (3, .int x3), (4, .int x4)]) hx hb dX2_sieved_7 hl (by decide) rfl (fun ls hl => ?_)
  refine lv_iconst (v := 0) hx hb dX2_sieved_9 (by decide) ?_
  refine lv_istore (lv' := [(7, .int 0), (6, .int 0), (5, .int (fX2_allAsSet σ)), (0, .ref (ad 10)), (1, .ref (ad (6 + k1))), (2, .int x2), (3, .int x3), (4, .int x4)]) hx hb dX2_sieved_10 hl (by decide) rfl (fun ls hl => ?_)
  exact jX2_sieved_12 C σ k1 hk1 x2 x3 x4 1000 (fX2_allAsSet σ) 0 0 _ _ _ h (lv_sub hl [3, 4, 5, 6, 7, 2, 1, 0] rfl) hf

-- ===== X2_sieved_so: ButtonMatch$Shop.sieved([IIII)I
def fX2_sieved_so_12 (σ : Sg) (x2 : Int32) (x3 : Int32) (x4 : Int32) : Nat → Int32 → Int32 → Int32 → Option (Int32)
  | 0, _, _, _ => none
  | n + 1, x5, x6, x7 => (if x3 ≤ x7 then (if x4 = 0 then some x6 else some x5) else (if x2 < 0 then (if x4 = 0 then some x6 else some x5) else (if 18 ≤ (x2 + x7) then (if x4 = 0 then some x6 else some x5) else (if gIn (x2 + x7) 18 then ((fX2_sifted x5 (soT (x2 + x7).toNatClampNeg) σ).bind fun r9 => fX2_sieved_so_12 σ x2 x3 x4 n r9 (x6 + (fJ6_bitCount_0f7a4 x5 σ)) (x7 + 1)) else none))))
set_option maxHeartbeats 4000000 in
set_option maxRecDepth 100000 in
theorem jX2_sieved_so_12 {p : Program} {l : Launch} {e : Env} {s : State} {m : MethodId} {args : Array Value} {below : List Frame} {meth : Method} {c : Code} {D : va_G} {κ : Kp} {ad : Nat → Nat} {A : Nat → Prop} {r : Int32} (C : Mc p s m args meth c cX2_sieved 8 (some .int) wsX2_sieved RX2 D κ A) (σ : Sg) (x2 : Int32) (x3 : Int32) (x4 : Int32) : ∀ (n : Nat) (x5 : Int32) (x6 : Int32) (x7 : Int32) (H : Heap) (locs : List Loc) (ls : Array Slot), Wd D (wsX κ ad) A s.heap H locs σ → lv_has ls 8 [(0, .ref (ad 10)), (1, .ref (κ.2 0)), (2, .int x2), (3, .int x3), (4, .int x4), (5, .int x5), (6, .int x6), (7, .int x7)] → fX2_sieved_so_12 σ x2 x3 x4 n x5 x6 x7 = some r → W p l e { frames := 4, cells := 0, slots := 0, locals := 89 } s m args below meth c H locs 0 0 (Qi below args s D (wsX κ ad) A r σ) (F0 m 12 ls []) := by
  obtain ⟨hx, hb, hml, hr, hlk, hown, hts, hK, hA, hZ⟩ := id C
  intro n
  induction n with
  | zero =>
    intro x5 x6 x7 H locs ls h hl hf
    rw [fX2_sieved_so_12] at hf
    cases hf
  | succ n ih =>
    intro x5 x6 x7 H locs ls h hl hf
    rw [fX2_sieved_so_12] at hf
    refine lv_iload hx hb dX2_sieved_12 (lv_at hl 7 rfl) ?_
    refine lv_iload_n hx hb dX2_sieved_14 rfl (lv_at hl 3 rfl) ?_
    refine lv_icmp_ge (tgt := 61) hx hb dX2_sieved_15 (by decide) (fun c1 => ?_) (fun c1 => ?_)
    · have hf := tk_t c1 hf
      refine lv_iload hx hb dX2_sieved_61 (lv_at hl 4 rfl) ?_
      refine lv_if_ne (tgt := 71) hx hb dX2_sieved_63 (by decide) (fun c2 => ?_) (fun c2 => ?_)
      · have hf := tk_f c2 hf
        refine lv_iload hx hb dX2_sieved_71 (lv_at hl 5 rfl) ?_
        obtain rfl := so_ok hf
        exact x_iret C h dX2_sieved_73
      · have hf := tk_t c2 hf
        refine lv_iload hx hb dX2_sieved_66 (lv_at hl 6 rfl) ?_
        refine lv_goto (tgt := 73) hx hb dX2_sieved_68 (by decide) ?_
        obtain rfl := so_ok hf
        exact x_iret C h dX2_sieved_73
    · have hf := tk_f c1 hf
      refine lv_iload_n hx hb dX2_sieved_18 rfl (lv_at hl 2 rfl) ?_
      refine lv_if_lt (tgt := 61) hx hb dX2_sieved_19 (by decide) (fun c3 => ?_) (fun c3 => ?_)
      · have hf := tk_t c3 hf
        refine lv_iload hx hb dX2_sieved_61 (lv_at hl 4 rfl) ?_
        refine lv_if_ne (tgt := 71) hx hb dX2_sieved_63 (by decide) (fun c4 => ?_) (fun c4 => ?_)
        · have hf := tk_f c4 hf
          refine lv_iload hx hb dX2_sieved_71 (lv_at hl 5 rfl) ?_
          obtain rfl := so_ok hf
          exact x_iret C h dX2_sieved_73
        · have hf := tk_t c4 hf
          refine lv_iload hx hb dX2_sieved_66 (lv_at hl 6 rfl) ?_
          refine lv_goto (tgt := 73) hx hb dX2_sieved_68 (by decide) ?_
          obtain rfl := so_ok hf
          exact x_iret C h dX2_sieved_73
      · have hf := tk_f c3 hf
        refine lv_iload_n hx hb dX2_sieved_22 rfl (lv_at hl 2 rfl) ?_
        refine lv_iload hx hb dX2_sieved_23 (lv_at hl 7 rfl) ?_
        refine lv_iadd hx hb dX2_sieved_25 ?_
        refine lv_aload_n hx hb dX2_sieved_26 rfl (lv_at hl 1 rfl) ?_
        refine va_tlen (v := 18) hx hb hZ.2.1 h.2.2 rfl dX2_sieved_27 ?_
        refine lv_icmp_ge (tgt := 61) hx hb dX2_sieved_28 (by decide) (fun c5 => ?_) (fun c5 => ?_)
        · have hf := tk_t c5 hf
          refine lv_iload hx hb dX2_sieved_61 (lv_at hl 4 rfl) ?_
          refine lv_if_ne (tgt := 71) hx hb dX2_sieved_63 (by decide) (fun c6 => ?_) (fun c6 => ?_)
          · have hf := tk_f c6 hf
            refine lv_iload hx hb dX2_sieved_71 (lv_at hl 5 rfl) ?_
            obtain rfl := so_ok hf
            exact x_iret C h dX2_sieved_73
          · have hf := tk_t c6 hf
            refine lv_iload hx hb dX2_sieved_66 (lv_at hl 6 rfl) ?_
            refine lv_goto (tgt := 73) hx hb dX2_sieved_68 (by decide) ?_
            obtain rfl := so_ok hf
            exact x_iret C h dX2_sieved_73
        · have hf := tk_f c5 hf
          refine lv_iload hx hb dX2_sieved_31 (lv_at hl 6 rfl) ?_
          refine lv_iload hx hb dX2_sieved_33 (lv_at hl 5 rfl) ?_
          refine x_si (As := [.int x5]) (rest := [.int x6]) C h (kJ6_bitCount_0f7a4 l D κ ad x5 σ (r := (fJ6_bitCount_0f7a4 x5 σ)) rfl) (fun hts => va_cwS 1 hts gX2_sieved_J6_bitCount_0f7a4 rfl rfl rfl (by decide +kernel) ⟨Nat.le_of_ble_eq_true rfl, Nat.le_of_ble_eq_true rfl⟩) rfl hl.1 (Nat.le_of_ble_eq_true rfl) rfl dX2_sieved_35 (fun H locs h => ?_)
          refine lv_iadd hx hb dX2_sieved_38 ?_
          refine lv_istore (lv' := [(6, .int (x6 + (fJ6_bitCount_0f7a4 x5 σ))), (0, .ref (ad 10)), (1, .ref (κ.2 0)), (2, .int x2), (3, .int x3), (4, .int x4), (5, .int x5), (7, .int x7)]) hx hb dX2_sieved_39 hl (by decide) rfl (fun ls hl => ?_)
          refine lv_aload_n hx hb dX2_sieved_41 rfl (lv_at hl 1 rfl) ?_
          refine lv_iload hx hb dX2_sieved_42 (lv_at hl 6 rfl) ?_
          refine lv_aload_n hx hb dX2_sieved_44 rfl (lv_at hl 2 rfl) ?_
          refine lv_iload_n hx hb dX2_sieved_45 rfl (lv_at hl 3 rfl) ?_
          refine lv_iload hx hb dX2_sieved_46 (lv_at hl 7 rfl) ?_
          refine lv_iadd hx hb dX2_sieved_48 ?_
          obtain ⟨g7, hf⟩ := gd_ok hf
          refine va_ti (v := .int (soT (x2 + x7).toNatClampNeg)) hx hb hZ.2.1 h.2.2 g7 rfl dX2_sieved_49 ?_
          obtain ⟨r9, hg8, hf⟩ := bd_ok hf
          refine x_vi (As := [.int x5, .int (soT (x2 + x7).toNatClampNeg)]) (rest := []) C h (gX_Sp κ ad σ) rfl (kX2_sifted l D κ ad x5 (soT (x2 + x7).toNatClampNeg) σ (r := r9) hg8) (fun hts => cwV 2 hts gX2_sieved_X2_sifted rfl rfl rfl (by decide +kernel) ⟨Nat.le_of_ble_eq_true rfl, Nat.le_of_ble_eq_true rfl⟩) rfl hl.1 (Nat.le_of_ble_eq_true rfl) rfl dX2_sieved_50 (fun H locs h => ?_)
          refine lv_istore (lv' := [(5, .int r9), (6, .int (x6 + (fJ6_bitCount_0f7a4 x5 σ))), (0, .ref (ad 10)), (1, .ref (κ.2 0)), (2, .int x2), (3, .int x3), (4, .int x4), (7, .int x7)]) hx hb dX2_sieved_53 hl (by decide) rfl (fun ls hl => ?_)
          refine lv_iinc (v := (x7 + 1)) (lv' := [(7, .int (x7 + 1)), (5, .int r9), (6, .int (x6 + (fJ6_bitCount_0f7a4 x5 σ))), (0, .ref (ad 10)), (1, .ref (κ.2 0)), (2, .int x2), (3, .int x3), (4, .int x4)]) hx hb dX2_sieved_55 hl (k := 7) rfl rfl (by decide) rfl (fun ls hl => ?_)
          refine lv_goto (tgt := 12) hx hb dX2_sieved_58 (by decide) ?_
          exact ih r9 (x6 + (fJ6_bitCount_0f7a4 x5 σ)) (x7 + 1) _ _ _ h (lv_sub hl [3, 4, 5, 6, 7, 1, 2, 0] rfl) hf
def fX2_sieved_so (x2 : Int32) (x3 : Int32) (x4 : Int32) (σ : Sg) : Option (Int32) :=
  fX2_sieved_so_12 σ x2 x3 x4 1000 (fX2_allAsSet σ) 0 0
set_option maxHeartbeats 4000000 in
set_option maxRecDepth 100000 in
theorem kX2_sieved_so (l : Launch) (D : va_G) (κ : Kp) (ad : Nat → Nat) (x2 : Int32) (x3 : Int32) (x4 : Int32) (σ : Sg) {r : Int32} (hf : fX2_sieved_so x2 x3 x4 σ = some r) : Ci l D κ (wsX κ ad) yX2_sieved wsX2_sieved 4 89 [.ref (ad 10), .ref (κ.2 0), .int x2, .int x3, .int x4] σ r σ := by
  refine Ci.of (cc := cX2_sieved) (nL := 8) (ret := (some .int)) (by decide) rfl (Nat.le_of_ble_eq_true rfl) ?_
  intro p e s m below meth c A ls C h hl
  obtain ⟨hx, hb, hml, hr, hlk, hown, hts, hK, hA, hZ⟩ := id C
  have hl : lv_has ls 8 [(0, .ref (ad 10)), (1, .ref (κ.2 0)), (2, .int x2), (3, .int x3), (4, .int x4)] := hl
  unfold fX2_sieved_so at hf
  refine lv_aload_n hx hb dX2_sieved_0 rfl (lv_at hl 0 rfl) ?_
  refine x_vi (As := []) (rest := []) C h (gX_Sp κ ad σ) rfl (kX2_allAsSet l D κ ad σ (r := (fX2_allAsSet σ)) rfl) (fun hts => cwV 0 hts gX2_sieved_X2_allAsSet rfl rfl rfl (by decide +kernel) ⟨Nat.le_of_ble_eq_true rfl, Nat.le_of_ble_eq_true rfl⟩) rfl hl.1 (Nat.le_of_ble_eq_true rfl) rfl dX2_sieved_1 (fun H locs h => ?_)
  refine lv_istore (lv' := [(5, .int (fX2_allAsSet σ)), (0, .ref (ad 10)), (1, .ref (κ.2 0)), (2, .int x2), (3, .int x3), (4, .int x4)]) hx hb dX2_sieved_4 hl (by decide) rfl (fun ls hl => ?_)
  refine lv_iconst (v := 0) hx hb dX2_sieved_6 (by decide) ?_
  refine lv_istore (lv' := [(6, .int 0), (5, .int (fX2_allAsSet σ)), (0, .ref (ad 10)), (1, .ref (κ.2 0)), (2, .int x2), (3, .int x3), (4, .int x4)]) hx hb dX2_sieved_7 hl (by decide) rfl (fun ls hl => ?_)
  refine lv_iconst (v := 0) hx hb dX2_sieved_9 (by decide) ?_
  refine lv_istore (lv' := [(7, .int 0), (6, .int 0), (5, .int (fX2_allAsSet σ)), (0, .ref (ad 10)), (1, .ref (κ.2 0)), (2, .int x2), (3, .int x3), (4, .int x4)]) hx hb dX2_sieved_10 hl (by decide) rfl (fun ls hl => ?_)
  exact jX2_sieved_so_12 C σ x2 x3 x4 1000 (fX2_allAsSet σ) 0 0 _ _ _ h (lv_sub hl [3, 4, 5, 6, 7, 2, 1, 0] rfl) hf

-- ===== X2_secondsBySigns: ButtonMatch$Shop.secondsBySigns(I)I
theorem nkRX2_111 : ("ButtonMatch$Shop", 111, "ButtonMatch", "SIGN_ORDERS", "[I") ∈ nestL := by decide
def fX2_secondsBySigns (x1 : Int32) (σ : Sg) : Option (Int32) :=
  ((fX2_sieved_so x1 3 0 σ).bind fun r2 => some r2)
set_option maxHeartbeats 4000000 in
set_option maxRecDepth 100000 in
theorem kX2_secondsBySigns (l : Launch) (D : va_G) (κ : Kp) (ad : Nat → Nat) (x1 : Int32) (σ : Sg) {r : Int32} (hf : fX2_secondsBySigns x1 σ = some r) : Ci l D κ (wsX κ ad) yX2_secondsBySigns wsX2_secondsBySigns 5 116 [.ref (ad 10), .int x1] σ r σ := by
  refine Ci.of (cc := cX2_secondsBySigns) (nL := 2) (ret := (some .int)) (by decide) rfl (Nat.le_of_ble_eq_true rfl) ?_
  intro p e s m below meth c A ls C h hl
  obtain ⟨hx, hb, hml, hr, hlk, hown, hts, hK, hA, hZ⟩ := id C
  have hl : lv_has ls 2 [(0, .ref (ad 10)), (1, .int x1)] := hl
  unfold fX2_secondsBySigns at hf
  refine lv_aload_n hx hb dX2_secondsBySigns_0 rfl (lv_at hl 0 rfl) ?_
  refine va_getsN hx hb hZ.1 h.2.2 hown ((hZ.2.2.2.2.2.2.2.1 _ nkRX2_111).use rfl) (fun _ h9 => h9) dX2_secondsBySigns_1 ?_
  refine lv_iload_n hx hb dX2_secondsBySigns_4 rfl (lv_at hl 1 rfl) ?_
  refine lv_iconst (v := 3) hx hb dX2_secondsBySigns_5 (by decide) ?_
  refine lv_iconst (v := 0) hx hb dX2_secondsBySigns_6 (by decide) ?_
  obtain ⟨r2, hg1, hf⟩ := bd_ok hf
  refine x_vi (As := [.ref (κ.2 0), .int x1, .int 3, .int 0]) (rest := []) C h (gX_Sp κ ad σ) rfl (kX2_sieved_so l D κ ad x1 3 0 σ (r := r2) hg1) (fun hts => cwV 4 hts gX2_secondsBySigns_X2_sieved rfl rfl rfl (by decide +kernel) ⟨Nat.le_of_ble_eq_true rfl, Nat.le_of_ble_eq_true rfl⟩) rfl hl.1 (Nat.le_of_ble_eq_true rfl) rfl dX2_secondsBySigns_7 (fun H locs h => ?_)
  obtain rfl := so_ok hf
  exact x_iret C h dX2_secondsBySigns_10

-- ===== X2_harm: ButtonMatch$Shop.harm(LButtonMatch$Tube;II)I
theorem lkX2_harm_36 : Cond.fieldLink RX2 36 "ButtonMatch$Shop" "colour" "I" ∈ wsX2_harm := by decide +kernel
theorem inX2_harm_X2 : ∀ w ∈ wsX20, w ∈ wsX2_harm := fun _ h => List.mem_cons_of_mem _ (List.mem_append_left _ (List.mem_append_right _ h))
theorem lkX2_harm_39 : Cond.fieldLink RX2 39 "ButtonMatch$Shop" "size" "I" ∈ wsX2_harm := by decide +kernel
theorem lkX2_harm_42 : Cond.fieldLink RX2 42 "ButtonMatch$Shop" "holes" "I" ∈ wsX2_harm := by decide +kernel
theorem lkX2_harm_17 : Cond.fieldLink RX2 17 "ButtonMatch$Shop" "seen" "[I" ∈ wsX2_harm := by decide +kernel
theorem nkRX2_118 : ("ButtonMatch$Shop", 118, "ButtonMatch$Tube", "pence", "I") ∈ nestL := by decide
theorem inX2_harm_X5 : ∀ w ∈ wsX50, w ∈ wsX2_harm := fun _ h => List.mem_cons_of_mem _ (List.mem_append_right _ h)
theorem lkX2_harm_45 : Cond.fieldLink RX2 45 "ButtonMatch$Shop" "sewing" "I" ∈ wsX2_harm := by decide +kernel
def fX2_harm_13 (σ : Sg) (k1 : Nat) (x2 : Int32) (z0 : Int32) : Option (Int32) :=
  (if gIn x2 6 then some ((((fX5_farFrom k1 (σ 10 3) (σ 10 4) (σ 10 5) σ) * (σ 12 x2.toNatClampNeg)) + (σ (13 + k1) 5)) + z0) else none)
set_option maxHeartbeats 4000000 in
set_option maxRecDepth 100000 in
theorem jX2_harm_13 {p : Program} {l : Launch} {e : Env} {s : State} {m : MethodId} {args : Array Value} {below : List Frame} {meth : Method} {c : Code} {D : va_G} {κ : Kp} {ad : Nat → Nat} {A : Nat → Prop} {r : Int32} (C : Mc p s m args meth c cX2_harm 5 (some .int) wsX2_harm RX2 D κ A) (σ : Sg) (k1 : Nat) (hk1 : k1 < 6) (x2 : Int32) (z0 : Int32) (H : Heap) (locs : List Loc) (ls : Array Slot) (h : Wd D (wsX κ ad) A s.heap H locs σ) (hl : lv_has ls 5 [(0, .ref (ad 10)), (1, .ref (ad (13 + k1))), (2, .int x2)]) (hf : fX2_harm_13 σ k1 x2 z0 = some r) : W p l e { frames := 3, cells := 0, slots := 0, locals := 67 } s m args below meth c H locs 0 0 (Qi below args s D (wsX κ ad) A r σ) (F0 m 13 ls [.int z0]) := by
  obtain ⟨hx, hb, hml, hr, hlk, hown, hts, hK, hA, hZ⟩ := id C
  unfold fX2_harm_13 at hf
  refine lv_istore (lv' := [(4, .int z0), (0, .ref (ad 10)), (1, .ref (ad (13 + k1))), (2, .int x2)]) hx hb dX2_harm_13 hl (by decide) rfl (fun ls hl => ?_)
  refine lv_aload_n hx hb dX2_harm_15 rfl (lv_at hl 2 rfl) ?_
  refine lv_aload_n hx hb dX2_harm_16 rfl (lv_at hl 1 rfl) ?_
  refine x_get (v := .int (σ 10 3)) C h (gX_Sp κ ad σ) rfl inX2_harm_X2 3 (by decide) (hts _ lkX2_harm_36) rfl dX2_harm_17 ?_
  refine lv_aload_n hx hb dX2_harm_20 rfl (lv_at hl 1 rfl) ?_
  refine x_get (v := .int (σ 10 4)) C h (gX_Sp κ ad σ) rfl inX2_harm_X2 4 (by decide) (hts _ lkX2_harm_39) rfl dX2_harm_21 ?_
  refine lv_aload_n hx hb dX2_harm_24 rfl (lv_at hl 1 rfl) ?_
  refine x_get (v := .int (σ 10 5)) C h (gX_Sp κ ad σ) rfl inX2_harm_X2 5 (by decide) (hts _ lkX2_harm_42) rfl dX2_harm_25 ?_
  refine x_vi (As := [.int (σ 10 3), .int (σ 10 4), .int (σ 10 5)]) (rest := []) C h (gX_Tu κ ad σ hk1) rfl (kX5_farFrom l D κ ad k1 hk1 (σ 10 3) (σ 10 4) (σ 10 5) σ (r := (fX5_farFrom k1 (σ 10 3) (σ 10 4) (σ 10 5) σ)) rfl) (fun hts => cwV 3 hts gX2_harm_X5_farFrom rfl rfl rfl (by decide +kernel) ⟨Nat.le_of_ble_eq_true rfl, Nat.le_of_ble_eq_true rfl⟩) rfl hl.1 (Nat.le_of_ble_eq_true rfl) rfl dX2_harm_28 (fun H locs h => ?_)
  refine lv_aload_n hx hb dX2_harm_31 rfl (lv_at hl 1 rfl) ?_
  refine x_get (v := .ref (ad 12)) C h (gX_Sp κ ad σ) rfl inX2_harm_X2 1 (by decide) (hts _ lkX2_harm_17) rfl dX2_harm_32 ?_
  refine lv_iload_n hx hb dX2_harm_35 rfl (lv_at hl 3 rfl) ?_
  obtain ⟨g1, hf⟩ := gd_ok hf
  refine x_iald (v := (σ 12 x2.toNatClampNeg)) C h (gX_se κ ad σ) g1 rfl dX2_harm_36 ?_
  refine lv_imul hx hb dX2_harm_37 ?_
  refine lv_aload_n hx hb dX2_harm_38 rfl (lv_at hl 2 rfl) ?_
  refine x_getN (v := .int (σ (13 + k1) 5)) C h (gX_Tu κ ad σ hk1) rfl inX2_harm_X5 5 (by decide) ((hZ.2.2.2.2.2.2.2.1 _ nkRX2_118).use rfl) rfl dX2_harm_39 ?_
  refine lv_iadd hx hb dX2_harm_42 ?_
  refine lv_iload hx hb dX2_harm_43 (lv_at hl 0 rfl) ?_
  refine lv_iadd hx hb dX2_harm_45 ?_
  obtain rfl := so_ok hf
  exact x_iret C h dX2_harm_46
def fX2_harm (k1 : Nat) (x2 : Int32) (x3 : Int32) (σ : Sg) : Option (Int32) :=
  (if x2 = x3 then fX2_harm_13 σ k1 x2 0 else fX2_harm_13 σ k1 x2 (σ 10 6))
set_option maxHeartbeats 4000000 in
set_option maxRecDepth 100000 in
theorem kX2_harm (l : Launch) (D : va_G) (κ : Kp) (ad : Nat → Nat) (k1 : Nat) (hk1 : k1 < 6) (x2 : Int32) (x3 : Int32) (σ : Sg) {r : Int32} (hf : fX2_harm k1 x2 x3 σ = some r) : Ci l D κ (wsX κ ad) yX2_harm wsX2_harm 3 67 [.ref (ad 10), .ref (ad (13 + k1)), .int x2, .int x3] σ r σ := by
  refine Ci.of (cc := cX2_harm) (nL := 5) (ret := (some .int)) (by decide) rfl (Nat.le_of_ble_eq_true rfl) ?_
  intro p e s m below meth c A ls C h hl
  obtain ⟨hx, hb, hml, hr, hlk, hown, hts, hK, hA, hZ⟩ := id C
  have hl : lv_has ls 5 [(0, .ref (ad 10)), (1, .ref (ad (13 + k1))), (2, .int x2), (3, .int x3)] := hl
  unfold fX2_harm at hf
  refine lv_iload_n hx hb dX2_harm_0 rfl (lv_at hl 2 rfl) ?_
  refine lv_iload_n hx hb dX2_harm_1 rfl (lv_at hl 3 rfl) ?_
  refine lv_icmp_ne (tgt := 9) hx hb dX2_harm_2 (by decide) (fun c2 => ?_) (fun c2 => ?_)
  · have hf := tk_f c2 hf
    refine lv_aload_n hx hb dX2_harm_9 rfl (lv_at hl 0 rfl) ?_
    refine x_get (v := .int (σ 10 6)) C h (gX_Sp κ ad σ) rfl inX2_harm_X2 6 (by decide) (hts _ lkX2_harm_45) rfl dX2_harm_10 ?_
    exact jX2_harm_13 C σ k1 hk1 x2 (σ 10 6) _ _ _ h (lv_sub hl [0, 1, 2] rfl) hf
  · have hf := tk_t c2 hf
    refine lv_iconst (v := 0) hx hb dX2_harm_5 (by decide) ?_
    refine lv_goto (tgt := 13) hx hb dX2_harm_6 (by decide) ?_
    exact jX2_harm_13 C σ k1 hk1 x2 0 _ _ _ h (lv_sub hl [0, 1, 2] rfl) hf

-- ===== X2_leastHarm: ButtonMatch$Shop.leastHarm(II)I
theorem lkX2_leastHarm_11 : Cond.fieldLink RX2 11 "ButtonMatch$Shop" "tubes" "[LButtonMatch$Tube;" ∈ wsX2_leastHarm := by decide +kernel
theorem inX2_leastHarm_X2 : ∀ w ∈ wsX20, w ∈ wsX2_leastHarm := fun _ h => List.mem_cons_of_mem _ (List.mem_append_left _ (List.mem_append_right _ h))
theorem nkRX2_121 : ("ButtonMatch$Shop", 121, "ButtonMatch$Tube", "count", "I") ∈ nestL := by decide
theorem inX2_leastHarm_X5 : ∀ w ∈ wsX50, w ∈ wsX2_leastHarm := fun _ h => List.mem_cons_of_mem _ (List.mem_append_right _ h)
theorem lkX2_leastHarm_21 : Cond.fieldLink RX2 21 "ButtonMatch$Shop" "tubeCount" "I" ∈ wsX2_leastHarm := by decide +kernel
def fX2_leastHarm_74 (σ : Sg) (x1 : Int32) (x2 : Int32) (x6 : Int32) (K14 : Int32 → Int32 → Int32 → Int32 → Option (Int32)) (K26 : Int32 → Int32 → Int32 → Int32 → Option (Int32)) (x7 : Int32) (x8 : Int32) : Option (Int32) :=
  K26 x8 x6 x7 (x7 + 1)
set_option maxHeartbeats 4000000 in
set_option maxRecDepth 100000 in
theorem jX2_leastHarm_74 {p : Program} {l : Launch} {e : Env} {s : State} {m : MethodId} {args : Array Value} {below : List Frame} {meth : Method} {c : Code} {D : va_G} {κ : Kp} {ad : Nat → Nat} {A : Nat → Prop} {r : Int32} (C : Mc p s m args meth c cX2_leastHarm 9 (some .int) wsX2_leastHarm RX2 D κ A) (σ : Sg) (x1 : Int32) (x2 : Int32) (x6 : Int32) (K14 : Int32 → Int32 → Int32 → Int32 → Option (Int32)) (hK14 : ∀ (x3 : Int32) (x4 : Int32) (x5 : Int32) (x6 : Int32) (H : Heap) (locs : List Loc) (ls : Array Slot), Wd D (wsX κ ad) A s.heap H locs σ → lv_has ls 9 [(0, .ref (ad 10)), (1, .int x1), (2, .int x2), (3, .int x3), (4, .int x4), (5, .int x5), (6, .int x6)] → K14 x3 x4 x5 x6 = some r → W p l e { frames := 4, cells := 0, slots := 0, locals := 91 } s m args below meth c H locs 0 0 (Qi below args s D (wsX κ ad) A r σ) (F0 m 14 ls [])) (K26 : Int32 → Int32 → Int32 → Int32 → Option (Int32)) (hK26 : ∀ (x3 : Int32) (x4 : Int32) (x5 : Int32) (x7 : Int32) (H : Heap) (locs : List Loc) (ls : Array Slot), Wd D (wsX κ ad) A s.heap H locs σ → lv_has ls 9 [(0, .ref (ad 10)), (1, .int x1), (2, .int x2), (3, .int x3), (4, .int x4), (5, .int x5), (6, .int x6), (7, .int x7)] → K26 x3 x4 x5 x7 = some r → W p l e { frames := 4, cells := 0, slots := 0, locals := 91 } s m args below meth c H locs 0 0 (Qi below args s D (wsX κ ad) A r σ) (F0 m 26 ls [])) (x7 : Int32) (x8 : Int32) (H : Heap) (locs : List Loc) (ls : Array Slot) (h : Wd D (wsX κ ad) A s.heap H locs σ) (hl : lv_has ls 9 [(0, .ref (ad 10)), (1, .int x1), (2, .int x2), (6, .int x6), (7, .int x7), (8, .int x8)]) (hf : fX2_leastHarm_74 σ x1 x2 x6 K14 K26 x7 x8 = some r) : W p l e { frames := 4, cells := 0, slots := 0, locals := 91 } s m args below meth c H locs 0 0 (Qi below args s D (wsX κ ad) A r σ) (F0 m 74 ls []) := by
  obtain ⟨hx, hb, hml, hr, hlk, hown, hts, hK, hA, hZ⟩ := id C
  unfold fX2_leastHarm_74 at hf
  refine lv_iload hx hb dX2_leastHarm_74 (lv_at hl 5 rfl) ?_
  refine lv_istore_n (lv' := [(3, .int x8), (0, .ref (ad 10)), (1, .int x1), (2, .int x2), (6, .int x6), (7, .int x7), (8, .int x8)]) hx hb dX2_leastHarm_76 rfl hl (by decide) rfl (fun ls hl => ?_)
  refine lv_iload hx hb dX2_leastHarm_77 (lv_at hl 4 rfl) ?_
  refine lv_istore (lv' := [(4, .int x6), (3, .int x8), (0, .ref (ad 10)), (1, .int x1), (2, .int x2), (6, .int x6), (7, .int x7), (8, .int x8)]) hx hb dX2_leastHarm_79 hl (by decide) rfl (fun ls hl => ?_)
  refine lv_iload hx hb dX2_leastHarm_81 (lv_at hl 6 rfl) ?_
  refine lv_istore (lv' := [(5, .int x7), (4, .int x6), (3, .int x8), (0, .ref (ad 10)), (1, .int x1), (2, .int x2), (6, .int x6), (7, .int x7), (8, .int x8)]) hx hb dX2_leastHarm_83 hl (by decide) rfl (fun ls hl => ?_)
  refine lv_iinc (v := (x7 + 1)) (lv' := [(7, .int (x7 + 1)), (5, .int x7), (4, .int x6), (3, .int x8), (0, .ref (ad 10)), (1, .int x1), (2, .int x2), (6, .int x6), (8, .int x8)]) hx hb dX2_leastHarm_85 hl (k := 7) rfl rfl (by decide) rfl (fun ls hl => ?_)
  refine lv_goto (tgt := 26) hx hb dX2_leastHarm_88 (by decide) ?_
  exact hK26 x8 x6 x7 (x7 + 1) _ _ _ h (lv_sub hl [4, 5, 6, 3, 2, 1, 7, 0] rfl) hf
def fX2_leastHarm_26 (σ : Sg) (x1 : Int32) (x2 : Int32) (x6 : Int32) (K14 : Int32 → Int32 → Int32 → Int32 → Option (Int32)) : Nat → Int32 → Int32 → Int32 → Int32 → Option (Int32)
  | 0, _, _, _, _ => none
  | n + 1, x3, x4, x5, x7 => (if 6 ≤ x7 then K14 x3 x4 x5 (x6 + 1) else (if gIn x6 6 then (if (σ (13 + x6.toNatClampNeg) 4) ≤ 0 then K14 x3 x4 x5 (x6 + 1) else ((fX2_harm x6.toNatClampNeg x7 x1 σ).bind fun r6 => (if x3 = (-9) then fX2_leastHarm_74 σ x1 x2 x6 K14 (fX2_leastHarm_26 σ x1 x2 x6 K14 n) x7 r6 else (if x3 ≤ r6 then fX2_leastHarm_26 σ x1 x2 x6 K14 n x3 x4 x5 (x7 + 1) else fX2_leastHarm_74 σ x1 x2 x6 K14 (fX2_leastHarm_26 σ x1 x2 x6 K14 n) x7 r6)))) else none))
set_option maxHeartbeats 4000000 in
set_option maxRecDepth 100000 in
theorem jX2_leastHarm_26 {p : Program} {l : Launch} {e : Env} {s : State} {m : MethodId} {args : Array Value} {below : List Frame} {meth : Method} {c : Code} {D : va_G} {κ : Kp} {ad : Nat → Nat} {A : Nat → Prop} {r : Int32} (C : Mc p s m args meth c cX2_leastHarm 9 (some .int) wsX2_leastHarm RX2 D κ A) (σ : Sg) (x1 : Int32) (x2 : Int32) (x6 : Int32) (K14 : Int32 → Int32 → Int32 → Int32 → Option (Int32)) (hK14 : ∀ (x3 : Int32) (x4 : Int32) (x5 : Int32) (x6 : Int32) (H : Heap) (locs : List Loc) (ls : Array Slot), Wd D (wsX κ ad) A s.heap H locs σ → lv_has ls 9 [(0, .ref (ad 10)), (1, .int x1), (2, .int x2), (3, .int x3), (4, .int x4), (5, .int x5), (6, .int x6)] → K14 x3 x4 x5 x6 = some r → W p l e { frames := 4, cells := 0, slots := 0, locals := 91 } s m args below meth c H locs 0 0 (Qi below args s D (wsX κ ad) A r σ) (F0 m 14 ls [])) : ∀ (n : Nat) (x3 : Int32) (x4 : Int32) (x5 : Int32) (x7 : Int32) (H : Heap) (locs : List Loc) (ls : Array Slot), Wd D (wsX κ ad) A s.heap H locs σ → lv_has ls 9 [(0, .ref (ad 10)), (1, .int x1), (2, .int x2), (3, .int x3), (4, .int x4), (5, .int x5), (6, .int x6), (7, .int x7)] → fX2_leastHarm_26 σ x1 x2 x6 K14 n x3 x4 x5 x7 = some r → W p l e { frames := 4, cells := 0, slots := 0, locals := 91 } s m args below meth c H locs 0 0 (Qi below args s D (wsX κ ad) A r σ) (F0 m 26 ls []) := by
  obtain ⟨hx, hb, hml, hr, hlk, hown, hts, hK, hA, hZ⟩ := id C
  intro n
  induction n with
  | zero =>
    intro x3 x4 x5 x7 H locs ls h hl hf
    rw [fX2_leastHarm_26] at hf
    cases hf
  | succ n ih =>
    intro x3 x4 x5 x7 H locs ls h hl hf
    rw [fX2_leastHarm_26] at hf
    refine lv_iload hx hb dX2_leastHarm_26 (lv_at hl 7 rfl) ?_
    refine lv_bipush (v := 6) hx hb dX2_leastHarm_28 (by decide) ?_
    refine lv_icmp_ge (tgt := 91) hx hb dX2_leastHarm_30 (by decide) (fun c1 => ?_) (fun c1 => ?_)
    · have hf := tk_t c1 hf
      refine lv_iinc (v := (x6 + 1)) (lv' := [(6, .int (x6 + 1)), (0, .ref (ad 10)), (1, .int x1), (2, .int x2), (3, .int x3), (4, .int x4), (5, .int x5), (7, .int x7)]) hx hb dX2_leastHarm_91 hl (k := 6) rfl rfl (by decide) rfl (fun ls hl => ?_)
      refine lv_goto (tgt := 14) hx hb dX2_leastHarm_94 (by decide) ?_
      exact hK14 x3 x4 x5 (x6 + 1) _ _ _ h (lv_sub hl [1, 2, 3, 4, 5, 6, 0] rfl) hf
    · have hf := tk_f c1 hf
      refine lv_aload_n hx hb dX2_leastHarm_33 rfl (lv_at hl 0 rfl) ?_
      refine x_get (v := .ref (ad 11)) C h (gX_Sp κ ad σ) rfl inX2_leastHarm_X2 0 (by decide) (hts _ lkX2_leastHarm_11) rfl dX2_leastHarm_34 ?_
      refine lv_iload hx hb dX2_leastHarm_37 (lv_at hl 6 rfl) ?_
      obtain ⟨g2, hf⟩ := gd_ok hf
      have b3 : x6.toNatClampNeg < 6 := vp_lt g2
      refine x_aald (t0 := 3) (cn := "ButtonMatch$Tube") (b := ad (13 + x6.toNatClampNeg)) C h (gX_arT κ ad σ) rfl g2 rfl dX2_leastHarm_39 ?_
      refine x_getN (v := .int (σ (13 + x6.toNatClampNeg) 4)) C h (gX_Tu κ ad σ b3) rfl inX2_leastHarm_X5 4 (by decide) ((hZ.2.2.2.2.2.2.2.1 _ nkRX2_121).use rfl) rfl dX2_leastHarm_40 ?_
      refine lv_if_le (tgt := 91) hx hb dX2_leastHarm_43 (by decide) (fun c4 => ?_) (fun c4 => ?_)
      · have hf := tk_t c4 hf
        refine lv_iinc (v := (x6 + 1)) (lv' := [(6, .int (x6 + 1)), (0, .ref (ad 10)), (1, .int x1), (2, .int x2), (3, .int x3), (4, .int x4), (5, .int x5), (7, .int x7)]) hx hb dX2_leastHarm_91 hl (k := 6) rfl rfl (by decide) rfl (fun ls hl => ?_)
        refine lv_goto (tgt := 14) hx hb dX2_leastHarm_94 (by decide) ?_
        exact hK14 x3 x4 x5 (x6 + 1) _ _ _ h (lv_sub hl [1, 2, 3, 4, 5, 6, 0] rfl) hf
      · have hf := tk_f c4 hf
        refine lv_aload_n hx hb dX2_leastHarm_46 rfl (lv_at hl 0 rfl) ?_
        refine lv_aload_n hx hb dX2_leastHarm_47 rfl (lv_at hl 0 rfl) ?_
        refine x_get (v := .ref (ad 11)) C h (gX_Sp κ ad σ) rfl inX2_leastHarm_X2 0 (by decide) (hts _ lkX2_leastHarm_11) rfl dX2_leastHarm_48 ?_
        refine lv_iload hx hb dX2_leastHarm_51 (lv_at hl 6 rfl) ?_
        refine x_aald (t0 := 3) (cn := "ButtonMatch$Tube") (b := ad (13 + x6.toNatClampNeg)) C h (gX_arT κ ad σ) rfl g2 rfl dX2_leastHarm_53 ?_
        refine lv_iload hx hb dX2_leastHarm_54 (lv_at hl 7 rfl) ?_
        refine lv_iload_n hx hb dX2_leastHarm_56 rfl (lv_at hl 1 rfl) ?_
        obtain ⟨r6, hg5, hf⟩ := bd_ok hf
        refine x_vi (As := [.ref (ad (13 + x6.toNatClampNeg)), .int x7, .int x1]) (rest := []) C h (gX_Sp κ ad σ) rfl (kX2_harm l D κ ad x6.toNatClampNeg b3 x7 x1 σ (r := r6) hg5) (fun hts => cwV 3 hts gX2_leastHarm_X2_harm rfl rfl rfl (by decide +kernel) ⟨Nat.le_of_ble_eq_true rfl, Nat.le_of_ble_eq_true rfl⟩) rfl hl.1 (Nat.le_of_ble_eq_true rfl) rfl dX2_leastHarm_57 (fun H locs h => ?_)
        refine lv_istore (lv' := [(8, .int r6), (0, .ref (ad 10)), (1, .int x1), (2, .int x2), (3, .int x3), (4, .int x4), (5, .int x5), (6, .int x6), (7, .int x7)]) hx hb dX2_leastHarm_60 hl (by decide) rfl (fun ls hl => ?_)
        refine lv_iload_n hx hb dX2_leastHarm_62 rfl (lv_at hl 4 rfl) ?_
        refine lv_bipush (v := (-9)) hx hb dX2_leastHarm_63 (by decide) ?_
        refine lv_icmp_eq (tgt := 74) hx hb dX2_leastHarm_65 (by decide) (fun c7 => ?_) (fun c7 => ?_)
        · have hf := tk_t c7 hf
          exact jX2_leastHarm_74 C σ x1 x2 x6 K14 hK14 (fX2_leastHarm_26 σ x1 x2 x6 K14 n) ih x7 r6 _ _ _ h (lv_sub hl [1, 2, 3, 7, 8, 0] rfl) hf
        · have hf := tk_f c7 hf
          refine lv_iload hx hb dX2_leastHarm_68 (lv_at hl 0 rfl) ?_
          refine lv_iload_n hx hb dX2_leastHarm_70 rfl (lv_at hl 4 rfl) ?_
          refine lv_icmp_ge (tgt := 85) hx hb dX2_leastHarm_71 (by decide) (fun c8 => ?_) (fun c8 => ?_)
          · have hf := tk_t c8 hf
            refine lv_iinc (v := (x7 + 1)) (lv' := [(7, .int (x7 + 1)), (8, .int r6), (0, .ref (ad 10)), (1, .int x1), (2, .int x2), (3, .int x3), (4, .int x4), (5, .int x5), (6, .int x6)]) hx hb dX2_leastHarm_85 hl (k := 8) rfl rfl (by decide) rfl (fun ls hl => ?_)
            refine lv_goto (tgt := 26) hx hb dX2_leastHarm_88 (by decide) ?_
            exact ih x3 x4 x5 (x7 + 1) _ _ _ h (lv_sub hl [2, 3, 4, 5, 6, 7, 8, 0] rfl) hf
          · have hf := tk_f c8 hf
            exact jX2_leastHarm_74 C σ x1 x2 x6 K14 hK14 (fX2_leastHarm_26 σ x1 x2 x6 K14 n) ih x7 r6 _ _ _ h (lv_sub hl [1, 2, 3, 7, 8, 0] rfl) hf
def fX2_leastHarm_14 (σ : Sg) (x1 : Int32) (x2 : Int32) : Nat → Int32 → Int32 → Int32 → Int32 → Option (Int32)
  | 0, _, _, _, _ => none
  | n + 1, x3, x4, x5, x6 => (if (σ 10 2) ≤ x6 then (if x2 = 0 then some x3 else (if x2 = 1 then some x4 else some x5)) else fX2_leastHarm_26 σ x1 x2 x6 (fX2_leastHarm_14 σ x1 x2 n) 1000 x3 x4 x5 0)
set_option maxHeartbeats 4000000 in
set_option maxRecDepth 100000 in
theorem jX2_leastHarm_14 {p : Program} {l : Launch} {e : Env} {s : State} {m : MethodId} {args : Array Value} {below : List Frame} {meth : Method} {c : Code} {D : va_G} {κ : Kp} {ad : Nat → Nat} {A : Nat → Prop} {r : Int32} (C : Mc p s m args meth c cX2_leastHarm 9 (some .int) wsX2_leastHarm RX2 D κ A) (σ : Sg) (x1 : Int32) (x2 : Int32) : ∀ (n : Nat) (x3 : Int32) (x4 : Int32) (x5 : Int32) (x6 : Int32) (H : Heap) (locs : List Loc) (ls : Array Slot), Wd D (wsX κ ad) A s.heap H locs σ → lv_has ls 9 [(0, .ref (ad 10)), (1, .int x1), (2, .int x2), (3, .int x3), (4, .int x4), (5, .int x5), (6, .int x6)] → fX2_leastHarm_14 σ x1 x2 n x3 x4 x5 x6 = some r → W p l e { frames := 4, cells := 0, slots := 0, locals := 91 } s m args below meth c H locs 0 0 (Qi below args s D (wsX κ ad) A r σ) (F0 m 14 ls []) := by
  obtain ⟨hx, hb, hml, hr, hlk, hown, hts, hK, hA, hZ⟩ := id C
  intro n
  induction n with
  | zero =>
    intro x3 x4 x5 x6 H locs ls h hl hf
    rw [fX2_leastHarm_14] at hf
    cases hf
  | succ n ih =>
    intro x3 x4 x5 x6 H locs ls h hl hf
    rw [fX2_leastHarm_14] at hf
    refine lv_iload hx hb dX2_leastHarm_14 (lv_at hl 6 rfl) ?_
    refine lv_aload_n hx hb dX2_leastHarm_16 rfl (lv_at hl 0 rfl) ?_
    refine x_get (v := .int (σ 10 2)) C h (gX_Sp κ ad σ) rfl inX2_leastHarm_X2 2 (by decide) (hts _ lkX2_leastHarm_21) rfl dX2_leastHarm_17 ?_
    refine lv_icmp_ge (tgt := 97) hx hb dX2_leastHarm_20 (by decide) (fun c9 => ?_) (fun c9 => ?_)
    · have hf := tk_t c9 hf
      refine lv_iload_n hx hb dX2_leastHarm_97 rfl (lv_at hl 2 rfl) ?_
      refine lv_if_ne (tgt := 105) hx hb dX2_leastHarm_98 (by decide) (fun c10 => ?_) (fun c10 => ?_)
      · have hf := tk_f c10 hf
        refine lv_iload_n hx hb dX2_leastHarm_105 rfl (lv_at hl 2 rfl) ?_
        refine lv_iconst (v := 1) hx hb dX2_leastHarm_106 (by decide) ?_
        refine lv_icmp_ne (tgt := 115) hx hb dX2_leastHarm_107 (by decide) (fun c11 => ?_) (fun c11 => ?_)
        · have hf := tk_f c11 hf
          refine lv_iload hx hb dX2_leastHarm_115 (lv_at hl 5 rfl) ?_
          obtain rfl := so_ok hf
          exact x_iret C h dX2_leastHarm_117
        · have hf := tk_t c11 hf
          refine lv_iload hx hb dX2_leastHarm_110 (lv_at hl 4 rfl) ?_
          refine lv_goto (tgt := 117) hx hb dX2_leastHarm_112 (by decide) ?_
          obtain rfl := so_ok hf
          exact x_iret C h dX2_leastHarm_117
      · have hf := tk_t c10 hf
        refine lv_iload_n hx hb dX2_leastHarm_101 rfl (lv_at hl 3 rfl) ?_
        refine lv_goto (tgt := 117) hx hb dX2_leastHarm_102 (by decide) ?_
        obtain rfl := so_ok hf
        exact x_iret C h dX2_leastHarm_117
    · have hf := tk_f c9 hf
      refine lv_iconst (v := 0) hx hb dX2_leastHarm_23 (by decide) ?_
      refine lv_istore (lv' := [(7, .int 0), (0, .ref (ad 10)), (1, .int x1), (2, .int x2), (3, .int x3), (4, .int x4), (5, .int x5), (6, .int x6)]) hx hb dX2_leastHarm_24 hl (by decide) rfl (fun ls hl => ?_)
      exact jX2_leastHarm_26 C σ x1 x2 x6 (fX2_leastHarm_14 σ x1 x2 n) ih 1000 x3 x4 x5 0 _ _ _ h (lv_sub hl [1, 2, 3, 4, 5, 6, 7, 0] rfl) hf
def fX2_leastHarm (x1 : Int32) (x2 : Int32) (σ : Sg) : Option (Int32) :=
  fX2_leastHarm_14 σ x1 x2 1000 (-9) (-9) (-9) 0
set_option maxHeartbeats 4000000 in
set_option maxRecDepth 100000 in
theorem kX2_leastHarm (l : Launch) (D : va_G) (κ : Kp) (ad : Nat → Nat) (x1 : Int32) (x2 : Int32) (σ : Sg) {r : Int32} (hf : fX2_leastHarm x1 x2 σ = some r) : Ci l D κ (wsX κ ad) yX2_leastHarm wsX2_leastHarm 4 91 [.ref (ad 10), .int x1, .int x2] σ r σ := by
  refine Ci.of (cc := cX2_leastHarm) (nL := 9) (ret := (some .int)) (by decide) rfl (Nat.le_of_ble_eq_true rfl) ?_
  intro p e s m below meth c A ls C h hl
  obtain ⟨hx, hb, hml, hr, hlk, hown, hts, hK, hA, hZ⟩ := id C
  have hl : lv_has ls 9 [(0, .ref (ad 10)), (1, .int x1), (2, .int x2)] := hl
  unfold fX2_leastHarm at hf
  refine lv_bipush (v := (-9)) hx hb dX2_leastHarm_0 (by decide) ?_
  refine lv_istore_n (lv' := [(3, .int (-9)), (0, .ref (ad 10)), (1, .int x1), (2, .int x2)]) hx hb dX2_leastHarm_2 rfl hl (by decide) rfl (fun ls hl => ?_)
  refine lv_bipush (v := (-9)) hx hb dX2_leastHarm_3 (by decide) ?_
  refine lv_istore (lv' := [(4, .int (-9)), (3, .int (-9)), (0, .ref (ad 10)), (1, .int x1), (2, .int x2)]) hx hb dX2_leastHarm_5 hl (by decide) rfl (fun ls hl => ?_)
  refine lv_bipush (v := (-9)) hx hb dX2_leastHarm_7 (by decide) ?_
  refine lv_istore (lv' := [(5, .int (-9)), (4, .int (-9)), (3, .int (-9)), (0, .ref (ad 10)), (1, .int x1), (2, .int x2)]) hx hb dX2_leastHarm_9 hl (by decide) rfl (fun ls hl => ?_)
  refine lv_iconst (v := 0) hx hb dX2_leastHarm_11 (by decide) ?_
  refine lv_istore (lv' := [(6, .int 0), (5, .int (-9)), (4, .int (-9)), (3, .int (-9)), (0, .ref (ad 10)), (1, .int x1), (2, .int x2)]) hx hb dX2_leastHarm_12 hl (by decide) rfl (fun ls hl => ?_)
  exact jX2_leastHarm_14 C σ x1 x2 1000 (-9) (-9) (-9) 0 _ _ _ h (lv_sub hl [4, 5, 6, 3, 2, 1, 0] rfl) hf

-- ===== X2_cheapest: ButtonMatch$Shop.cheapest(I)I
theorem lkX2_cheapest_21 : Cond.fieldLink RX2 21 "ButtonMatch$Shop" "tubeCount" "I" ∈ wsX2_cheapest := by decide +kernel
theorem inX2_cheapest_X2 : ∀ w ∈ wsX20, w ∈ wsX2_cheapest := fun _ h => List.mem_cons_of_mem _ (List.mem_append_left _ (List.mem_append_right _ h))
theorem lkX2_cheapest_11 : Cond.fieldLink RX2 11 "ButtonMatch$Shop" "tubes" "[LButtonMatch$Tube;" ∈ wsX2_cheapest := by decide +kernel
theorem inX2_cheapest_X5 : ∀ w ∈ wsX50, w ∈ wsX2_cheapest := fun _ h => List.mem_cons_of_mem _ (List.mem_append_right _ h)
def fX2_cheapest_5 (σ : Sg) (x1 : Int32) : Nat → Int32 → Int32 → Option (Int32)
  | 0, _, _ => none
  | n + 1, x2, x3 => (if (σ 10 2) ≤ x3 then some x2 else (if gIn x3 6 then (if (σ (13 + x3.toNatClampNeg) 4) < x1 then fX2_cheapest_5 σ x1 n x2 (x3 + 1) else (if x2 = (-9) then fX2_cheapest_5 σ x1 n (x1 * (σ (13 + x3.toNatClampNeg) 5)) (x3 + 1) else (if x2 ≤ (x1 * (σ (13 + x3.toNatClampNeg) 5)) then fX2_cheapest_5 σ x1 n x2 (x3 + 1) else fX2_cheapest_5 σ x1 n (x1 * (σ (13 + x3.toNatClampNeg) 5)) (x3 + 1)))) else none))
set_option maxHeartbeats 4000000 in
set_option maxRecDepth 100000 in
theorem jX2_cheapest_5 {p : Program} {l : Launch} {e : Env} {s : State} {m : MethodId} {args : Array Value} {below : List Frame} {meth : Method} {c : Code} {D : va_G} {κ : Kp} {ad : Nat → Nat} {A : Nat → Prop} {r : Int32} (C : Mc p s m args meth c cX2_cheapest 5 (some .int) wsX2_cheapest RX2 D κ A) (σ : Sg) (x1 : Int32) : ∀ (n : Nat) (x2 : Int32) (x3 : Int32) (H : Heap) (locs : List Loc) (ls : Array Slot), Wd D (wsX κ ad) A s.heap H locs σ → lv_has ls 5 [(0, .ref (ad 10)), (1, .int x1), (2, .int x2), (3, .int x3)] → fX2_cheapest_5 σ x1 n x2 x3 = some r → W p l e { frames := 0, cells := 0, slots := 0, locals := 0 } s m args below meth c H locs 0 0 (Qi below args s D (wsX κ ad) A r σ) (F0 m 5 ls []) := by
  obtain ⟨hx, hb, hml, hr, hlk, hown, hts, hK, hA, hZ⟩ := id C
  intro n
  induction n with
  | zero =>
    intro x2 x3 H locs ls h hl hf
    rw [fX2_cheapest_5] at hf
    cases hf
  | succ n ih =>
    intro x2 x3 H locs ls h hl hf
    rw [fX2_cheapest_5] at hf
    refine lv_iload_n hx hb dX2_cheapest_5 rfl (lv_at hl 3 rfl) ?_
    refine lv_aload_n hx hb dX2_cheapest_6 rfl (lv_at hl 0 rfl) ?_
    refine x_get (v := .int (σ 10 2)) C h (gX_Sp κ ad σ) rfl inX2_cheapest_X2 2 (by decide) (hts _ lkX2_cheapest_21) rfl dX2_cheapest_7 ?_
    refine lv_icmp_ge (tgt := 60) hx hb dX2_cheapest_10 (by decide) (fun c1 => ?_) (fun c1 => ?_)
    · have hf := tk_t c1 hf
      refine lv_iload_n hx hb dX2_cheapest_60 rfl (lv_at hl 2 rfl) ?_
      obtain rfl := so_ok hf
      exact x_iret C h dX2_cheapest_61
    · have hf := tk_f c1 hf
      refine lv_iload_n hx hb dX2_cheapest_13 rfl (lv_at hl 1 rfl) ?_
      refine lv_aload_n hx hb dX2_cheapest_14 rfl (lv_at hl 0 rfl) ?_
      refine x_get (v := .ref (ad 11)) C h (gX_Sp κ ad σ) rfl inX2_cheapest_X2 0 (by decide) (hts _ lkX2_cheapest_11) rfl dX2_cheapest_15 ?_
      refine lv_iload_n hx hb dX2_cheapest_18 rfl (lv_at hl 3 rfl) ?_
      obtain ⟨g2, hf⟩ := gd_ok hf
      have b3 : x3.toNatClampNeg < 6 := vp_lt g2
      refine x_aald (t0 := 3) (cn := "ButtonMatch$Tube") (b := ad (13 + x3.toNatClampNeg)) C h (gX_arT κ ad σ) rfl g2 rfl dX2_cheapest_19 ?_
      refine x_getN (v := .int (σ (13 + x3.toNatClampNeg) 5)) C h (gX_Tu κ ad σ b3) rfl inX2_cheapest_X5 5 (by decide) ((hZ.2.2.2.2.2.2.2.1 _ nkRX2_118).use rfl) rfl dX2_cheapest_20 ?_
      refine lv_imul hx hb dX2_cheapest_23 ?_
      refine lv_istore (lv' := [(4, .int (x1 * (σ (13 + x3.toNatClampNeg) 5))), (0, .ref (ad 10)), (1, .int x1), (2, .int x2), (3, .int x3)]) hx hb dX2_cheapest_24 hl (by decide) rfl (fun ls hl => ?_)
      refine lv_aload_n hx hb dX2_cheapest_26 rfl (lv_at hl 1 rfl) ?_
      refine x_get (v := .ref (ad 11)) C h (gX_Sp κ ad σ) rfl inX2_cheapest_X2 0 (by decide) (hts _ lkX2_cheapest_11) rfl dX2_cheapest_27 ?_
      refine lv_iload_n hx hb dX2_cheapest_30 rfl (lv_at hl 4 rfl) ?_
      refine x_aald (t0 := 3) (cn := "ButtonMatch$Tube") (b := ad (13 + x3.toNatClampNeg)) C h (gX_arT κ ad σ) rfl g2 rfl dX2_cheapest_31 ?_
      refine x_getN (v := .int (σ (13 + x3.toNatClampNeg) 4)) C h (gX_Tu κ ad σ b3) rfl inX2_cheapest_X5 4 (by decide) ((hZ.2.2.2.2.2.2.2.1 _ nkRX2_121).use rfl) rfl dX2_cheapest_32 ?_
      refine lv_iload_n hx hb dX2_cheapest_35 rfl (lv_at hl 2 rfl) ?_
      refine lv_icmp_lt (tgt := 54) hx hb dX2_cheapest_36 (by decide) (fun c4 => ?_) (fun c4 => ?_)
      · have hf := tk_t c4 hf
        refine lv_iinc (v := (x3 + 1)) (lv' := [(3, .int (x3 + 1)), (4, .int (x1 * (σ (13 + x3.toNatClampNeg) 5))), (0, .ref (ad 10)), (1, .int x1), (2, .int x2)]) hx hb dX2_cheapest_54 hl (k := 4) rfl rfl (by decide) rfl (fun ls hl => ?_)
        refine lv_goto (tgt := 5) hx hb dX2_cheapest_57 (by decide) ?_
        exact ih x2 (x3 + 1) _ _ _ h (lv_sub hl [2, 3, 4, 0] rfl) hf
      · have hf := tk_f c4 hf
        refine lv_iload_n hx hb dX2_cheapest_39 rfl (lv_at hl 3 rfl) ?_
        refine lv_bipush (v := (-9)) hx hb dX2_cheapest_40 (by decide) ?_
        refine lv_icmp_eq (tgt := 51) hx hb dX2_cheapest_42 (by decide) (fun c5 => ?_) (fun c5 => ?_)
        · have hf := tk_t c5 hf
          refine lv_iload hx hb dX2_cheapest_51 (lv_at hl 0 rfl) ?_
          refine lv_istore_n (lv' := [(2, .int (x1 * (σ (13 + x3.toNatClampNeg) 5))), (4, .int (x1 * (σ (13 + x3.toNatClampNeg) 5))), (0, .ref (ad 10)), (1, .int x1), (3, .int x3)]) hx hb dX2_cheapest_53 rfl hl (by decide) rfl (fun ls hl => ?_)
          refine lv_iinc (v := (x3 + 1)) (lv' := [(3, .int (x3 + 1)), (2, .int (x1 * (σ (13 + x3.toNatClampNeg) 5))), (4, .int (x1 * (σ (13 + x3.toNatClampNeg) 5))), (0, .ref (ad 10)), (1, .int x1)]) hx hb dX2_cheapest_54 hl (k := 4) rfl rfl (by decide) rfl (fun ls hl => ?_)
          refine lv_goto (tgt := 5) hx hb dX2_cheapest_57 (by decide) ?_
          exact ih (x1 * (σ (13 + x3.toNatClampNeg) 5)) (x3 + 1) _ _ _ h (lv_sub hl [3, 4, 1, 0] rfl) hf
        · have hf := tk_f c5 hf
          refine lv_iload hx hb dX2_cheapest_45 (lv_at hl 0 rfl) ?_
          refine lv_iload_n hx hb dX2_cheapest_47 rfl (lv_at hl 3 rfl) ?_
          refine lv_icmp_ge (tgt := 54) hx hb dX2_cheapest_48 (by decide) (fun c6 => ?_) (fun c6 => ?_)
          · have hf := tk_t c6 hf
            refine lv_iinc (v := (x3 + 1)) (lv' := [(3, .int (x3 + 1)), (4, .int (x1 * (σ (13 + x3.toNatClampNeg) 5))), (0, .ref (ad 10)), (1, .int x1), (2, .int x2)]) hx hb dX2_cheapest_54 hl (k := 4) rfl rfl (by decide) rfl (fun ls hl => ?_)
            refine lv_goto (tgt := 5) hx hb dX2_cheapest_57 (by decide) ?_
            exact ih x2 (x3 + 1) _ _ _ h (lv_sub hl [2, 3, 4, 0] rfl) hf
          · have hf := tk_f c6 hf
            refine lv_iload hx hb dX2_cheapest_51 (lv_at hl 0 rfl) ?_
            refine lv_istore_n (lv' := [(2, .int (x1 * (σ (13 + x3.toNatClampNeg) 5))), (4, .int (x1 * (σ (13 + x3.toNatClampNeg) 5))), (0, .ref (ad 10)), (1, .int x1), (3, .int x3)]) hx hb dX2_cheapest_53 rfl hl (by decide) rfl (fun ls hl => ?_)
            refine lv_iinc (v := (x3 + 1)) (lv' := [(3, .int (x3 + 1)), (2, .int (x1 * (σ (13 + x3.toNatClampNeg) 5))), (4, .int (x1 * (σ (13 + x3.toNatClampNeg) 5))), (0, .ref (ad 10)), (1, .int x1)]) hx hb dX2_cheapest_54 hl (k := 4) rfl rfl (by decide) rfl (fun ls hl => ?_)
            refine lv_goto (tgt := 5) hx hb dX2_cheapest_57 (by decide) ?_
            exact ih (x1 * (σ (13 + x3.toNatClampNeg) 5)) (x3 + 1) _ _ _ h (lv_sub hl [3, 4, 1, 0] rfl) hf
def fX2_cheapest (x1 : Int32) (σ : Sg) : Option (Int32) :=
  fX2_cheapest_5 σ x1 1000 (-9) 0
set_option maxHeartbeats 4000000 in
set_option maxRecDepth 100000 in
theorem kX2_cheapest (l : Launch) (D : va_G) (κ : Kp) (ad : Nat → Nat) (x1 : Int32) (σ : Sg) {r : Int32} (hf : fX2_cheapest x1 σ = some r) : Ci l D κ (wsX κ ad) yX2_cheapest wsX2_cheapest 0 0 [.ref (ad 10), .int x1] σ r σ := by
  refine Ci.of (cc := cX2_cheapest) (nL := 5) (ret := (some .int)) (by decide) rfl (Nat.le_of_ble_eq_true rfl) ?_
  intro p e s m below meth c A ls C h hl
  obtain ⟨hx, hb, hml, hr, hlk, hown, hts, hK, hA, hZ⟩ := id C
  have hl : lv_has ls 5 [(0, .ref (ad 10)), (1, .int x1)] := hl
  unfold fX2_cheapest at hf
  refine lv_bipush (v := (-9)) hx hb dX2_cheapest_0 (by decide) ?_
  refine lv_istore_n (lv' := [(2, .int (-9)), (0, .ref (ad 10)), (1, .int x1)]) hx hb dX2_cheapest_2 rfl hl (by decide) rfl (fun ls hl => ?_)
  refine lv_iconst (v := 0) hx hb dX2_cheapest_3 (by decide) ?_
  refine lv_istore_n (lv' := [(3, .int 0), (2, .int (-9)), (0, .ref (ad 10)), (1, .int x1)]) hx hb dX2_cheapest_4 rfl hl (by decide) rfl (fun ls hl => ?_)
  exact jX2_cheapest_5 C σ x1 1000 (-9) 0 _ _ _ h (lv_sub hl [2, 3, 1, 0] rfl) hf

-- ===== X2_buttons: ButtonMatch$Shop.buttons()I
theorem lkX2_buttons_21 : Cond.fieldLink RX2 21 "ButtonMatch$Shop" "tubeCount" "I" ∈ wsX2_buttons := by decide +kernel
theorem inX2_buttons_X2 : ∀ w ∈ wsX20, w ∈ wsX2_buttons := fun _ h => List.mem_cons_of_mem _ (List.mem_append_left _ (List.mem_append_right _ h))
theorem lkX2_buttons_11 : Cond.fieldLink RX2 11 "ButtonMatch$Shop" "tubes" "[LButtonMatch$Tube;" ∈ wsX2_buttons := by decide +kernel
theorem inX2_buttons_X5 : ∀ w ∈ wsX50, w ∈ wsX2_buttons := fun _ h => List.mem_cons_of_mem _ (List.mem_append_right _ h)
def fX2_buttons_4 (σ : Sg) : Nat → Int32 → Int32 → Option (Int32)
  | 0, _, _ => none
  | n + 1, x1, x2 => (if (σ 10 2) ≤ x2 then some x1 else (if gIn x2 6 then fX2_buttons_4 σ n (x1 + (σ (13 + x2.toNatClampNeg) 4)) (x2 + 1) else none))
set_option maxHeartbeats 4000000 in
set_option maxRecDepth 100000 in
theorem jX2_buttons_4 {p : Program} {l : Launch} {e : Env} {s : State} {m : MethodId} {args : Array Value} {below : List Frame} {meth : Method} {c : Code} {D : va_G} {κ : Kp} {ad : Nat → Nat} {A : Nat → Prop} {r : Int32} (C : Mc p s m args meth c cX2_buttons 3 (some .int) wsX2_buttons RX2 D κ A) (σ : Sg) : ∀ (n : Nat) (x1 : Int32) (x2 : Int32) (H : Heap) (locs : List Loc) (ls : Array Slot), Wd D (wsX κ ad) A s.heap H locs σ → lv_has ls 3 [(0, .ref (ad 10)), (1, .int x1), (2, .int x2)] → fX2_buttons_4 σ n x1 x2 = some r → W p l e { frames := 0, cells := 0, slots := 0, locals := 0 } s m args below meth c H locs 0 0 (Qi below args s D (wsX κ ad) A r σ) (F0 m 4 ls []) := by
  obtain ⟨hx, hb, hml, hr, hlk, hown, hts, hK, hA, hZ⟩ := id C
  intro n
  induction n with
  | zero =>
    intro x1 x2 H locs ls h hl hf
    rw [fX2_buttons_4] at hf
    cases hf
  | succ n ih =>
    intro x1 x2 H locs ls h hl hf
    rw [fX2_buttons_4] at hf
    refine lv_iload_n hx hb dX2_buttons_4 rfl (lv_at hl 2 rfl) ?_
    refine lv_aload_n hx hb dX2_buttons_5 rfl (lv_at hl 0 rfl) ?_
    refine x_get (v := .int (σ 10 2)) C h (gX_Sp κ ad σ) rfl inX2_buttons_X2 2 (by decide) (hts _ lkX2_buttons_21) rfl dX2_buttons_6 ?_
    refine lv_icmp_ge (tgt := 30) hx hb dX2_buttons_9 (by decide) (fun c1 => ?_) (fun c1 => ?_)
    · have hf := tk_t c1 hf
      refine lv_iload_n hx hb dX2_buttons_30 rfl (lv_at hl 1 rfl) ?_
      obtain rfl := so_ok hf
      exact x_iret C h dX2_buttons_31
    · have hf := tk_f c1 hf
      refine lv_iload_n hx hb dX2_buttons_12 rfl (lv_at hl 1 rfl) ?_
      refine lv_aload_n hx hb dX2_buttons_13 rfl (lv_at hl 0 rfl) ?_
      refine x_get (v := .ref (ad 11)) C h (gX_Sp κ ad σ) rfl inX2_buttons_X2 0 (by decide) (hts _ lkX2_buttons_11) rfl dX2_buttons_14 ?_
      refine lv_iload_n hx hb dX2_buttons_17 rfl (lv_at hl 2 rfl) ?_
      obtain ⟨g2, hf⟩ := gd_ok hf
      have b3 : x2.toNatClampNeg < 6 := vp_lt g2
      refine x_aald (t0 := 3) (cn := "ButtonMatch$Tube") (b := ad (13 + x2.toNatClampNeg)) C h (gX_arT κ ad σ) rfl g2 rfl dX2_buttons_18 ?_
      refine x_getN (v := .int (σ (13 + x2.toNatClampNeg) 4)) C h (gX_Tu κ ad σ b3) rfl inX2_buttons_X5 4 (by decide) ((hZ.2.2.2.2.2.2.2.1 _ nkRX2_121).use rfl) rfl dX2_buttons_19 ?_
      refine lv_iadd hx hb dX2_buttons_22 ?_
      refine lv_istore_n (lv' := [(1, .int (x1 + (σ (13 + x2.toNatClampNeg) 4))), (0, .ref (ad 10)), (2, .int x2)]) hx hb dX2_buttons_23 rfl hl (by decide) rfl (fun ls hl => ?_)
      refine lv_iinc (v := (x2 + 1)) (lv' := [(2, .int (x2 + 1)), (1, .int (x1 + (σ (13 + x2.toNatClampNeg) 4))), (0, .ref (ad 10))]) hx hb dX2_buttons_24 hl (k := 2) rfl rfl (by decide) rfl (fun ls hl => ?_)
      refine lv_goto (tgt := 4) hx hb dX2_buttons_27 (by decide) ?_
      exact ih (x1 + (σ (13 + x2.toNatClampNeg) 4)) (x2 + 1) _ _ _ h (lv_sub hl [2, 1, 0] rfl) hf
def fX2_buttons (σ : Sg) : Option (Int32) :=
  fX2_buttons_4 σ 1000 0 0
set_option maxHeartbeats 4000000 in
set_option maxRecDepth 100000 in
theorem kX2_buttons (l : Launch) (D : va_G) (κ : Kp) (ad : Nat → Nat) (σ : Sg) {r : Int32} (hf : fX2_buttons σ = some r) : Ci l D κ (wsX κ ad) yX2_buttons wsX2_buttons 0 0 [.ref (ad 10)] σ r σ := by
  refine Ci.of (cc := cX2_buttons) (nL := 3) (ret := (some .int)) (by decide) rfl (Nat.le_of_ble_eq_true rfl) ?_
  intro p e s m below meth c A ls C h hl
  obtain ⟨hx, hb, hml, hr, hlk, hown, hts, hK, hA, hZ⟩ := id C
  have hl : lv_has ls 3 [(0, .ref (ad 10))] := hl
  unfold fX2_buttons at hf
  refine lv_iconst (v := 0) hx hb dX2_buttons_0 (by decide) ?_
  refine lv_istore_n (lv' := [(1, .int 0), (0, .ref (ad 10))]) hx hb dX2_buttons_1 rfl hl (by decide) rfl (fun ls hl => ?_)
  refine lv_iconst (v := 0) hx hb dX2_buttons_2 (by decide) ?_
  refine lv_istore_n (lv' := [(2, .int 0), (1, .int 0), (0, .ref (ad 10))]) hx hb dX2_buttons_3 rfl hl (by decide) rfl (fun ls hl => ?_)
  exact jX2_buttons_4 C σ 1000 0 0 _ _ _ h (lv_sub hl [2, 1, 0] rfl) hf

-- ===== X2_alikeButtons: ButtonMatch$Shop.alikeButtons()I
theorem lkX2_alikeButtons_21 : Cond.fieldLink RX2 21 "ButtonMatch$Shop" "tubeCount" "I" ∈ wsX2_alikeButtons := by decide +kernel
theorem inX2_alikeButtons_X2 : ∀ w ∈ wsX20, w ∈ wsX2_alikeButtons := fun _ h => List.mem_cons_of_mem _ (List.mem_append_left _ (List.mem_append_right _ h))
theorem lkX2_alikeButtons_11 : Cond.fieldLink RX2 11 "ButtonMatch$Shop" "tubes" "[LButtonMatch$Tube;" ∈ wsX2_alikeButtons := by decide +kernel
theorem inX2_alikeButtons_X5 : ∀ w ∈ wsX50, w ∈ wsX2_alikeButtons := fun _ h => List.mem_cons_of_mem _ (List.mem_append_right _ h)
def fX2_alikeButtons_4 (σ : Sg) : Nat → Int32 → Int32 → Option (Int32)
  | 0, _, _ => none
  | n + 1, x1, x2 => (if (σ 10 2) ≤ x2 then some x1 else ((fX2_isAlike x2 σ).bind fun r3 => (if r3 = 0 then fX2_alikeButtons_4 σ n (x1 + 0) (x2 + 1) else (if gIn x2 6 then fX2_alikeButtons_4 σ n (x1 + (σ (13 + x2.toNatClampNeg) 4)) (x2 + 1) else none))))
set_option maxHeartbeats 4000000 in
set_option maxRecDepth 100000 in
theorem jX2_alikeButtons_4 {p : Program} {l : Launch} {e : Env} {s : State} {m : MethodId} {args : Array Value} {below : List Frame} {meth : Method} {c : Code} {D : va_G} {κ : Kp} {ad : Nat → Nat} {A : Nat → Prop} {r : Int32} (C : Mc p s m args meth c cX2_alikeButtons 3 (some .int) wsX2_alikeButtons RX2 D κ A) (σ : Sg) : ∀ (n : Nat) (x1 : Int32) (x2 : Int32) (H : Heap) (locs : List Loc) (ls : Array Slot), Wd D (wsX κ ad) A s.heap H locs σ → lv_has ls 3 [(0, .ref (ad 10)), (1, .int x1), (2, .int x2)] → fX2_alikeButtons_4 σ n x1 x2 = some r → W p l e { frames := 5, cells := 0, slots := 0, locals := 109 } s m args below meth c H locs 0 0 (Qi below args s D (wsX κ ad) A r σ) (F0 m 4 ls []) := by
  obtain ⟨hx, hb, hml, hr, hlk, hown, hts, hK, hA, hZ⟩ := id C
  intro n
  induction n with
  | zero =>
    intro x1 x2 H locs ls h hl hf
    rw [fX2_alikeButtons_4] at hf
    cases hf
  | succ n ih =>
    intro x1 x2 H locs ls h hl hf
    rw [fX2_alikeButtons_4] at hf
    refine lv_iload_n hx hb dX2_alikeButtons_4 rfl (lv_at hl 2 rfl) ?_
    refine lv_aload_n hx hb dX2_alikeButtons_5 rfl (lv_at hl 0 rfl) ?_
    refine x_get (v := .int (σ 10 2)) C h (gX_Sp κ ad σ) rfl inX2_alikeButtons_X2 2 (by decide) (hts _ lkX2_alikeButtons_21) rfl dX2_alikeButtons_6 ?_
    refine lv_icmp_ge (tgt := 42) hx hb dX2_alikeButtons_9 (by decide) (fun c1 => ?_) (fun c1 => ?_)
    · have hf := tk_t c1 hf
      refine lv_iload_n hx hb dX2_alikeButtons_42 rfl (lv_at hl 1 rfl) ?_
      obtain rfl := so_ok hf
      exact x_iret C h dX2_alikeButtons_43
    · have hf := tk_f c1 hf
      refine lv_iload_n hx hb dX2_alikeButtons_12 rfl (lv_at hl 1 rfl) ?_
      refine lv_aload_n hx hb dX2_alikeButtons_13 rfl (lv_at hl 0 rfl) ?_
      refine lv_iload_n hx hb dX2_alikeButtons_14 rfl (lv_at hl 2 rfl) ?_
      obtain ⟨r3, hg2, hf⟩ := bd_ok hf
      refine x_vi (As := [.int x2]) (rest := [.int x1]) C h (gX_Sp κ ad σ) rfl (kX2_isAlike l D κ ad x2 σ (r := r3) hg2) (fun hts => cwV 1 hts gX2_alikeButtons_X2_isAlike rfl rfl rfl (by decide +kernel) ⟨Nat.le_of_ble_eq_true rfl, Nat.le_of_ble_eq_true rfl⟩) rfl hl.1 (Nat.le_of_ble_eq_true rfl) rfl dX2_alikeButtons_15 (fun H locs h => ?_)
      refine lv_if_eq (tgt := 33) hx hb dX2_alikeButtons_18 (by decide) (fun c4 => ?_) (fun c4 => ?_)
      · have hf := tk_t c4 hf
        refine lv_iconst (v := 0) hx hb dX2_alikeButtons_33 (by decide) ?_
        refine lv_iadd hx hb dX2_alikeButtons_34 ?_
        refine lv_istore_n (lv' := [(1, .int (x1 + 0)), (0, .ref (ad 10)), (2, .int x2)]) hx hb dX2_alikeButtons_35 rfl hl (by decide) rfl (fun ls hl => ?_)
        refine lv_iinc (v := (x2 + 1)) (lv' := [(2, .int (x2 + 1)), (1, .int (x1 + 0)), (0, .ref (ad 10))]) hx hb dX2_alikeButtons_36 hl (k := 2) rfl rfl (by decide) rfl (fun ls hl => ?_)
        refine lv_goto (tgt := 4) hx hb dX2_alikeButtons_39 (by decide) ?_
        exact ih (x1 + 0) (x2 + 1) _ _ _ h (lv_sub hl [2, 1, 0] rfl) hf
      · have hf := tk_f c4 hf
        refine lv_aload_n hx hb dX2_alikeButtons_21 rfl (lv_at hl 0 rfl) ?_
        refine x_get (v := .ref (ad 11)) C h (gX_Sp κ ad σ) rfl inX2_alikeButtons_X2 0 (by decide) (hts _ lkX2_alikeButtons_11) rfl dX2_alikeButtons_22 ?_
        refine lv_iload_n hx hb dX2_alikeButtons_25 rfl (lv_at hl 2 rfl) ?_
        obtain ⟨g5, hf⟩ := gd_ok hf
        have b6 : x2.toNatClampNeg < 6 := vp_lt g5
        refine x_aald (t0 := 3) (cn := "ButtonMatch$Tube") (b := ad (13 + x2.toNatClampNeg)) C h (gX_arT κ ad σ) rfl g5 rfl dX2_alikeButtons_26 ?_
        refine x_getN (v := .int (σ (13 + x2.toNatClampNeg) 4)) C h (gX_Tu κ ad σ b6) rfl inX2_alikeButtons_X5 4 (by decide) ((hZ.2.2.2.2.2.2.2.1 _ nkRX2_121).use rfl) rfl dX2_alikeButtons_27 ?_
        refine lv_goto (tgt := 34) hx hb dX2_alikeButtons_30 (by decide) ?_
        refine lv_iadd hx hb dX2_alikeButtons_34 ?_
        refine lv_istore_n (lv' := [(1, .int (x1 + (σ (13 + x2.toNatClampNeg) 4))), (0, .ref (ad 10)), (2, .int x2)]) hx hb dX2_alikeButtons_35 rfl hl (by decide) rfl (fun ls hl => ?_)
        refine lv_iinc (v := (x2 + 1)) (lv' := [(2, .int (x2 + 1)), (1, .int (x1 + (σ (13 + x2.toNatClampNeg) 4))), (0, .ref (ad 10))]) hx hb dX2_alikeButtons_36 hl (k := 2) rfl rfl (by decide) rfl (fun ls hl => ?_)
        refine lv_goto (tgt := 4) hx hb dX2_alikeButtons_39 (by decide) ?_
        exact ih (x1 + (σ (13 + x2.toNatClampNeg) 4)) (x2 + 1) _ _ _ h (lv_sub hl [2, 1, 0] rfl) hf
def fX2_alikeButtons (σ : Sg) : Option (Int32) :=
  fX2_alikeButtons_4 σ 1000 0 0
set_option maxHeartbeats 4000000 in
set_option maxRecDepth 100000 in
theorem kX2_alikeButtons (l : Launch) (D : va_G) (κ : Kp) (ad : Nat → Nat) (σ : Sg) {r : Int32} (hf : fX2_alikeButtons σ = some r) : Ci l D κ (wsX κ ad) yX2_alikeButtons wsX2_alikeButtons 5 109 [.ref (ad 10)] σ r σ := by
  refine Ci.of (cc := cX2_alikeButtons) (nL := 3) (ret := (some .int)) (by decide) rfl (Nat.le_of_ble_eq_true rfl) ?_
  intro p e s m below meth c A ls C h hl
  obtain ⟨hx, hb, hml, hr, hlk, hown, hts, hK, hA, hZ⟩ := id C
  have hl : lv_has ls 3 [(0, .ref (ad 10))] := hl
  unfold fX2_alikeButtons at hf
  refine lv_iconst (v := 0) hx hb dX2_alikeButtons_0 (by decide) ?_
  refine lv_istore_n (lv' := [(1, .int 0), (0, .ref (ad 10))]) hx hb dX2_alikeButtons_1 rfl hl (by decide) rfl (fun ls hl => ?_)
  refine lv_iconst (v := 0) hx hb dX2_alikeButtons_2 (by decide) ?_
  refine lv_istore_n (lv' := [(2, .int 0), (1, .int 0), (0, .ref (ad 10))]) hx hb dX2_alikeButtons_3 rfl hl (by decide) rfl (fun ls hl => ?_)
  exact jX2_alikeButtons_4 C σ 1000 0 0 _ _ _ h (lv_sub hl [2, 1, 0] rfl) hf

-- ===== X0_add: ButtonMatch$Readings.add(IZ)I
theorem lkX0_add_19 : Cond.fieldLink RX0 19 "ButtonMatch$Readings" "count" "I" ∈ wsX0_add := by decide +kernel
theorem inX0_add_X0 : ∀ w ∈ wsX00, w ∈ wsX0_add := fun _ h => List.mem_cons_of_mem _ (List.mem_append_right _ h)
theorem lkX0_add_9 : Cond.fieldLink RX0 9 "ButtonMatch$Readings" "tubes" "[I" ∈ wsX0_add := by decide +kernel
theorem lkX0_add_15 : Cond.fieldLink RX0 15 "ButtonMatch$Readings" "alikes" "[Z" ∈ wsX0_add := by decide +kernel
def fX0_add (x1 : Int32) (x2 : Int32) (σ : Sg) : Option (Int32 × Sg) :=
  (if (σ 19 2) < 8 then (if gIn (σ 19 2) 8 then some ((σ 19 2), (up2 (up2 (up2 σ 20 ((σ 19 2).toNatClampNeg) x1) 21 ((σ 19 2).toNatClampNeg) (vp_nar .boolean x2)) 19 2 ((σ 19 2) + 1))) else none) else some ((-4), σ))
set_option maxHeartbeats 4000000 in
set_option maxRecDepth 100000 in
theorem kX0_add (l : Launch) (D : va_G) (κ : Kp) (ad : Nat → Nat) (x1 : Int32) (x2 : Int32) (σ : Sg) {r : Int32} {τ : Sg} (hf : fX0_add x1 x2 σ = some (r, τ)) : Ci l D κ (wsX κ ad) yX0_add wsX0_add 0 0 [.ref (ad 19), .int x1, .int x2] σ r τ := by
  refine Ci.of (cc := cX0_add) (nL := 4) (ret := (some .int)) (by decide) rfl (Nat.le_of_ble_eq_true rfl) ?_
  intro p e s m below meth c A ls C h hl
  obtain ⟨hx, hb, hml, hr, hlk, hown, hts, hK, hA, hZ⟩ := id C
  have hl : lv_has ls 4 [(0, .ref (ad 19)), (1, .int x1), (2, .int x2)] := hl
  unfold fX0_add at hf
  refine lv_aload_n hx hb dX0_add_0 rfl (lv_at hl 0 rfl) ?_
  refine x_get (v := .int (σ 19 2)) C h (gX_Rd κ ad σ) rfl inX0_add_X0 2 (by decide) (hts _ lkX0_add_19) rfl dX0_add_1 ?_
  refine lv_bipush (v := 8) hx hb dX0_add_4 (by decide) ?_
  refine lv_icmp_lt (tgt := 12) hx hb dX0_add_6 (by decide) (fun c1 => ?_) (fun c1 => ?_)
  · have hf := tk_t c1 hf
    refine lv_aload_n hx hb dX0_add_12 rfl (lv_at hl 0 rfl) ?_
    refine x_get (v := .int (σ 19 2)) C h (gX_Rd κ ad σ) rfl inX0_add_X0 2 (by decide) (hts _ lkX0_add_19) rfl dX0_add_13 ?_
    refine lv_istore_n (lv' := [(3, .int (σ 19 2)), (0, .ref (ad 19)), (1, .int x1), (2, .int x2)]) hx hb dX0_add_16 rfl hl (by decide) rfl (fun ls hl => ?_)
    refine lv_aload_n hx hb dX0_add_17 rfl (lv_at hl 1 rfl) ?_
    refine x_get (v := .ref (ad 20)) C h (gX_Rd κ ad σ) rfl inX0_add_X0 0 (by decide) (hts _ lkX0_add_9) rfl dX0_add_18 ?_
    refine lv_iload_n hx hb dX0_add_21 rfl (lv_at hl 0 rfl) ?_
    refine lv_iload_n hx hb dX0_add_22 rfl (lv_at hl 2 rfl) ?_
    obtain ⟨g2, hf⟩ := gd_ok hf
    refine x_iast C h (gX_rt κ ad σ) (sX_rt κ ad σ ((σ 19 2).toNatClampNeg) x1) g2 dX0_add_23 (fun H locs h => ?_)
    refine lv_aload_n hx hb dX0_add_24 rfl (lv_at hl 1 rfl) ?_
    refine x_get (v := .ref (ad 21)) C h (gX_Rd κ ad (up2 σ 20 ((σ 19 2).toNatClampNeg) x1)) rfl inX0_add_X0 1 (by decide) (hts _ lkX0_add_15) rfl dX0_add_25 ?_
    refine lv_iload_n hx hb dX0_add_28 rfl (lv_at hl 0 rfl) ?_
    refine lv_iload_n hx hb dX0_add_29 rfl (lv_at hl 3 rfl) ?_
    refine x_zast C h (gX_ra κ ad (up2 σ 20 ((σ 19 2).toNatClampNeg) x1)) (sX_ra κ ad (up2 σ 20 ((σ 19 2).toNatClampNeg) x1) ((σ 19 2).toNatClampNeg) (vp_nar .boolean x2)) g2 dX0_add_30 (fun H locs h => ?_)
    refine lv_aload_n hx hb dX0_add_31 rfl (lv_at hl 1 rfl) ?_
    refine lv_iload_n hx hb dX0_add_32 rfl (lv_at hl 0 rfl) ?_
    refine lv_iconst (v := 1) hx hb dX0_add_33 (by decide) ?_
    refine lv_iadd hx hb dX0_add_34 ?_
    refine x_put C h (gX_Rd κ ad (up2 (up2 σ 20 ((σ 19 2).toNatClampNeg) x1) 21 ((σ 19 2).toNatClampNeg) (vp_nar .boolean x2))) rfl inX0_add_X0 tyX0 tyX0_ok nmX0 2 (by decide) (hts _ lkX0_add_19) rfl (tyX0_ok 2 (by decide)) (Nat.le_of_ble_eq_true rfl) (sX_Rd_2 κ ad (up2 (up2 σ 20 ((σ 19 2).toNatClampNeg) x1) 21 ((σ 19 2).toNatClampNeg) (vp_nar .boolean x2)) ((σ 19 2) + 1)) dX0_add_35 (fun H locs h => ?_)
    refine lv_iload_n hx hb dX0_add_38 rfl (lv_at hl 0 rfl) ?_
    obtain ⟨rfl, rfl⟩ := pr_ok hf
    exact x_iret C h dX0_add_39
  · have hf := tk_f c1 hf
    refine lv_bipush (v := (-4)) hx hb dX0_add_9 (by decide) ?_
    obtain ⟨rfl, rfl⟩ := pr_ok hf
    exact x_iret C h dX0_add_11

-- ===== X0_fit: ButtonMatch$Readings.fit(LButtonMatch$Shop;)Z
theorem lkX0_fit_19 : Cond.fieldLink RX0 19 "ButtonMatch$Readings" "count" "I" ∈ wsX0_fit := by decide +kernel
theorem inX0_fit_X0 : ∀ w ∈ wsX00, w ∈ wsX0_fit := fun _ h => List.mem_cons_of_mem _ (List.mem_append_left _ (List.mem_append_left _ (List.mem_append_right _ h)))
theorem lkX0_fit_9 : Cond.fieldLink RX0 9 "ButtonMatch$Readings" "tubes" "[I" ∈ wsX0_fit := by decide +kernel
theorem lkX0_fit_15 : Cond.fieldLink RX0 15 "ButtonMatch$Readings" "alikes" "[Z" ∈ wsX0_fit := by decide +kernel
def fX0_fit_2 (σ : Sg) : Nat → Int32 → Option (Int32)
  | 0, _ => none
  | n + 1, x2 => (if (σ 19 2) ≤ x2 then some 1 else (if gIn x2 8 then ((fX2_isAlike (σ 20 x2.toNatClampNeg) σ).bind fun r4 => (if r4 = (σ 21 x2.toNatClampNeg) then fX0_fit_2 σ n (x2 + 1) else some 0)) else none))
set_option maxHeartbeats 4000000 in
set_option maxRecDepth 100000 in
theorem jX0_fit_2 {p : Program} {l : Launch} {e : Env} {s : State} {m : MethodId} {args : Array Value} {below : List Frame} {meth : Method} {c : Code} {D : va_G} {κ : Kp} {ad : Nat → Nat} {A : Nat → Prop} {r : Int32} (C : Mc p s m args meth c cX0_fit 3 (some .boolean) wsX0_fit RX0 D κ A) (σ : Sg) : ∀ (n : Nat) (x2 : Int32) (H : Heap) (locs : List Loc) (ls : Array Slot), Wd D (wsX κ ad) A s.heap H locs σ → lv_has ls 3 [(0, .ref (ad 19)), (1, .ref (ad 10)), (2, .int x2)] → fX0_fit_2 σ n x2 = some r → W p l e { frames := 5, cells := 0, slots := 0, locals := 109 } s m args below meth c H locs 0 0 (Qi below args s D (wsX κ ad) A r σ) (F0 m 2 ls []) := by
  obtain ⟨hx, hb, hml, hr, hlk, hown, hts, hK, hA, hZ⟩ := id C
  intro n
  induction n with
  | zero =>
    intro x2 H locs ls h hl hf
    rw [fX0_fit_2] at hf
    cases hf
  | succ n ih =>
    intro x2 H locs ls h hl hf
    rw [fX0_fit_2] at hf
    refine lv_iload_n hx hb dX0_fit_2 rfl (lv_at hl 2 rfl) ?_
    refine lv_aload_n hx hb dX0_fit_3 rfl (lv_at hl 0 rfl) ?_
    refine x_get (v := .int (σ 19 2)) C h (gX_Rd κ ad σ) rfl inX0_fit_X0 2 (by decide) (hts _ lkX0_fit_19) rfl dX0_fit_4 ?_
    refine lv_icmp_ge (tgt := 37) hx hb dX0_fit_7 (by decide) (fun c1 => ?_) (fun c1 => ?_)
    · have hf := tk_t c1 hf
      refine lv_iconst (v := 1) hx hb dX0_fit_37 (by decide) ?_
      obtain rfl := so_ok hf
      exact x_zret C rfl h dX0_fit_38
    · have hf := tk_f c1 hf
      refine lv_aload_n hx hb dX0_fit_10 rfl (lv_at hl 1 rfl) ?_
      refine lv_aload_n hx hb dX0_fit_11 rfl (lv_at hl 0 rfl) ?_
      refine x_get (v := .ref (ad 20)) C h (gX_Rd κ ad σ) rfl inX0_fit_X0 0 (by decide) (hts _ lkX0_fit_9) rfl dX0_fit_12 ?_
      refine lv_iload_n hx hb dX0_fit_15 rfl (lv_at hl 2 rfl) ?_
      obtain ⟨g2, hf⟩ := gd_ok hf
      refine x_iald (v := (σ 20 x2.toNatClampNeg)) C h (gX_rt κ ad σ) g2 rfl dX0_fit_16 ?_
      obtain ⟨r4, hg3, hf⟩ := bd_ok hf
      refine x_vi (As := [.int (σ 20 x2.toNatClampNeg)]) (rest := []) C h (gX_Sp κ ad σ) rfl (kX2_isAlike l D κ ad (σ 20 x2.toNatClampNeg) σ (r := r4) hg3) (fun hts => cwV 1 hts gX0_fit_X2_isAlike rfl rfl rfl (by decide +kernel) ⟨Nat.le_of_ble_eq_true rfl, Nat.le_of_ble_eq_true rfl⟩) rfl hl.1 (Nat.le_of_ble_eq_true rfl) rfl dX0_fit_17 (fun H locs h => ?_)
      refine lv_aload_n hx hb dX0_fit_20 rfl (lv_at hl 0 rfl) ?_
      refine x_get (v := .ref (ad 21)) C h (gX_Rd κ ad σ) rfl inX0_fit_X0 1 (by decide) (hts _ lkX0_fit_15) rfl dX0_fit_21 ?_
      refine lv_iload_n hx hb dX0_fit_24 rfl (lv_at hl 2 rfl) ?_
      refine x_zald (v := (σ 21 x2.toNatClampNeg)) C h (gX_ra κ ad σ) g2 rfl dX0_fit_25 ?_
      refine lv_icmp_eq (tgt := 31) hx hb dX0_fit_26 (by decide) (fun c5 => ?_) (fun c5 => ?_)
      · have hf := tk_t c5 hf
        refine lv_iinc (v := (x2 + 1)) (lv' := [(2, .int (x2 + 1)), (0, .ref (ad 19)), (1, .ref (ad 10))]) hx hb dX0_fit_31 hl (k := 2) rfl rfl (by decide) rfl (fun ls hl => ?_)
        refine lv_goto (tgt := 2) hx hb dX0_fit_34 (by decide) ?_
        exact ih (x2 + 1) _ _ _ h (lv_sub hl [1, 2, 0] rfl) hf
      · have hf := tk_f c5 hf
        refine lv_iconst (v := 0) hx hb dX0_fit_29 (by decide) ?_
        obtain rfl := so_ok hf
        exact x_zret C rfl h dX0_fit_30
def fX0_fit (σ : Sg) : Option (Int32) :=
  fX0_fit_2 σ 1000 0
set_option maxHeartbeats 4000000 in
set_option maxRecDepth 100000 in
theorem kX0_fit (l : Launch) (D : va_G) (κ : Kp) (ad : Nat → Nat) (σ : Sg) {r : Int32} (hf : fX0_fit σ = some r) : Ci l D κ (wsX κ ad) yX0_fit wsX0_fit 5 109 [.ref (ad 19), .ref (ad 10)] σ r σ := by
  refine Ci.of (cc := cX0_fit) (nL := 3) (ret := (some .boolean)) (by decide) rfl (Nat.le_of_ble_eq_true rfl) ?_
  intro p e s m below meth c A ls C h hl
  obtain ⟨hx, hb, hml, hr, hlk, hown, hts, hK, hA, hZ⟩ := id C
  have hl : lv_has ls 3 [(0, .ref (ad 19)), (1, .ref (ad 10))] := hl
  unfold fX0_fit at hf
  refine lv_iconst (v := 0) hx hb dX0_fit_0 (by decide) ?_
  refine lv_istore_n (lv' := [(2, .int 0), (0, .ref (ad 19)), (1, .ref (ad 10))]) hx hb dX0_fit_1 rfl hl (by decide) rfl (fun ls hl => ?_)
  exact jX0_fit_2 C σ 1000 0 _ _ _ h (lv_sub hl [1, 2, 0] rfl) hf
