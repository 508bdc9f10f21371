-- ===== X7_within: ButtonMatchModel.within(III)Z
def fX7_within (x0 : Int32) (x1 : Int32) (x2 : Int32) (σ : Sg) : Int32 :=
  (if x0 < x1 then 0 else (if x2 < x0 then 0 else 1))
set_option maxHeartbeats 4000000 in
set_option maxRecDepth 100000 in
theorem kX7_within (l : Launch) (D : va_G) (κ : Kp) (ad : Nat → Nat) (x0 : Int32) (x1 : Int32) (x2 : Int32) (σ : Sg) {r : Int32} (hf : fX7_within x0 x1 x2 σ = r) : Ci l D κ (wsM κ ad) yX7_within wsX7_within 0 0 [.int x0, .int x1, .int x2] σ r σ := by
  refine Ci.of (cc := cX7_within) (nL := 3) (ret := (some .boolean)) (by decide) rfl (Nat.le_of_ble_eq_true rfl) ?_
  intro p e s m below meth c A ls C h hl
  obtain ⟨hx, hb, hml, hr, hlk, hown, hts, hK, hA, hZ⟩ := id C
  have hl : lv_has ls 3 [(0, .int x0), (1, .int x1), (2, .int x2)] := hl
  unfold fX7_within at hf
  refine lv_iload_n hx hb dX7_within_0 rfl (lv_at hl 0 rfl) ?_
  refine lv_iload_n hx hb dX7_within_1 rfl (lv_at hl 1 rfl) ?_
  refine lv_icmp_lt (tgt := 14) hx hb dX7_within_2 (by decide) (fun c1 => ?_) (fun c1 => ?_)
  · have hf := tk_t c1 hf
    refine lv_iconst (v := 0) hx hb dX7_within_14 (by decide) ?_
    subst hf
    exact x_zret C rfl h dX7_within_15
  · have hf := tk_f c1 hf
    refine lv_iload_n hx hb dX7_within_5 rfl (lv_at hl 0 rfl) ?_
    refine lv_iload_n hx hb dX7_within_6 rfl (lv_at hl 2 rfl) ?_
    refine lv_icmp_gt (tgt := 14) hx hb dX7_within_7 (by decide) (fun c2 => ?_) (fun c2 => ?_)
    · have hf := tk_t c2 hf
      refine lv_iconst (v := 0) hx hb dX7_within_14 (by decide) ?_
      subst hf
      exact x_zret C rfl h dX7_within_15
    · have hf := tk_f c2 hf
      refine lv_iconst (v := 1) hx hb dX7_within_10 (by decide) ?_
      refine lv_goto (tgt := 15) hx hb dX7_within_11 (by decide) ?_
      subst hf
      exact x_zret C rfl h dX7_within_15
theorem nzX7_within (x0 : Int32) (x1 : Int32) (x2 : Int32) (σ : Sg) : narrow .boolean (.int (fX7_within x0 x1 x2 σ)) = .int (fX7_within x0 x1 x2 σ) := by
  unfold fX7_within
  repeat' split
  all_goals rfl

-- ===== X7_wanted: ButtonMatchModel.wanted(I)I
theorem lkX7_wanted_72 : Cond.fieldLink RX7 72 "ButtonMatchModel" "tubes" "I" ∈ wsX7_wanted := by decide +kernel
theorem inX7_wanted_X7 : ∀ w ∈ wsX70, w ∈ wsX7_wanted := fun _ h => List.mem_cons_of_mem _ (List.mem_append_right _ h)
theorem lkX7_wanted_108 : Cond.fieldLink RX7 108 "ButtonMatchModel" "sewing" "I" ∈ wsX7_wanted := by decide +kernel
theorem lkX7_wanted_105 : Cond.fieldLink RX7 105 "ButtonMatchModel" "wantedHoles" "I" ∈ wsX7_wanted := by decide +kernel
theorem lkX7_wanted_102 : Cond.fieldLink RX7 102 "ButtonMatchModel" "wantedSize" "I" ∈ wsX7_wanted := by decide +kernel
theorem lkX7_wanted_99 : Cond.fieldLink RX7 99 "ButtonMatchModel" "wantedColour" "I" ∈ wsX7_wanted := by decide +kernel
def fX7_wanted (x1 : Int32) (σ : Sg) : Int32 :=
  (if (fX7_within x1 0 3 σ) = 0 then (-2) else (if (σ 0 10) = 0 then (-3) else (if x1 = 0 then (σ 0 5) else (if x1 = 1 then (σ 0 6) else (if x1 = 2 then (σ 0 7) else (σ 0 8))))))
set_option maxHeartbeats 4000000 in
set_option maxRecDepth 100000 in
theorem kX7_wanted (l : Launch) (D : va_G) (κ : Kp) (ad : Nat → Nat) (x1 : Int32) (σ : Sg) {r : Int32} (hf : fX7_wanted x1 σ = r) : Ci l D κ (wsM κ ad) yX7_wanted wsX7_wanted 1 22 [.ref (ad 0), .int x1] σ r σ := by
  refine Ci.of (cc := cX7_wanted) (nL := 2) (ret := (some .int)) (by decide) rfl (Nat.le_of_ble_eq_true rfl) ?_
  intro p e s m below meth c A ls C h hl
  obtain ⟨hx, hb, hml, hr, hlk, hown, hts, hK, hA, hZ⟩ := id C
  have hl : lv_has ls 2 [(0, .ref (ad 0)), (1, .int x1)] := hl
  unfold fX7_wanted at hf
  refine lv_iload_n hx hb dX7_wanted_0 rfl (lv_at hl 1 rfl) ?_
  refine lv_iconst (v := 0) hx hb dX7_wanted_1 (by decide) ?_
  refine lv_iconst (v := 3) hx hb dX7_wanted_2 (by decide) ?_
  refine x_si (As := [.int x1, .int 0, .int 3]) (rest := []) C h (kX7_within l D κ ad x1 0 3 σ (r := (fX7_within x1 0 3 σ)) rfl) (fun hts => va_cwS 3 hts gX7_wanted_X7_within rfl rfl rfl (by decide +kernel) ⟨Nat.le_of_ble_eq_true rfl, Nat.le_of_ble_eq_true rfl⟩) rfl hl.1 (Nat.le_of_ble_eq_true rfl) rfl dX7_wanted_3 (fun H locs h => ?_)
  refine lv_if_ne (tgt := 12) hx hb dX7_wanted_6 (by decide) (fun c1 => ?_) (fun c1 => ?_)
  · have hf := tk_f c1 hf
    refine lv_aload_n hx hb dX7_wanted_12 rfl (lv_at hl 0 rfl) ?_
    refine x_get (v := .int (σ 0 10)) C h (gM_Mo κ ad σ) rfl inX7_wanted_X7 10 (by decide) (hts _ lkX7_wanted_72) rfl dX7_wanted_13 ?_
    refine lv_if_ne (tgt := 22) hx hb dX7_wanted_16 (by decide) (fun c2 => ?_) (fun c2 => ?_)
    · have hf := tk_f c2 hf
      refine lv_iload_n hx hb dX7_wanted_22 rfl (lv_at hl 1 rfl) ?_
      refine lv_if_ne (tgt := 33) hx hb dX7_wanted_23 (by decide) (fun c3 => ?_) (fun c3 => ?_)
      · have hf := tk_f c3 hf
        refine lv_iload_n hx hb dX7_wanted_33 rfl (lv_at hl 1 rfl) ?_
        refine lv_iconst (v := 1) hx hb dX7_wanted_34 (by decide) ?_
        refine lv_icmp_ne (tgt := 45) hx hb dX7_wanted_35 (by decide) (fun c4 => ?_) (fun c4 => ?_)
        · have hf := tk_f c4 hf
          refine lv_iload_n hx hb dX7_wanted_45 rfl (lv_at hl 1 rfl) ?_
          refine lv_iconst (v := 2) hx hb dX7_wanted_46 (by decide) ?_
          refine lv_icmp_ne (tgt := 57) hx hb dX7_wanted_47 (by decide) (fun c5 => ?_) (fun c5 => ?_)
          · have hf := tk_f c5 hf
            refine lv_aload_n hx hb dX7_wanted_57 rfl (lv_at hl 0 rfl) ?_
            refine x_get (v := .int (σ 0 8)) C h (gM_Mo κ ad σ) rfl inX7_wanted_X7 8 (by decide) (hts _ lkX7_wanted_108) rfl dX7_wanted_58 ?_
            subst hf
            exact x_iret C h dX7_wanted_61
          · have hf := tk_t c5 hf
            refine lv_aload_n hx hb dX7_wanted_50 rfl (lv_at hl 0 rfl) ?_
            refine x_get (v := .int (σ 0 7)) C h (gM_Mo κ ad σ) rfl inX7_wanted_X7 7 (by decide) (hts _ lkX7_wanted_105) rfl dX7_wanted_51 ?_
            refine lv_goto (tgt := 61) hx hb dX7_wanted_54 (by decide) ?_
            subst hf
            exact x_iret C h dX7_wanted_61
        · have hf := tk_t c4 hf
          refine lv_aload_n hx hb dX7_wanted_38 rfl (lv_at hl 0 rfl) ?_
          refine x_get (v := .int (σ 0 6)) C h (gM_Mo κ ad σ) rfl inX7_wanted_X7 6 (by decide) (hts _ lkX7_wanted_102) rfl dX7_wanted_39 ?_
          refine lv_goto (tgt := 61) hx hb dX7_wanted_42 (by decide) ?_
          subst hf
          exact x_iret C h dX7_wanted_61
      · have hf := tk_t c3 hf
        refine lv_aload_n hx hb dX7_wanted_26 rfl (lv_at hl 0 rfl) ?_
        refine x_get (v := .int (σ 0 5)) C h (gM_Mo κ ad σ) rfl inX7_wanted_X7 5 (by decide) (hts _ lkX7_wanted_99) rfl dX7_wanted_27 ?_
        refine lv_goto (tgt := 61) hx hb dX7_wanted_30 (by decide) ?_
        subst hf
        exact x_iret C h dX7_wanted_61
    · have hf := tk_t c2 hf
      refine lv_bipush (v := (-3)) hx hb dX7_wanted_19 (by decide) ?_
      subst hf
      exact x_iret C h dX7_wanted_21
  · have hf := tk_t c1 hf
    refine lv_bipush (v := (-2)) hx hb dX7_wanted_9 (by decide) ?_
    subst hf
    exact x_iret C h dX7_wanted_11

-- ===== X7_seen: ButtonMatchModel.seen(I)I
theorem lkX7_seen_72 : Cond.fieldLink RX7 72 "ButtonMatchModel" "tubes" "I" ∈ wsX7_seen := by decide +kernel
theorem inX7_seen_X7 : ∀ w ∈ wsX70, w ∈ wsX7_seen := fun _ h => List.mem_cons_of_mem _ (List.mem_append_right _ h)
theorem lkX7_seen_19 : Cond.fieldLink RX7 19 "ButtonMatchModel" "seenIn" "[I" ∈ wsX7_seen := by decide +kernel
def fX7_seen (x1 : Int32) (σ : Sg) : Option (Int32) :=
  (if (fX7_within x1 0 5 σ) = 0 then some (-1) else (if (σ 0 10) = 0 then some (-3) else (if gIn x1 6 then some (σ 4 x1.toNatClampNeg) else none)))
set_option maxHeartbeats 4000000 in
set_option maxRecDepth 100000 in
theorem kX7_seen (l : Launch) (D : va_G) (κ : Kp) (ad : Nat → Nat) (x1 : Int32) (σ : Sg) {r : Int32} (hf : fX7_seen x1 σ = some r) : Ci l D κ (wsM κ ad) yX7_seen wsX7_seen 1 22 [.ref (ad 0), .int x1] σ r σ := by
  refine Ci.of (cc := cX7_seen) (nL := 2) (ret := (some .int)) (by decide) rfl (Nat.le_of_ble_eq_true rfl) ?_
  intro p e s m below meth c A ls C h hl
  obtain ⟨hx, hb, hml, hr, hlk, hown, hts, hK, hA, hZ⟩ := id C
  have hl : lv_has ls 2 [(0, .ref (ad 0)), (1, .int x1)] := hl
  unfold fX7_seen at hf
  refine lv_iload_n hx hb dX7_seen_0 rfl (lv_at hl 1 rfl) ?_
  refine lv_iconst (v := 0) hx hb dX7_seen_1 (by decide) ?_
  refine lv_iconst (v := 5) hx hb dX7_seen_2 (by decide) ?_
  refine x_si (As := [.int x1, .int 0, .int 5]) (rest := []) C h (kX7_within l D κ ad x1 0 5 σ (r := (fX7_within x1 0 5 σ)) rfl) (fun hts => va_cwS 3 hts gX7_seen_X7_within rfl rfl rfl (by decide +kernel) ⟨Nat.le_of_ble_eq_true rfl, Nat.le_of_ble_eq_true rfl⟩) rfl hl.1 (Nat.le_of_ble_eq_true rfl) rfl dX7_seen_3 (fun H locs h => ?_)
  refine lv_if_ne (tgt := 11) hx hb dX7_seen_6 (by decide) (fun c1 => ?_) (fun c1 => ?_)
  · have hf := tk_f c1 hf
    refine lv_aload_n hx hb dX7_seen_11 rfl (lv_at hl 0 rfl) ?_
    refine x_get (v := .int (σ 0 10)) C h (gM_Mo κ ad σ) rfl inX7_seen_X7 10 (by decide) (hts _ lkX7_seen_72) rfl dX7_seen_12 ?_
    refine lv_if_ne (tgt := 23) hx hb dX7_seen_15 (by decide) (fun c2 => ?_) (fun c2 => ?_)
    · have hf := tk_f c2 hf
      refine lv_aload_n hx hb dX7_seen_23 rfl (lv_at hl 0 rfl) ?_
      refine x_get (v := .ref (ad 4)) C h (gM_Mo κ ad σ) rfl inX7_seen_X7 9 (by decide) (hts _ lkX7_seen_19) rfl dX7_seen_24 ?_
      refine lv_iload_n hx hb dX7_seen_27 rfl (lv_at hl 1 rfl) ?_
      obtain ⟨g3, hf⟩ := gd_ok hf
      refine x_iald (v := (σ 4 x1.toNatClampNeg)) C h (gM_m_seenIn κ ad σ) g3 rfl dX7_seen_28 ?_
      obtain rfl := so_ok hf
      exact x_iret C h dX7_seen_29
    · have hf := tk_t c2 hf
      refine lv_bipush (v := (-3)) hx hb dX7_seen_18 (by decide) ?_
      refine lv_goto (tgt := 29) hx hb dX7_seen_20 (by decide) ?_
      obtain rfl := so_ok hf
      exact x_iret C h dX7_seen_29
  · have hf := tk_t c1 hf
    refine lv_iconst (v := (-1)) hx hb dX7_seen_9 (by decide) ?_
    obtain rfl := so_ok hf
    exact x_iret C h dX7_seen_10

-- ===== X7_isTube: ButtonMatchModel.isTube(I)Z
theorem lkX7_isTube_72 : Cond.fieldLink RX7 72 "ButtonMatchModel" "tubes" "I" ∈ wsX7_isTube := by decide +kernel
theorem inX7_isTube_X7 : ∀ w ∈ wsX70, w ∈ wsX7_isTube := fun _ h => List.mem_cons_of_mem _ (List.mem_append_right _ h)
def fX7_isTube (x1 : Int32) (σ : Sg) : Int32 :=
  (if x1 < 0 then 0 else (if (σ 0 10) ≤ x1 then 0 else 1))
set_option maxHeartbeats 4000000 in
set_option maxRecDepth 100000 in
theorem kX7_isTube (l : Launch) (D : va_G) (κ : Kp) (ad : Nat → Nat) (x1 : Int32) (σ : Sg) {r : Int32} (hf : fX7_isTube x1 σ = r) : Ci l D κ (wsM κ ad) yX7_isTube wsX7_isTube 0 0 [.ref (ad 0), .int x1] σ r σ := by
  refine Ci.of (cc := cX7_isTube) (nL := 2) (ret := (some .boolean)) (by decide) rfl (Nat.le_of_ble_eq_true rfl) ?_
  intro p e s m below meth c A ls C h hl
  obtain ⟨hx, hb, hml, hr, hlk, hown, hts, hK, hA, hZ⟩ := id C
  have hl : lv_has ls 2 [(0, .ref (ad 0)), (1, .int x1)] := hl
  unfold fX7_isTube at hf
  refine lv_iload_n hx hb dX7_isTube_0 rfl (lv_at hl 1 rfl) ?_
  refine lv_if_lt (tgt := 16) hx hb dX7_isTube_1 (by decide) (fun c1 => ?_) (fun c1 => ?_)
  · have hf := tk_t c1 hf
    refine lv_iconst (v := 0) hx hb dX7_isTube_16 (by decide) ?_
    subst hf
    exact x_zret C rfl h dX7_isTube_17
  · have hf := tk_f c1 hf
    refine lv_iload_n hx hb dX7_isTube_4 rfl (lv_at hl 1 rfl) ?_
    refine lv_aload_n hx hb dX7_isTube_5 rfl (lv_at hl 0 rfl) ?_
    refine x_get (v := .int (σ 0 10)) C h (gM_Mo κ ad σ) rfl inX7_isTube_X7 10 (by decide) (hts _ lkX7_isTube_72) rfl dX7_isTube_6 ?_
    refine lv_icmp_ge (tgt := 16) hx hb dX7_isTube_9 (by decide) (fun c2 => ?_) (fun c2 => ?_)
    · have hf := tk_t c2 hf
      refine lv_iconst (v := 0) hx hb dX7_isTube_16 (by decide) ?_
      subst hf
      exact x_zret C rfl h dX7_isTube_17
    · have hf := tk_f c2 hf
      refine lv_iconst (v := 1) hx hb dX7_isTube_12 (by decide) ?_
      refine lv_goto (tgt := 17) hx hb dX7_isTube_13 (by decide) ?_
      subst hf
      exact x_zret C rfl h dX7_isTube_17
theorem nzX7_isTube (x1 : Int32) (σ : Sg) : narrow .boolean (.int (fX7_isTube x1 σ)) = .int (fX7_isTube x1 σ) := by
  unfold fX7_isTube
  repeat' split
  all_goals rfl

-- ===== X7_looksColour: ButtonMatchModel.looksColour(I)I
theorem lkX7_looksColour_22 : Cond.fieldLink RX7 22 "ButtonMatchModel" "kind" "[I" ∈ wsX7_looksColour := by decide +kernel
theorem inX7_looksColour_X7 : ∀ w ∈ wsX70, w ∈ wsX7_looksColour := fun _ h => List.mem_cons_of_mem _ (List.mem_append_right _ h)
theorem lkX7_looksColour_25 : Cond.fieldLink RX7 25 "ButtonMatchModel" "colour" "[I" ∈ wsX7_looksColour := by decide +kernel
def fX7_looksColour_27 (σ : Sg) (z0 : Int32) : Option (Int32) :=
  (if z0 ≤ 7 then some z0 else some 7)
set_option maxHeartbeats 4000000 in
set_option maxRecDepth 100000 in
theorem jX7_looksColour_27 {p : Program} {l : Launch} {e : Env} {s : State} {m : MethodId} {args : Array Value} {below : List Frame} {meth : Method} {c : Code} {D : va_G} {κ : Kp} {ad : Nat → Nat} {A : Nat → Prop} {r : Int32} (C : Mc p s m args meth c cX7_looksColour 3 (some .int) wsX7_looksColour RX7 D κ A) (σ : Sg) (z0 : Int32) (H : Heap) (locs : List Loc) (ls : Array Slot) (h : Wd D (wsM κ ad) A s.heap H locs σ) (hl : lv_has ls 3 []) (hf : fX7_looksColour_27 σ z0 = some r) : W p l e { frames := 0, cells := 0, slots := 0, locals := 0 } s m args below meth c H locs 0 0 (Qi below args s D (wsM κ ad) A r σ) (F0 m 27 ls [.int z0]) := by
  obtain ⟨hx, hb, hml, hr, hlk, hown, hts, hK, hA, hZ⟩ := id C
  unfold fX7_looksColour_27 at hf
  refine lv_istore_n (lv' := [(2, .int z0)]) hx hb dX7_looksColour_27 rfl hl (by decide) rfl (fun ls hl => ?_)
  refine lv_iload_n hx hb dX7_looksColour_28 rfl (lv_at hl 0 rfl) ?_
  refine lv_bipush (v := 7) hx hb dX7_looksColour_29 (by decide) ?_
  refine lv_icmp_le (tgt := 39) hx hb dX7_looksColour_31 (by decide) (fun c1 => ?_) (fun c1 => ?_)
  · have hf := tk_t c1 hf
    refine lv_iload_n hx hb dX7_looksColour_39 rfl (lv_at hl 0 rfl) ?_
    obtain rfl := so_ok hf
    exact x_iret C h dX7_looksColour_40
  · have hf := tk_f c1 hf
    refine lv_bipush (v := 7) hx hb dX7_looksColour_34 (by decide) ?_
    refine lv_goto (tgt := 40) hx hb dX7_looksColour_36 (by decide) ?_
    obtain rfl := so_ok hf
    exact x_iret C h dX7_looksColour_40
def fX7_looksColour (x1 : Int32) (σ : Sg) : Option (Int32) :=
  (if gIn x1 6 then (if (σ 5 x1.toNatClampNeg) = 1 then fX7_looksColour_27 σ ((σ 6 x1.toNatClampNeg) + 1) else fX7_looksColour_27 σ (σ 6 x1.toNatClampNeg)) else none)
set_option maxHeartbeats 4000000 in
set_option maxRecDepth 100000 in
theorem kX7_looksColour (l : Launch) (D : va_G) (κ : Kp) (ad : Nat → Nat) (x1 : Int32) (σ : Sg) {r : Int32} (hf : fX7_looksColour x1 σ = some r) : Ci l D κ (wsM κ ad) yX7_looksColour wsX7_looksColour 0 0 [.ref (ad 0), .int x1] σ r σ := by
  refine Ci.of (cc := cX7_looksColour) (nL := 3) (ret := (some .int)) (by decide) rfl (Nat.le_of_ble_eq_true rfl) ?_
  intro p e s m below meth c A ls C h hl
  obtain ⟨hx, hb, hml, hr, hlk, hown, hts, hK, hA, hZ⟩ := id C
  have hl : lv_has ls 3 [(0, .ref (ad 0)), (1, .int x1)] := hl
  unfold fX7_looksColour at hf
  refine lv_aload_n hx hb dX7_looksColour_0 rfl (lv_at hl 0 rfl) ?_
  refine x_get (v := .ref (ad 5)) C h (gM_Mo κ ad σ) rfl inX7_looksColour_X7 11 (by decide) (hts _ lkX7_looksColour_22) rfl dX7_looksColour_1 ?_
  refine lv_iload_n hx hb dX7_looksColour_4 rfl (lv_at hl 1 rfl) ?_
  obtain ⟨g2, hf⟩ := gd_ok hf
  refine x_iald (v := (σ 5 x1.toNatClampNeg)) C h (gM_m_kind κ ad σ) g2 rfl dX7_looksColour_5 ?_
  refine lv_iconst (v := 1) hx hb dX7_looksColour_6 (by decide) ?_
  refine lv_icmp_ne (tgt := 21) hx hb dX7_looksColour_7 (by decide) (fun c3 => ?_) (fun c3 => ?_)
  · have hf := tk_f c3 hf
    refine lv_aload_n hx hb dX7_looksColour_21 rfl (lv_at hl 0 rfl) ?_
    refine x_get (v := .ref (ad 6)) C h (gM_Mo κ ad σ) rfl inX7_looksColour_X7 12 (by decide) (hts _ lkX7_looksColour_25) rfl dX7_looksColour_22 ?_
    refine lv_iload_n hx hb dX7_looksColour_25 rfl (lv_at hl 1 rfl) ?_
    refine x_iald (v := (σ 6 x1.toNatClampNeg)) C h (gM_m_colour κ ad σ) g2 rfl dX7_looksColour_26 ?_
    exact jX7_looksColour_27 C σ (σ 6 x1.toNatClampNeg) _ _ _ h (lv_sub hl [] rfl) hf
  · have hf := tk_t c3 hf
    refine lv_aload_n hx hb dX7_looksColour_10 rfl (lv_at hl 0 rfl) ?_
    refine x_get (v := .ref (ad 6)) C h (gM_Mo κ ad σ) rfl inX7_looksColour_X7 12 (by decide) (hts _ lkX7_looksColour_25) rfl dX7_looksColour_11 ?_
    refine lv_iload_n hx hb dX7_looksColour_14 rfl (lv_at hl 1 rfl) ?_
    refine x_iald (v := (σ 6 x1.toNatClampNeg)) C h (gM_m_colour κ ad σ) g2 rfl dX7_looksColour_15 ?_
    refine lv_iconst (v := 1) hx hb dX7_looksColour_16 (by decide) ?_
    refine lv_iadd hx hb dX7_looksColour_17 ?_
    refine lv_goto (tgt := 27) hx hb dX7_looksColour_18 (by decide) ?_
    exact jX7_looksColour_27 C σ ((σ 6 x1.toNatClampNeg) + 1) _ _ _ h (lv_sub hl [] rfl) hf

-- ===== X7_looksSize: ButtonMatchModel.looksSize(I)I
theorem lkX7_looksSize_22 : Cond.fieldLink RX7 22 "ButtonMatchModel" "kind" "[I" ∈ wsX7_looksSize := by decide +kernel
theorem inX7_looksSize_X7 : ∀ w ∈ wsX70, w ∈ wsX7_looksSize := fun _ h => List.mem_cons_of_mem _ (List.mem_append_right _ h)
theorem lkX7_looksSize_28 : Cond.fieldLink RX7 28 "ButtonMatchModel" "size" "[I" ∈ wsX7_looksSize := by decide +kernel
def fX7_looksSize (x1 : Int32) (σ : Sg) : Option (Int32) :=
  (if gIn x1 6 then (if (σ 5 x1.toNatClampNeg) = 2 then (if (σ 7 x1.toNatClampNeg) ≤ 0 then some (σ 7 x1.toNatClampNeg) else some ((σ 7 x1.toNatClampNeg) - 1)) else some (σ 7 x1.toNatClampNeg)) else none)
set_option maxHeartbeats 4000000 in
set_option maxRecDepth 100000 in
theorem kX7_looksSize (l : Launch) (D : va_G) (κ : Kp) (ad : Nat → Nat) (x1 : Int32) (σ : Sg) {r : Int32} (hf : fX7_looksSize x1 σ = some r) : Ci l D κ (wsM κ ad) yX7_looksSize wsX7_looksSize 0 0 [.ref (ad 0), .int x1] σ r σ := by
  refine Ci.of (cc := cX7_looksSize) (nL := 2) (ret := (some .int)) (by decide) rfl (Nat.le_of_ble_eq_true rfl) ?_
  intro p e s m below meth c A ls C h hl
  obtain ⟨hx, hb, hml, hr, hlk, hown, hts, hK, hA, hZ⟩ := id C
  have hl : lv_has ls 2 [(0, .ref (ad 0)), (1, .int x1)] := hl
  unfold fX7_looksSize at hf
  refine lv_aload_n hx hb dX7_looksSize_0 rfl (lv_at hl 0 rfl) ?_
  refine x_get (v := .ref (ad 5)) C h (gM_Mo κ ad σ) rfl inX7_looksSize_X7 11 (by decide) (hts _ lkX7_looksSize_22) rfl dX7_looksSize_1 ?_
  refine lv_iload_n hx hb dX7_looksSize_4 rfl (lv_at hl 1 rfl) ?_
  obtain ⟨g1, hf⟩ := gd_ok hf
  refine x_iald (v := (σ 5 x1.toNatClampNeg)) C h (gM_m_kind κ ad σ) g1 rfl dX7_looksSize_5 ?_
  refine lv_iconst (v := 2) hx hb dX7_looksSize_6 (by decide) ?_
  refine lv_icmp_ne (tgt := 30) hx hb dX7_looksSize_7 (by decide) (fun c2 => ?_) (fun c2 => ?_)
  · have hf := tk_f c2 hf
    refine lv_aload_n hx hb dX7_looksSize_30 rfl (lv_at hl 0 rfl) ?_
    refine x_get (v := .ref (ad 7)) C h (gM_Mo κ ad σ) rfl inX7_looksSize_X7 13 (by decide) (hts _ lkX7_looksSize_28) rfl dX7_looksSize_31 ?_
    refine lv_iload_n hx hb dX7_looksSize_34 rfl (lv_at hl 1 rfl) ?_
    refine x_iald (v := (σ 7 x1.toNatClampNeg)) C h (gM_m_size κ ad σ) g1 rfl dX7_looksSize_35 ?_
    obtain rfl := so_ok hf
    exact x_iret C h dX7_looksSize_36
  · have hf := tk_t c2 hf
    refine lv_aload_n hx hb dX7_looksSize_10 rfl (lv_at hl 0 rfl) ?_
    refine x_get (v := .ref (ad 7)) C h (gM_Mo κ ad σ) rfl inX7_looksSize_X7 13 (by decide) (hts _ lkX7_looksSize_28) rfl dX7_looksSize_11 ?_
    refine lv_iload_n hx hb dX7_looksSize_14 rfl (lv_at hl 1 rfl) ?_
    refine x_iald (v := (σ 7 x1.toNatClampNeg)) C h (gM_m_size κ ad σ) g1 rfl dX7_looksSize_15 ?_
    refine lv_if_le (tgt := 30) hx hb dX7_looksSize_16 (by decide) (fun c3 => ?_) (fun c3 => ?_)
    · have hf := tk_t c3 hf
      refine lv_aload_n hx hb dX7_looksSize_30 rfl (lv_at hl 0 rfl) ?_
      refine x_get (v := .ref (ad 7)) C h (gM_Mo κ ad σ) rfl inX7_looksSize_X7 13 (by decide) (hts _ lkX7_looksSize_28) rfl dX7_looksSize_31 ?_
      refine lv_iload_n hx hb dX7_looksSize_34 rfl (lv_at hl 1 rfl) ?_
      refine x_iald (v := (σ 7 x1.toNatClampNeg)) C h (gM_m_size κ ad σ) g1 rfl dX7_looksSize_35 ?_
      obtain rfl := so_ok hf
      exact x_iret C h dX7_looksSize_36
    · have hf := tk_f c3 hf
      refine lv_aload_n hx hb dX7_looksSize_19 rfl (lv_at hl 0 rfl) ?_
      refine x_get (v := .ref (ad 7)) C h (gM_Mo κ ad σ) rfl inX7_looksSize_X7 13 (by decide) (hts _ lkX7_looksSize_28) rfl dX7_looksSize_20 ?_
      refine lv_iload_n hx hb dX7_looksSize_23 rfl (lv_at hl 1 rfl) ?_
      refine x_iald (v := (σ 7 x1.toNatClampNeg)) C h (gM_m_size κ ad σ) g1 rfl dX7_looksSize_24 ?_
      refine lv_iconst (v := 1) hx hb dX7_looksSize_25 (by decide) ?_
      refine lv_isub hx hb dX7_looksSize_26 ?_
      refine lv_goto (tgt := 36) hx hb dX7_looksSize_27 (by decide) ?_
      obtain rfl := so_ok hf
      exact x_iret C h dX7_looksSize_36

-- ===== X7_ofTube: ButtonMatchModel.ofTube(II)I
theorem lkX7_ofTube_22 : Cond.fieldLink RX7 22 "ButtonMatchModel" "kind" "[I" ∈ wsX7_ofTube := by decide +kernel
theorem inX7_ofTube_X7 : ∀ w ∈ wsX70, w ∈ wsX7_ofTube := fun _ h => List.mem_cons_of_mem _ (List.mem_append_right _ h)
theorem lkX7_ofTube_25 : Cond.fieldLink RX7 25 "ButtonMatchModel" "colour" "[I" ∈ wsX7_ofTube := by decide +kernel
theorem lkX7_ofTube_28 : Cond.fieldLink RX7 28 "ButtonMatchModel" "size" "[I" ∈ wsX7_ofTube := by decide +kernel
theorem lkX7_ofTube_31 : Cond.fieldLink RX7 31 "ButtonMatchModel" "holes" "[I" ∈ wsX7_ofTube := by decide +kernel
theorem lkX7_ofTube_34 : Cond.fieldLink RX7 34 "ButtonMatchModel" "count" "[I" ∈ wsX7_ofTube := by decide +kernel
theorem lkX7_ofTube_37 : Cond.fieldLink RX7 37 "ButtonMatchModel" "pence" "[I" ∈ wsX7_ofTube := by decide +kernel
def fX7_ofTube (x1 : Int32) (x2 : Int32) (σ : Sg) : Option (Int32) :=
  (if (fX7_isTube x1 σ) = 0 then some (-1) else (if x2 = 0 then (if gIn x1 6 then some (σ 5 x1.toNatClampNeg) else none) else (if x2 = 1 then (if gIn x1 6 then some (σ 6 x1.toNatClampNeg) else none) else (if x2 = 2 then (if gIn x1 6 then some (σ 7 x1.toNatClampNeg) else none) else (if x2 = 3 then (if gIn x1 6 then some (σ 8 x1.toNatClampNeg) else none) else (if x2 = 4 then (if gIn x1 6 then some (σ 9 x1.toNatClampNeg) else none) else (if x2 = 5 then (if gIn x1 6 then some (σ 10 x1.toNatClampNeg) else none) else (if x2 = 6 then ((fX7_looksColour x1 σ).bind fun r16 => some r16) else (if x2 = 7 then ((fX7_looksSize x1 σ).bind fun r19 => some r19) else some (-2))))))))))
set_option maxHeartbeats 4000000 in
set_option maxRecDepth 100000 in
theorem kX7_ofTube (l : Launch) (D : va_G) (κ : Kp) (ad : Nat → Nat) (x1 : Int32) (x2 : Int32) (σ : Sg) {r : Int32} (hf : fX7_ofTube x1 x2 σ = some r) : Ci l D κ (wsM κ ad) yX7_ofTube wsX7_ofTube 1 22 [.ref (ad 0), .int x1, .int x2] σ r σ := by
  refine Ci.of (cc := cX7_ofTube) (nL := 3) (ret := (some .int)) (by decide) rfl (Nat.le_of_ble_eq_true rfl) ?_
  intro p e s m below meth c A ls C h hl
  obtain ⟨hx, hb, hml, hr, hlk, hown, hts, hK, hA, hZ⟩ := id C
  have hl : lv_has ls 3 [(0, .ref (ad 0)), (1, .int x1), (2, .int x2)] := hl
  unfold fX7_ofTube at hf
  refine lv_aload_n hx hb dX7_ofTube_0 rfl (lv_at hl 0 rfl) ?_
  refine lv_iload_n hx hb dX7_ofTube_1 rfl (lv_at hl 1 rfl) ?_
  refine x_vi (As := [.int x1]) (rest := []) C h (gM_Mo κ ad σ) rfl (kX7_isTube l D κ ad x1 σ (r := (fX7_isTube x1 σ)) rfl) (fun hts => cwV 1 hts gX7_ofTube_X7_isTube rfl rfl rfl (by decide +kernel) ⟨Nat.le_of_ble_eq_true rfl, Nat.le_of_ble_eq_true rfl⟩) rfl hl.1 (Nat.le_of_ble_eq_true rfl) rfl dX7_ofTube_2 (fun H locs h => ?_)
  refine lv_if_ne (tgt := 10) hx hb dX7_ofTube_5 (by decide) (fun c1 => ?_) (fun c1 => ?_)
  · have hf := tk_f c1 hf
    refine lv_iload_n hx hb dX7_ofTube_10 rfl (lv_at hl 2 rfl) ?_
    by_cases c2 : x2 = 0
    · have hf := tk_t c2 hf
      refine lv_tableIn (off := 45) (tgt := 56) hx hb dX7_ofTube_11 (by rw [c2]; decide) (by rw [c2]; decide) (by rw [c2]; rfl) (by decide) ?_
      refine lv_aload_n hx hb dX7_ofTube_56 rfl (lv_at hl 0 rfl) ?_
      refine x_get (v := .ref (ad 5)) C h (gM_Mo κ ad σ) rfl inX7_ofTube_X7 11 (by decide) (hts _ lkX7_ofTube_22) rfl dX7_ofTube_57 ?_
      refine lv_iload_n hx hb dX7_ofTube_60 rfl (lv_at hl 1 rfl) ?_
      obtain ⟨g3, hf⟩ := gd_ok hf
      refine x_iald (v := (σ 5 x1.toNatClampNeg)) C h (gM_m_kind κ ad σ) g3 rfl dX7_ofTube_61 ?_
      obtain rfl := so_ok hf
      exact x_iret C h dX7_ofTube_62
    have hf := tk_f c2 hf
    by_cases c4 : x2 = 1
    · have hf := tk_t c4 hf
      refine lv_tableIn (off := 52) (tgt := 63) hx hb dX7_ofTube_11 (by rw [c4]; decide) (by rw [c4]; decide) (by rw [c4]; rfl) (by decide) ?_
      refine lv_aload_n hx hb dX7_ofTube_63 rfl (lv_at hl 0 rfl) ?_
      refine x_get (v := .ref (ad 6)) C h (gM_Mo κ ad σ) rfl inX7_ofTube_X7 12 (by decide) (hts _ lkX7_ofTube_25) rfl dX7_ofTube_64 ?_
      refine lv_iload_n hx hb dX7_ofTube_67 rfl (lv_at hl 1 rfl) ?_
      obtain ⟨g5, hf⟩ := gd_ok hf
      refine x_iald (v := (σ 6 x1.toNatClampNeg)) C h (gM_m_colour κ ad σ) g5 rfl dX7_ofTube_68 ?_
      obtain rfl := so_ok hf
      exact x_iret C h dX7_ofTube_69
    have hf := tk_f c4 hf
    by_cases c6 : x2 = 2
    · have hf := tk_t c6 hf
      refine lv_tableIn (off := 59) (tgt := 70) hx hb dX7_ofTube_11 (by rw [c6]; decide) (by rw [c6]; decide) (by rw [c6]; rfl) (by decide) ?_
      refine lv_aload_n hx hb dX7_ofTube_70 rfl (lv_at hl 0 rfl) ?_
      refine x_get (v := .ref (ad 7)) C h (gM_Mo κ ad σ) rfl inX7_ofTube_X7 13 (by decide) (hts _ lkX7_ofTube_28) rfl dX7_ofTube_71 ?_
      refine lv_iload_n hx hb dX7_ofTube_74 rfl (lv_at hl 1 rfl) ?_
      obtain ⟨g7, hf⟩ := gd_ok hf
      refine x_iald (v := (σ 7 x1.toNatClampNeg)) C h (gM_m_size κ ad σ) g7 rfl dX7_ofTube_75 ?_
      obtain rfl := so_ok hf
      exact x_iret C h dX7_ofTube_76
    have hf := tk_f c6 hf
    by_cases c8 : x2 = 3
    · have hf := tk_t c8 hf
      refine lv_tableIn (off := 66) (tgt := 77) hx hb dX7_ofTube_11 (by rw [c8]; decide) (by rw [c8]; decide) (by rw [c8]; rfl) (by decide) ?_
      refine lv_aload_n hx hb dX7_ofTube_77 rfl (lv_at hl 0 rfl) ?_
      refine x_get (v := .ref (ad 8)) C h (gM_Mo κ ad σ) rfl inX7_ofTube_X7 14 (by decide) (hts _ lkX7_ofTube_31) rfl dX7_ofTube_78 ?_
      refine lv_iload_n hx hb dX7_ofTube_81 rfl (lv_at hl 1 rfl) ?_
      obtain ⟨g9, hf⟩ := gd_ok hf
      refine x_iald (v := (σ 8 x1.toNatClampNeg)) C h (gM_m_holes κ ad σ) g9 rfl dX7_ofTube_82 ?_
      obtain rfl := so_ok hf
      exact x_iret C h dX7_ofTube_83
    have hf := tk_f c8 hf
    by_cases c10 : x2 = 4
    · have hf := tk_t c10 hf
      refine lv_tableIn (off := 73) (tgt := 84) hx hb dX7_ofTube_11 (by rw [c10]; decide) (by rw [c10]; decide) (by rw [c10]; rfl) (by decide) ?_
      refine lv_aload_n hx hb dX7_ofTube_84 rfl (lv_at hl 0 rfl) ?_
      refine x_get (v := .ref (ad 9)) C h (gM_Mo κ ad σ) rfl inX7_ofTube_X7 15 (by decide) (hts _ lkX7_ofTube_34) rfl dX7_ofTube_85 ?_
      refine lv_iload_n hx hb dX7_ofTube_88 rfl (lv_at hl 1 rfl) ?_
      obtain ⟨g11, hf⟩ := gd_ok hf
      refine x_iald (v := (σ 9 x1.toNatClampNeg)) C h (gM_m_count κ ad σ) g11 rfl dX7_ofTube_89 ?_
      obtain rfl := so_ok hf
      exact x_iret C h dX7_ofTube_90
    have hf := tk_f c10 hf
    by_cases c12 : x2 = 5
    · have hf := tk_t c12 hf
      refine lv_tableIn (off := 80) (tgt := 91) hx hb dX7_ofTube_11 (by rw [c12]; decide) (by rw [c12]; decide) (by rw [c12]; rfl) (by decide) ?_
      refine lv_aload_n hx hb dX7_ofTube_91 rfl (lv_at hl 0 rfl) ?_
      refine x_get (v := .ref (ad 10)) C h (gM_Mo κ ad σ) rfl inX7_ofTube_X7 16 (by decide) (hts _ lkX7_ofTube_37) rfl dX7_ofTube_92 ?_
      refine lv_iload_n hx hb dX7_ofTube_95 rfl (lv_at hl 1 rfl) ?_
      obtain ⟨g13, hf⟩ := gd_ok hf
      refine x_iald (v := (σ 10 x1.toNatClampNeg)) C h (gM_m_pence κ ad σ) g13 rfl dX7_ofTube_96 ?_
      obtain rfl := so_ok hf
      exact x_iret C h dX7_ofTube_97
    have hf := tk_f c12 hf
    by_cases c14 : x2 = 6
    · have hf := tk_t c14 hf
      refine lv_tableIn (off := 87) (tgt := 98) hx hb dX7_ofTube_11 (by rw [c14]; decide) (by rw [c14]; decide) (by rw [c14]; rfl) (by decide) ?_
      refine lv_aload_n hx hb dX7_ofTube_98 rfl (lv_at hl 0 rfl) ?_
      refine lv_iload_n hx hb dX7_ofTube_99 rfl (lv_at hl 1 rfl) ?_
      obtain ⟨r16, hg15, hf⟩ := bd_ok hf
      refine x_vi (As := [.int x1]) (rest := []) C h (gM_Mo κ ad σ) rfl (kX7_looksColour l D κ ad x1 σ (r := r16) hg15) (fun hts => cwV 1 hts gX7_ofTube_X7_looksColour rfl rfl rfl (by decide +kernel) ⟨Nat.le_of_ble_eq_true rfl, Nat.le_of_ble_eq_true rfl⟩) rfl hl.1 (Nat.le_of_ble_eq_true rfl) rfl dX7_ofTube_100 (fun H locs h => ?_)
      obtain rfl := so_ok hf
      exact x_iret C h dX7_ofTube_103
    have hf := tk_f c14 hf
    by_cases c17 : x2 = 7
    · have hf := tk_t c17 hf
      refine lv_tableIn (off := 93) (tgt := 104) hx hb dX7_ofTube_11 (by rw [c17]; decide) (by rw [c17]; decide) (by rw [c17]; rfl) (by decide) ?_
      refine lv_aload_n hx hb dX7_ofTube_104 rfl (lv_at hl 0 rfl) ?_
      refine lv_iload_n hx hb dX7_ofTube_105 rfl (lv_at hl 1 rfl) ?_
      obtain ⟨r19, hg18, hf⟩ := bd_ok hf
      refine x_vi (As := [.int x1]) (rest := []) C h (gM_Mo κ ad σ) rfl (kX7_looksSize l D κ ad x1 σ (r := r19) hg18) (fun hts => cwV 1 hts gX7_ofTube_X7_looksSize rfl rfl rfl (by decide +kernel) ⟨Nat.le_of_ble_eq_true rfl, Nat.le_of_ble_eq_true rfl⟩) rfl hl.1 (Nat.le_of_ble_eq_true rfl) rfl dX7_ofTube_106 (fun H locs h => ?_)
      obtain rfl := so_ok hf
      exact x_iret C h dX7_ofTube_109
    have hf := tk_f c17 hf
    have ec2 : ¬ x2.toInt = 0 := sw_ne c2
    have ec4 : ¬ x2.toInt = 1 := sw_ne c4
    have ec6 : ¬ x2.toInt = 2 := sw_ne c6
    have ec8 : ¬ x2.toInt = 3 := sw_ne c8
    have ec10 : ¬ x2.toInt = 4 := sw_ne c10
    have ec12 : ¬ x2.toInt = 5 := sw_ne c12
    have ec14 : ¬ x2.toInt = 6 := sw_ne c14
    have ec17 : ¬ x2.toInt = 7 := sw_ne c17
    refine lv_tableOut (tgt := 110) hx hb dX7_ofTube_11 (by omega) (by decide) ?_
    refine lv_bipush (v := (-2)) hx hb dX7_ofTube_110 (by decide) ?_
    obtain rfl := so_ok hf
    exact x_iret C h dX7_ofTube_112
  · have hf := tk_t c1 hf
    refine lv_iconst (v := (-1)) hx hb dX7_ofTube_8 (by decide) ?_
    obtain rfl := so_ok hf
    exact x_iret C h dX7_ofTube_9

-- ===== X7_remember: ButtonMatchModel.remember(II)I
theorem lkX7_remember_72 : Cond.fieldLink RX7 72 "ButtonMatchModel" "tubes" "I" ∈ wsX7_remember := by decide +kernel
theorem inX7_remember_X7 : ∀ w ∈ wsX70, w ∈ wsX7_remember := fun _ h => List.mem_cons_of_mem _ (List.mem_append_right _ h)
theorem lkX7_remember_114 : Cond.fieldLink RX7 114 "ButtonMatchModel" "redder" "I" ∈ wsX7_remember := by decide +kernel
theorem lkX7_remember_117 : Cond.fieldLink RX7 117 "ButtonMatchModel" "larger" "I" ∈ wsX7_remember := by decide +kernel
def fX7_remember (x1 : Int32) (x2 : Int32) (σ : Sg) : Int32 × Sg :=
  (if (fX7_within x1 0 3 σ) = 0 then ((-2), σ) else (if (fX7_within x2 0 3 σ) = 0 then ((-2), σ) else (if (σ 0 10) = 0 then ((-3), σ) else (((10 * (σ 0 17)) + (σ 0 18)), (up2 (up2 σ 0 17 x1) 0 18 x2)))))
set_option maxHeartbeats 4000000 in
set_option maxRecDepth 100000 in
theorem kX7_remember (l : Launch) (D : va_G) (κ : Kp) (ad : Nat → Nat) (x1 : Int32) (x2 : Int32) (σ : Sg) {r : Int32} {τ : Sg} (hf : fX7_remember x1 x2 σ = (r, τ)) : Ci l D κ (wsM κ ad) yX7_remember wsX7_remember 1 22 [.ref (ad 0), .int x1, .int x2] σ r τ := by
  refine Ci.of (cc := cX7_remember) (nL := 4) (ret := (some .int)) (by decide) rfl (Nat.le_of_ble_eq_true rfl) ?_
  intro p e s m below meth c A ls C h hl
  obtain ⟨hx, hb, hml, hr, hlk, hown, hts, hK, hA, hZ⟩ := id C
  have hl : lv_has ls 4 [(0, .ref (ad 0)), (1, .int x1), (2, .int x2)] := hl
  unfold fX7_remember at hf
  refine lv_iload_n hx hb dX7_remember_0 rfl (lv_at hl 1 rfl) ?_
  refine lv_iconst (v := 0) hx hb dX7_remember_1 (by decide) ?_
  refine lv_iconst (v := 3) hx hb dX7_remember_2 (by decide) ?_
  refine x_si (As := [.int x1, .int 0, .int 3]) (rest := []) C h (kX7_within l D κ ad x1 0 3 σ (r := (fX7_within x1 0 3 σ)) rfl) (fun hts => va_cwS 3 hts gX7_remember_X7_within rfl rfl rfl (by decide +kernel) ⟨Nat.le_of_ble_eq_true rfl, Nat.le_of_ble_eq_true rfl⟩) rfl hl.1 (Nat.le_of_ble_eq_true rfl) rfl dX7_remember_3 (fun H locs h => ?_)
  refine lv_if_eq (tgt := 18) hx hb dX7_remember_6 (by decide) (fun c1 => ?_) (fun c1 => ?_)
  · have hf := tk_t c1 hf
    refine lv_bipush (v := (-2)) hx hb dX7_remember_18 (by decide) ?_
    obtain ⟨rfl, rfl⟩ := pr_tot hf
    exact x_iret C h dX7_remember_20
  · have hf := tk_f c1 hf
    refine lv_iload_n hx hb dX7_remember_9 rfl (lv_at hl 2 rfl) ?_
    refine lv_iconst (v := 0) hx hb dX7_remember_10 (by decide) ?_
    refine lv_iconst (v := 3) hx hb dX7_remember_11 (by decide) ?_
    refine x_si (As := [.int x2, .int 0, .int 3]) (rest := []) C h (kX7_within l D κ ad x2 0 3 σ (r := (fX7_within x2 0 3 σ)) rfl) (fun hts => va_cwS 3 hts gX7_remember_X7_within rfl rfl rfl (by decide +kernel) ⟨Nat.le_of_ble_eq_true rfl, Nat.le_of_ble_eq_true rfl⟩) rfl hl.1 (Nat.le_of_ble_eq_true rfl) rfl dX7_remember_12 (fun H locs h => ?_)
    refine lv_if_ne (tgt := 21) hx hb dX7_remember_15 (by decide) (fun c2 => ?_) (fun c2 => ?_)
    · have hf := tk_f c2 hf
      refine lv_aload_n hx hb dX7_remember_21 rfl (lv_at hl 0 rfl) ?_
      refine x_get (v := .int (σ 0 10)) C h (gM_Mo κ ad σ) rfl inX7_remember_X7 10 (by decide) (hts _ lkX7_remember_72) rfl dX7_remember_22 ?_
      refine lv_if_ne (tgt := 31) hx hb dX7_remember_25 (by decide) (fun c3 => ?_) (fun c3 => ?_)
      · have hf := tk_f c3 hf
        refine lv_bipush (v := 10) hx hb dX7_remember_31 (by decide) ?_
        refine lv_aload_n hx hb dX7_remember_33 rfl (lv_at hl 0 rfl) ?_
        refine x_get (v := .int (σ 0 17)) C h (gM_Mo κ ad σ) rfl inX7_remember_X7 17 (by decide) (hts _ lkX7_remember_114) rfl dX7_remember_34 ?_
        refine lv_imul hx hb dX7_remember_37 ?_
        refine lv_aload_n hx hb dX7_remember_38 rfl (lv_at hl 0 rfl) ?_
        refine x_get (v := .int (σ 0 18)) C h (gM_Mo κ ad σ) rfl inX7_remember_X7 18 (by decide) (hts _ lkX7_remember_117) rfl dX7_remember_39 ?_
        refine lv_iadd hx hb dX7_remember_42 ?_
        refine lv_istore_n (lv' := [(3, .int ((10 * (σ 0 17)) + (σ 0 18))), (0, .ref (ad 0)), (1, .int x1), (2, .int x2)]) hx hb dX7_remember_43 rfl hl (by decide) rfl (fun ls hl => ?_)
        refine lv_aload_n hx hb dX7_remember_44 rfl (lv_at hl 1 rfl) ?_
        refine lv_iload_n hx hb dX7_remember_45 rfl (lv_at hl 2 rfl) ?_
        refine x_put C h (gM_Mo κ ad σ) rfl inX7_remember_X7 tyX7 tyX7_ok nmX7 17 (by decide) (hts _ lkX7_remember_114) rfl (tyX7_ok 17 (by decide)) (Nat.le_of_ble_eq_true rfl) (sM_Mo_17 κ ad σ x1) dX7_remember_46 (fun H locs h => ?_)
        refine lv_aload_n hx hb dX7_remember_49 rfl (lv_at hl 1 rfl) ?_
        refine lv_iload_n hx hb dX7_remember_50 rfl (lv_at hl 3 rfl) ?_
        refine x_put C h (gM_Mo κ ad (up2 σ 0 17 x1)) rfl inX7_remember_X7 tyX7 tyX7_ok nmX7 18 (by decide) (hts _ lkX7_remember_117) rfl (tyX7_ok 18 (by decide)) (Nat.le_of_ble_eq_true rfl) (sM_Mo_18 κ ad (up2 σ 0 17 x1) x2) dX7_remember_51 (fun H locs h => ?_)
        refine lv_iload_n hx hb dX7_remember_54 rfl (lv_at hl 0 rfl) ?_
        obtain ⟨rfl, rfl⟩ := pr_tot hf
        exact x_iret C h dX7_remember_55
      · have hf := tk_t c3 hf
        refine lv_bipush (v := (-3)) hx hb dX7_remember_28 (by decide) ?_
        obtain ⟨rfl, rfl⟩ := pr_tot hf
        exact x_iret C h dX7_remember_30
    · have hf := tk_t c2 hf
      refine lv_bipush (v := (-2)) hx hb dX7_remember_18 (by decide) ?_
      obtain ⟨rfl, rfl⟩ := pr_tot hf
      exact x_iret C h dX7_remember_20

-- ===== X7_near: ButtonMatchModel.near(I)I
theorem lkX7_near_72 : Cond.fieldLink RX7 72 "ButtonMatchModel" "tubes" "I" ∈ wsX7_near := by decide +kernel
theorem inX7_near_X7 : ∀ w ∈ wsX70, w ∈ wsX7_near := fun _ h => List.mem_cons_of_mem _ (List.mem_append_right _ h)
theorem lkX7_near_120 : Cond.fieldLink RX7 120 "ButtonMatchModel" "near" "I" ∈ wsX7_near := by decide +kernel
def fX7_near (x1 : Int32) (σ : Sg) : Int32 × Sg :=
  (if (fX7_within x1 0 20 σ) = 0 then ((-2), σ) else (if (σ 0 10) = 0 then ((-3), σ) else ((σ 0 19), (up2 σ 0 19 x1))))
set_option maxHeartbeats 4000000 in
set_option maxRecDepth 100000 in
theorem kX7_near (l : Launch) (D : va_G) (κ : Kp) (ad : Nat → Nat) (x1 : Int32) (σ : Sg) {r : Int32} {τ : Sg} (hf : fX7_near x1 σ = (r, τ)) : Ci l D κ (wsM κ ad) yX7_near wsX7_near 1 22 [.ref (ad 0), .int x1] σ r τ := by
  refine Ci.of (cc := cX7_near) (nL := 3) (ret := (some .int)) (by decide) rfl (Nat.le_of_ble_eq_true rfl) ?_
  intro p e s m below meth c A ls C h hl
  obtain ⟨hx, hb, hml, hr, hlk, hown, hts, hK, hA, hZ⟩ := id C
  have hl : lv_has ls 3 [(0, .ref (ad 0)), (1, .int x1)] := hl
  unfold fX7_near at hf
  refine lv_iload_n hx hb dX7_near_0 rfl (lv_at hl 1 rfl) ?_
  refine lv_iconst (v := 0) hx hb dX7_near_1 (by decide) ?_
  refine lv_bipush (v := 20) hx hb dX7_near_2 (by decide) ?_
  refine x_si (As := [.int x1, .int 0, .int 20]) (rest := []) C h (kX7_within l D κ ad x1 0 20 σ (r := (fX7_within x1 0 20 σ)) rfl) (fun hts => va_cwS 3 hts gX7_near_X7_within rfl rfl rfl (by decide +kernel) ⟨Nat.le_of_ble_eq_true rfl, Nat.le_of_ble_eq_true rfl⟩) rfl hl.1 (Nat.le_of_ble_eq_true rfl) rfl dX7_near_4 (fun H locs h => ?_)
  refine lv_if_ne (tgt := 13) hx hb dX7_near_7 (by decide) (fun c1 => ?_) (fun c1 => ?_)
  · have hf := tk_f c1 hf
    refine lv_aload_n hx hb dX7_near_13 rfl (lv_at hl 0 rfl) ?_
    refine x_get (v := .int (σ 0 10)) C h (gM_Mo κ ad σ) rfl inX7_near_X7 10 (by decide) (hts _ lkX7_near_72) rfl dX7_near_14 ?_
    refine lv_if_ne (tgt := 23) hx hb dX7_near_17 (by decide) (fun c2 => ?_) (fun c2 => ?_)
    · have hf := tk_f c2 hf
      refine lv_aload_n hx hb dX7_near_23 rfl (lv_at hl 0 rfl) ?_
      refine x_get (v := .int (σ 0 19)) C h (gM_Mo κ ad σ) rfl inX7_near_X7 19 (by decide) (hts _ lkX7_near_120) rfl dX7_near_24 ?_
      refine lv_istore_n (lv' := [(2, .int (σ 0 19)), (0, .ref (ad 0)), (1, .int x1)]) hx hb dX7_near_27 rfl hl (by decide) rfl (fun ls hl => ?_)
      refine lv_aload_n hx hb dX7_near_28 rfl (lv_at hl 1 rfl) ?_
      refine lv_iload_n hx hb dX7_near_29 rfl (lv_at hl 2 rfl) ?_
      refine x_put C h (gM_Mo κ ad σ) rfl inX7_near_X7 tyX7 tyX7_ok nmX7 19 (by decide) (hts _ lkX7_near_120) rfl (tyX7_ok 19 (by decide)) (Nat.le_of_ble_eq_true rfl) (sM_Mo_19 κ ad σ x1) dX7_near_30 (fun H locs h => ?_)
      refine lv_iload_n hx hb dX7_near_33 rfl (lv_at hl 0 rfl) ?_
      obtain ⟨rfl, rfl⟩ := pr_tot hf
      exact x_iret C h dX7_near_34
    · have hf := tk_t c2 hf
      refine lv_bipush (v := (-3)) hx hb dX7_near_20 (by decide) ?_
      obtain ⟨rfl, rfl⟩ := pr_tot hf
      exact x_iret C h dX7_near_22
  · have hf := tk_t c1 hf
    refine lv_bipush (v := (-2)) hx hb dX7_near_10 (by decide) ?_
    obtain ⟨rfl, rfl⟩ := pr_tot hf
    exact x_iret C h dX7_near_12

-- ===== X7_stock: ButtonMatchModel.stock(II)I
theorem lkX7_stock_34 : Cond.fieldLink RX7 34 "ButtonMatchModel" "count" "[I" ∈ wsX7_stock := by decide +kernel
theorem inX7_stock_X7 : ∀ w ∈ wsX70, w ∈ wsX7_stock := fun _ h => List.mem_cons_of_mem _ (List.mem_append_right _ h)
def fX7_stock (x1 : Int32) (x2 : Int32) (σ : Sg) : Option (Int32 × Sg) :=
  (if (fX7_isTube x1 σ) = 0 then some ((-1), σ) else (if (fX7_within x2 0 9 σ) = 0 then some ((-2), σ) else (if gIn x1 6 then some ((σ 9 x1.toNatClampNeg), (up2 σ 9 x1.toNatClampNeg x2)) else none)))
set_option maxHeartbeats 4000000 in
set_option maxRecDepth 100000 in
theorem kX7_stock (l : Launch) (D : va_G) (κ : Kp) (ad : Nat → Nat) (x1 : Int32) (x2 : Int32) (σ : Sg) {r : Int32} {τ : Sg} (hf : fX7_stock x1 x2 σ = some (r, τ)) : Ci l D κ (wsM κ ad) yX7_stock wsX7_stock 1 22 [.ref (ad 0), .int x1, .int x2] σ r τ := by
  refine Ci.of (cc := cX7_stock) (nL := 4) (ret := (some .int)) (by decide) rfl (Nat.le_of_ble_eq_true rfl) ?_
  intro p e s m below meth c A ls C h hl
  obtain ⟨hx, hb, hml, hr, hlk, hown, hts, hK, hA, hZ⟩ := id C
  have hl : lv_has ls 4 [(0, .ref (ad 0)), (1, .int x1), (2, .int x2)] := hl
  unfold fX7_stock at hf
  refine lv_aload_n hx hb dX7_stock_0 rfl (lv_at hl 0 rfl) ?_
  refine lv_iload_n hx hb dX7_stock_1 rfl (lv_at hl 1 rfl) ?_
  refine x_vi (As := [.int x1]) (rest := []) C h (gM_Mo κ ad σ) rfl (kX7_isTube l D κ ad x1 σ (r := (fX7_isTube x1 σ)) rfl) (fun hts => cwV 1 hts gX7_stock_X7_isTube rfl rfl rfl (by decide +kernel) ⟨Nat.le_of_ble_eq_true rfl, Nat.le_of_ble_eq_true rfl⟩) rfl hl.1 (Nat.le_of_ble_eq_true rfl) rfl dX7_stock_2 (fun H locs h => ?_)
  refine lv_if_ne (tgt := 10) hx hb dX7_stock_5 (by decide) (fun c1 => ?_) (fun c1 => ?_)
  · have hf := tk_f c1 hf
    refine lv_iload_n hx hb dX7_stock_10 rfl (lv_at hl 2 rfl) ?_
    refine lv_iconst (v := 0) hx hb dX7_stock_11 (by decide) ?_
    refine lv_bipush (v := 9) hx hb dX7_stock_12 (by decide) ?_
    refine x_si (As := [.int x2, .int 0, .int 9]) (rest := []) C h (kX7_within l D κ ad x2 0 9 σ (r := (fX7_within x2 0 9 σ)) rfl) (fun hts => va_cwS 3 hts gX7_stock_X7_within rfl rfl rfl (by decide +kernel) ⟨Nat.le_of_ble_eq_true rfl, Nat.le_of_ble_eq_true rfl⟩) rfl hl.1 (Nat.le_of_ble_eq_true rfl) rfl dX7_stock_14 (fun H locs h => ?_)
    refine lv_if_ne (tgt := 23) hx hb dX7_stock_17 (by decide) (fun c2 => ?_) (fun c2 => ?_)
    · have hf := tk_f c2 hf
      refine lv_aload_n hx hb dX7_stock_23 rfl (lv_at hl 0 rfl) ?_
      refine x_get (v := .ref (ad 9)) C h (gM_Mo κ ad σ) rfl inX7_stock_X7 15 (by decide) (hts _ lkX7_stock_34) rfl dX7_stock_24 ?_
      refine lv_iload_n hx hb dX7_stock_27 rfl (lv_at hl 1 rfl) ?_
      obtain ⟨g3, hf⟩ := gd_ok hf
      refine x_iald (v := (σ 9 x1.toNatClampNeg)) C h (gM_m_count κ ad σ) g3 rfl dX7_stock_28 ?_
      refine lv_istore_n (lv' := [(3, .int (σ 9 x1.toNatClampNeg)), (0, .ref (ad 0)), (1, .int x1), (2, .int x2)]) hx hb dX7_stock_29 rfl hl (by decide) rfl (fun ls hl => ?_)
      refine lv_aload_n hx hb dX7_stock_30 rfl (lv_at hl 1 rfl) ?_
      refine x_get (v := .ref (ad 9)) C h (gM_Mo κ ad σ) rfl inX7_stock_X7 15 (by decide) (hts _ lkX7_stock_34) rfl dX7_stock_31 ?_
      refine lv_iload_n hx hb dX7_stock_34 rfl (lv_at hl 2 rfl) ?_
      refine lv_iload_n hx hb dX7_stock_35 rfl (lv_at hl 3 rfl) ?_
      refine x_iast C h (gM_m_count κ ad σ) (sM_m_count κ ad σ x1.toNatClampNeg x2) g3 dX7_stock_36 (fun H locs h => ?_)
      refine lv_iload_n hx hb dX7_stock_37 rfl (lv_at hl 0 rfl) ?_
      obtain ⟨rfl, rfl⟩ := pr_ok hf
      exact x_iret C h dX7_stock_38
    · have hf := tk_t c2 hf
      refine lv_bipush (v := (-2)) hx hb dX7_stock_20 (by decide) ?_
      obtain ⟨rfl, rfl⟩ := pr_ok hf
      exact x_iret C h dX7_stock_22
  · have hf := tk_t c1 hf
    refine lv_iconst (v := (-1)) hx hb dX7_stock_8 (by decide) ?_
    obtain ⟨rfl, rfl⟩ := pr_ok hf
    exact x_iret C h dX7_stock_9

-- ===== X7_rememberedColour: ButtonMatchModel.rememberedColour()I
theorem lkX7_rememberedColour_99 : Cond.fieldLink RX7 99 "ButtonMatchModel" "wantedColour" "I" ∈ wsX7_rememberedColour := by decide +kernel
theorem inX7_rememberedColour_X7 : ∀ w ∈ wsX70, w ∈ wsX7_rememberedColour := fun _ h => List.mem_cons_of_mem _ (List.mem_append_right _ h)
theorem lkX7_rememberedColour_114 : Cond.fieldLink RX7 114 "ButtonMatchModel" "redder" "I" ∈ wsX7_rememberedColour := by decide +kernel
def fX7_rememberedColour (σ : Sg) : Int32 :=
  (if ((σ 0 5) + (σ 0 17)) ≤ 7 then ((σ 0 5) + (σ 0 17)) else 7)
set_option maxHeartbeats 4000000 in
set_option maxRecDepth 100000 in
theorem kX7_rememberedColour (l : Launch) (D : va_G) (κ : Kp) (ad : Nat → Nat) (σ : Sg) {r : Int32} (hf : fX7_rememberedColour σ = r) : Ci l D κ (wsM κ ad) yX7_rememberedColour wsX7_rememberedColour 0 0 [.ref (ad 0)] σ r σ := by
  refine Ci.of (cc := cX7_rememberedColour) (nL := 2) (ret := (some .int)) (by decide) rfl (Nat.le_of_ble_eq_true rfl) ?_
  intro p e s m below meth c A ls C h hl
  obtain ⟨hx, hb, hml, hr, hlk, hown, hts, hK, hA, hZ⟩ := id C
  have hl : lv_has ls 2 [(0, .ref (ad 0))] := hl
  unfold fX7_rememberedColour at hf
  refine lv_aload_n hx hb dX7_rememberedColour_0 rfl (lv_at hl 0 rfl) ?_
  refine x_get (v := .int (σ 0 5)) C h (gM_Mo κ ad σ) rfl inX7_rememberedColour_X7 5 (by decide) (hts _ lkX7_rememberedColour_99) rfl dX7_rememberedColour_1 ?_
  refine lv_aload_n hx hb dX7_rememberedColour_4 rfl (lv_at hl 0 rfl) ?_
  refine x_get (v := .int (σ 0 17)) C h (gM_Mo κ ad σ) rfl inX7_rememberedColour_X7 17 (by decide) (hts _ lkX7_rememberedColour_114) rfl dX7_rememberedColour_5 ?_
  refine lv_iadd hx hb dX7_rememberedColour_8 ?_
  refine lv_istore_n (lv' := [(1, .int ((σ 0 5) + (σ 0 17))), (0, .ref (ad 0))]) hx hb dX7_rememberedColour_9 rfl hl (by decide) rfl (fun ls hl => ?_)
  refine lv_iload_n hx hb dX7_rememberedColour_10 rfl (lv_at hl 0 rfl) ?_
  refine lv_bipush (v := 7) hx hb dX7_rememberedColour_11 (by decide) ?_
  refine lv_icmp_le (tgt := 21) hx hb dX7_rememberedColour_13 (by decide) (fun c1 => ?_) (fun c1 => ?_)
  · have hf := tk_t c1 hf
    refine lv_iload_n hx hb dX7_rememberedColour_21 rfl (lv_at hl 0 rfl) ?_
    subst hf
    exact x_iret C h dX7_rememberedColour_22
  · have hf := tk_f c1 hf
    refine lv_bipush (v := 7) hx hb dX7_rememberedColour_16 (by decide) ?_
    refine lv_goto (tgt := 22) hx hb dX7_rememberedColour_18 (by decide) ?_
    subst hf
    exact x_iret C h dX7_rememberedColour_22

-- ===== X7_rememberedSize: ButtonMatchModel.rememberedSize()I
theorem lkX7_rememberedSize_102 : Cond.fieldLink RX7 102 "ButtonMatchModel" "wantedSize" "I" ∈ wsX7_rememberedSize := by decide +kernel
theorem inX7_rememberedSize_X7 : ∀ w ∈ wsX70, w ∈ wsX7_rememberedSize := fun _ h => List.mem_cons_of_mem _ (List.mem_append_right _ h)
theorem lkX7_rememberedSize_117 : Cond.fieldLink RX7 117 "ButtonMatchModel" "larger" "I" ∈ wsX7_rememberedSize := by decide +kernel
def fX7_rememberedSize (σ : Sg) : Int32 :=
  (if ((σ 0 6) + (σ 0 18)) ≤ 9 then ((σ 0 6) + (σ 0 18)) else 9)
set_option maxHeartbeats 4000000 in
set_option maxRecDepth 100000 in
theorem kX7_rememberedSize (l : Launch) (D : va_G) (κ : Kp) (ad : Nat → Nat) (σ : Sg) {r : Int32} (hf : fX7_rememberedSize σ = r) : Ci l D κ (wsM κ ad) yX7_rememberedSize wsX7_rememberedSize 0 0 [.ref (ad 0)] σ r σ := by
  refine Ci.of (cc := cX7_rememberedSize) (nL := 2) (ret := (some .int)) (by decide) rfl (Nat.le_of_ble_eq_true rfl) ?_
  intro p e s m below meth c A ls C h hl
  obtain ⟨hx, hb, hml, hr, hlk, hown, hts, hK, hA, hZ⟩ := id C
  have hl : lv_has ls 2 [(0, .ref (ad 0))] := hl
  unfold fX7_rememberedSize at hf
  refine lv_aload_n hx hb dX7_rememberedSize_0 rfl (lv_at hl 0 rfl) ?_
  refine x_get (v := .int (σ 0 6)) C h (gM_Mo κ ad σ) rfl inX7_rememberedSize_X7 6 (by decide) (hts _ lkX7_rememberedSize_102) rfl dX7_rememberedSize_1 ?_
  refine lv_aload_n hx hb dX7_rememberedSize_4 rfl (lv_at hl 0 rfl) ?_
  refine x_get (v := .int (σ 0 18)) C h (gM_Mo κ ad σ) rfl inX7_rememberedSize_X7 18 (by decide) (hts _ lkX7_rememberedSize_117) rfl dX7_rememberedSize_5 ?_
  refine lv_iadd hx hb dX7_rememberedSize_8 ?_
  refine lv_istore_n (lv' := [(1, .int ((σ 0 6) + (σ 0 18))), (0, .ref (ad 0))]) hx hb dX7_rememberedSize_9 rfl hl (by decide) rfl (fun ls hl => ?_)
  refine lv_iload_n hx hb dX7_rememberedSize_10 rfl (lv_at hl 0 rfl) ?_
  refine lv_bipush (v := 9) hx hb dX7_rememberedSize_11 (by decide) ?_
  refine lv_icmp_le (tgt := 21) hx hb dX7_rememberedSize_13 (by decide) (fun c1 => ?_) (fun c1 => ?_)
  · have hf := tk_t c1 hf
    refine lv_iload_n hx hb dX7_rememberedSize_21 rfl (lv_at hl 0 rfl) ?_
    subst hf
    exact x_iret C h dX7_rememberedSize_22
  · have hf := tk_f c1 hf
    refine lv_bipush (v := 9) hx hb dX7_rememberedSize_16 (by decide) ?_
    refine lv_goto (tgt := 22) hx hb dX7_rememberedSize_18 (by decide) ?_
    subst hf
    exact x_iret C h dX7_rememberedSize_22

-- ===== X7_apart: ButtonMatchModel.apart(II)I
def fX7_apart (x0 : Int32) (x1 : Int32) (σ : Sg) : Int32 :=
  (if x0 ≤ x1 then (x1 - x0) else (x0 - x1))
set_option maxHeartbeats 4000000 in
set_option maxRecDepth 100000 in
theorem kX7_apart (l : Launch) (D : va_G) (κ : Kp) (ad : Nat → Nat) (x0 : Int32) (x1 : Int32) (σ : Sg) {r : Int32} (hf : fX7_apart x0 x1 σ = r) : Ci l D κ (wsM κ ad) yX7_apart wsX7_apart 0 0 [.int x0, .int x1] σ r σ := by
  refine Ci.of (cc := cX7_apart) (nL := 2) (ret := (some .int)) (by decide) rfl (Nat.le_of_ble_eq_true rfl) ?_
  intro p e s m below meth c A ls C h hl
  obtain ⟨hx, hb, hml, hr, hlk, hown, hts, hK, hA, hZ⟩ := id C
  have hl : lv_has ls 2 [(0, .int x0), (1, .int x1)] := hl
  unfold fX7_apart at hf
  refine lv_iload_n hx hb dX7_apart_0 rfl (lv_at hl 0 rfl) ?_
  refine lv_iload_n hx hb dX7_apart_1 rfl (lv_at hl 1 rfl) ?_
  refine lv_icmp_le (tgt := 11) hx hb dX7_apart_2 (by decide) (fun c1 => ?_) (fun c1 => ?_)
  · have hf := tk_t c1 hf
    refine lv_iload_n hx hb dX7_apart_11 rfl (lv_at hl 1 rfl) ?_
    refine lv_iload_n hx hb dX7_apart_12 rfl (lv_at hl 0 rfl) ?_
    refine lv_isub hx hb dX7_apart_13 ?_
    subst hf
    exact x_iret C h dX7_apart_14
  · have hf := tk_f c1 hf
    refine lv_iload_n hx hb dX7_apart_5 rfl (lv_at hl 0 rfl) ?_
    refine lv_iload_n hx hb dX7_apart_6 rfl (lv_at hl 1 rfl) ?_
    refine lv_isub hx hb dX7_apart_7 ?_
    refine lv_goto (tgt := 14) hx hb dX7_apart_8 (by decide) ?_
    subst hf
    exact x_iret C h dX7_apart_14

-- ===== X7_farFrom: ButtonMatchModel.farFrom(III)I
theorem lkX7_farFrom_31 : Cond.fieldLink RX7 31 "ButtonMatchModel" "holes" "[I" ∈ wsX7_farFrom := by decide +kernel
theorem inX7_farFrom_X7 : ∀ w ∈ wsX70, w ∈ wsX7_farFrom := fun _ h => List.mem_cons_of_mem _ (List.mem_append_right _ h)
theorem lkX7_farFrom_105 : Cond.fieldLink RX7 105 "ButtonMatchModel" "wantedHoles" "I" ∈ wsX7_farFrom := by decide +kernel
def fX7_farFrom (x1 : Int32) (x2 : Int32) (x3 : Int32) (σ : Sg) : Option (Int32) :=
  ((fX7_looksColour x1 σ).bind fun r2 => ((fX7_looksSize x1 σ).bind fun r4 => (if gIn x1 6 then (if (σ 8 x1.toNatClampNeg) = (σ 0 7) then some (((fX7_apart r2 x2 σ) + (fX7_apart r4 x3 σ)) + 0) else some (((fX7_apart r2 x2 σ) + (fX7_apart r4 x3 σ)) + 2)) else none)))
set_option maxHeartbeats 4000000 in
set_option maxRecDepth 100000 in
theorem kX7_farFrom (l : Launch) (D : va_G) (κ : Kp) (ad : Nat → Nat) (x1 : Int32) (x2 : Int32) (x3 : Int32) (σ : Sg) {r : Int32} (hf : fX7_farFrom x1 x2 x3 σ = some r) : Ci l D κ (wsM κ ad) yX7_farFrom wsX7_farFrom 1 22 [.ref (ad 0), .int x1, .int x2, .int x3] σ r σ := by
  refine Ci.of (cc := cX7_farFrom) (nL := 4) (ret := (some .int)) (by decide) rfl (Nat.le_of_ble_eq_true rfl) ?_
  intro p e s m below meth c A ls C h hl
  obtain ⟨hx, hb, hml, hr, hlk, hown, hts, hK, hA, hZ⟩ := id C
  have hl : lv_has ls 4 [(0, .ref (ad 0)), (1, .int x1), (2, .int x2), (3, .int x3)] := hl
  unfold fX7_farFrom at hf
  refine lv_aload_n hx hb dX7_farFrom_0 rfl (lv_at hl 0 rfl) ?_
  refine lv_iload_n hx hb dX7_farFrom_1 rfl (lv_at hl 1 rfl) ?_
  obtain ⟨r2, hg1, hf⟩ := bd_ok hf
  refine x_vi (As := [.int x1]) (rest := []) C h (gM_Mo κ ad σ) rfl (kX7_looksColour l D κ ad x1 σ (r := r2) hg1) (fun hts => cwV 1 hts gX7_farFrom_X7_looksColour rfl rfl rfl (by decide +kernel) ⟨Nat.le_of_ble_eq_true rfl, Nat.le_of_ble_eq_true rfl⟩) rfl hl.1 (Nat.le_of_ble_eq_true rfl) rfl dX7_farFrom_2 (fun H locs h => ?_)
  refine lv_iload_n hx hb dX7_farFrom_5 rfl (lv_at hl 2 rfl) ?_
  refine x_si (As := [.int r2, .int x2]) (rest := []) C h (kX7_apart l D κ ad r2 x2 σ (r := (fX7_apart r2 x2 σ)) rfl) (fun hts => va_cwS 2 hts gX7_farFrom_X7_apart rfl rfl rfl (by decide +kernel) ⟨Nat.le_of_ble_eq_true rfl, Nat.le_of_ble_eq_true rfl⟩) rfl hl.1 (Nat.le_of_ble_eq_true rfl) rfl dX7_farFrom_6 (fun H locs h => ?_)
  refine lv_aload_n hx hb dX7_farFrom_9 rfl (lv_at hl 0 rfl) ?_
  refine lv_iload_n hx hb dX7_farFrom_10 rfl (lv_at hl 1 rfl) ?_
  obtain ⟨r4, hg3, hf⟩ := bd_ok hf
  refine x_vi (As := [.int x1]) (rest := [.int (fX7_apart r2 x2 σ)]) C h (gM_Mo κ ad σ) rfl (kX7_looksSize l D κ ad x1 σ (r := r4) hg3) (fun hts => cwV 1 hts gX7_farFrom_X7_looksSize rfl rfl rfl (by decide +kernel) ⟨Nat.le_of_ble_eq_true rfl, Nat.le_of_ble_eq_true rfl⟩) rfl hl.1 (Nat.le_of_ble_eq_true rfl) rfl dX7_farFrom_11 (fun H locs h => ?_)
  refine lv_iload_n hx hb dX7_farFrom_14 rfl (lv_at hl 3 rfl) ?_
  refine x_si (As := [.int r4, .int x3]) (rest := [.int (fX7_apart r2 x2 σ)]) C h (kX7_apart l D κ ad r4 x3 σ (r := (fX7_apart r4 x3 σ)) rfl) (fun hts => va_cwS 2 hts gX7_farFrom_X7_apart rfl rfl rfl (by decide +kernel) ⟨Nat.le_of_ble_eq_true rfl, Nat.le_of_ble_eq_true rfl⟩) rfl hl.1 (Nat.le_of_ble_eq_true rfl) rfl dX7_farFrom_15 (fun H locs h => ?_)
  refine lv_iadd hx hb dX7_farFrom_18 ?_
  refine lv_aload_n hx hb dX7_farFrom_19 rfl (lv_at hl 0 rfl) ?_
  refine x_get (v := .ref (ad 8)) C h (gM_Mo κ ad σ) rfl inX7_farFrom_X7 14 (by decide) (hts _ lkX7_farFrom_31) rfl dX7_farFrom_20 ?_
  refine lv_iload_n hx hb dX7_farFrom_23 rfl (lv_at hl 1 rfl) ?_
  obtain ⟨g5, hf⟩ := gd_ok hf
  refine x_iald (v := (σ 8 x1.toNatClampNeg)) C h (gM_m_holes κ ad σ) g5 rfl dX7_farFrom_24 ?_
  refine lv_aload_n hx hb dX7_farFrom_25 rfl (lv_at hl 0 rfl) ?_
  refine x_get (v := .int (σ 0 7)) C h (gM_Mo κ ad σ) rfl inX7_farFrom_X7 7 (by decide) (hts _ lkX7_farFrom_105) rfl dX7_farFrom_26 ?_
  refine lv_icmp_ne (tgt := 36) hx hb dX7_farFrom_29 (by decide) (fun c6 => ?_) (fun c6 => ?_)
  · have hf := tk_f c6 hf
    refine lv_iconst (v := 2) hx hb dX7_farFrom_36 (by decide) ?_
    refine lv_iadd hx hb dX7_farFrom_37 ?_
    obtain rfl := so_ok hf
    exact x_iret C h dX7_farFrom_38
  · have hf := tk_t c6 hf
    refine lv_iconst (v := 0) hx hb dX7_farFrom_32 (by decide) ?_
    refine lv_goto (tgt := 37) hx hb dX7_farFrom_33 (by decide) ?_
    refine lv_iadd hx hb dX7_farFrom_37 ?_
    obtain rfl := so_ok hf
    exact x_iret C h dX7_farFrom_38

-- ===== X7_farOf: ButtonMatchModel.farOf(I)I
def fX7_farOf (x1 : Int32) (σ : Sg) : Option (Int32) :=
  ((fX7_farFrom x1 (fX7_rememberedColour σ) (fX7_rememberedSize σ) σ).bind fun r2 => some r2)
set_option maxHeartbeats 4000000 in
set_option maxRecDepth 100000 in
theorem kX7_farOf (l : Launch) (D : va_G) (κ : Kp) (ad : Nat → Nat) (x1 : Int32) (σ : Sg) {r : Int32} (hf : fX7_farOf x1 σ = some r) : Ci l D κ (wsM κ ad) yX7_farOf wsX7_farOf 2 45 [.ref (ad 0), .int x1] σ r σ := by
  refine Ci.of (cc := cX7_farOf) (nL := 2) (ret := (some .int)) (by decide) rfl (Nat.le_of_ble_eq_true rfl) ?_
  intro p e s m below meth c A ls C h hl
  obtain ⟨hx, hb, hml, hr, hlk, hown, hts, hK, hA, hZ⟩ := id C
  have hl : lv_has ls 2 [(0, .ref (ad 0)), (1, .int x1)] := hl
  unfold fX7_farOf at hf
  refine lv_aload_n hx hb dX7_farOf_0 rfl (lv_at hl 0 rfl) ?_
  refine lv_iload_n hx hb dX7_farOf_1 rfl (lv_at hl 1 rfl) ?_
  refine lv_aload_n hx hb dX7_farOf_2 rfl (lv_at hl 0 rfl) ?_
  refine x_vi (As := []) (rest := [.int x1, .ref (ad 0)]) C h (gM_Mo κ ad σ) rfl (kX7_rememberedColour l D κ ad σ (r := (fX7_rememberedColour σ)) rfl) (fun hts => cwV 0 hts gX7_farOf_X7_rememberedColour rfl rfl rfl (by decide +kernel) ⟨Nat.le_of_ble_eq_true rfl, Nat.le_of_ble_eq_true rfl⟩) rfl hl.1 (Nat.le_of_ble_eq_true rfl) rfl dX7_farOf_3 (fun H locs h => ?_)
  refine lv_aload_n hx hb dX7_farOf_6 rfl (lv_at hl 0 rfl) ?_
  refine x_vi (As := []) (rest := [.int (fX7_rememberedColour σ), .int x1, .ref (ad 0)]) C h (gM_Mo κ ad σ) rfl (kX7_rememberedSize l D κ ad σ (r := (fX7_rememberedSize σ)) rfl) (fun hts => cwV 0 hts gX7_farOf_X7_rememberedSize rfl rfl rfl (by decide +kernel) ⟨Nat.le_of_ble_eq_true rfl, Nat.le_of_ble_eq_true rfl⟩) rfl hl.1 (Nat.le_of_ble_eq_true rfl) rfl dX7_farOf_7 (fun H locs h => ?_)
  obtain ⟨r2, hg1, hf⟩ := bd_ok hf
  refine x_vi (As := [.int x1, .int (fX7_rememberedColour σ), .int (fX7_rememberedSize σ)]) (rest := []) C h (gM_Mo κ ad σ) rfl (kX7_farFrom l D κ ad x1 (fX7_rememberedColour σ) (fX7_rememberedSize σ) σ (r := r2) hg1) (fun hts => cwV 3 hts gX7_farOf_X7_farFrom rfl rfl rfl (by decide +kernel) ⟨Nat.le_of_ble_eq_true rfl, Nat.le_of_ble_eq_true rfl⟩) rfl hl.1 (Nat.le_of_ble_eq_true rfl) rfl dX7_farOf_10 (fun H locs h => ?_)
  obtain rfl := so_ok hf
  exact x_iret C h dX7_farOf_13

-- ===== X7_far: ButtonMatchModel.far(I)I
def fX7_far (x1 : Int32) (σ : Sg) : Option (Int32) :=
  (if (fX7_isTube x1 σ) = 0 then some (-1) else ((fX7_farOf x1 σ).bind fun r3 => some r3))
set_option maxHeartbeats 4000000 in
set_option maxRecDepth 100000 in
theorem kX7_far (l : Launch) (D : va_G) (κ : Kp) (ad : Nat → Nat) (x1 : Int32) (σ : Sg) {r : Int32} (hf : fX7_far x1 σ = some r) : Ci l D κ (wsM κ ad) yX7_far wsX7_far 3 66 [.ref (ad 0), .int x1] σ r σ := by
  refine Ci.of (cc := cX7_far) (nL := 2) (ret := (some .int)) (by decide) rfl (Nat.le_of_ble_eq_true rfl) ?_
  intro p e s m below meth c A ls C h hl
  obtain ⟨hx, hb, hml, hr, hlk, hown, hts, hK, hA, hZ⟩ := id C
  have hl : lv_has ls 2 [(0, .ref (ad 0)), (1, .int x1)] := hl
  unfold fX7_far at hf
  refine lv_aload_n hx hb dX7_far_0 rfl (lv_at hl 0 rfl) ?_
  refine lv_iload_n hx hb dX7_far_1 rfl (lv_at hl 1 rfl) ?_
  refine x_vi (As := [.int x1]) (rest := []) C h (gM_Mo κ ad σ) rfl (kX7_isTube l D κ ad x1 σ (r := (fX7_isTube x1 σ)) rfl) (fun hts => cwV 1 hts gX7_far_X7_isTube rfl rfl rfl (by decide +kernel) ⟨Nat.le_of_ble_eq_true rfl, Nat.le_of_ble_eq_true rfl⟩) rfl hl.1 (Nat.le_of_ble_eq_true rfl) rfl dX7_far_2 (fun H locs h => ?_)
  refine lv_if_eq (tgt := 16) hx hb dX7_far_5 (by decide) (fun c1 => ?_) (fun c1 => ?_)
  · have hf := tk_t c1 hf
    refine lv_iconst (v := (-1)) hx hb dX7_far_16 (by decide) ?_
    obtain rfl := so_ok hf
    exact x_iret C h dX7_far_17
  · have hf := tk_f c1 hf
    refine lv_aload_n hx hb dX7_far_8 rfl (lv_at hl 0 rfl) ?_
    refine lv_iload_n hx hb dX7_far_9 rfl (lv_at hl 1 rfl) ?_
    obtain ⟨r3, hg2, hf⟩ := bd_ok hf
    refine x_vi (As := [.int x1]) (rest := []) C h (gM_Mo κ ad σ) rfl (kX7_farOf l D κ ad x1 σ (r := r3) hg2) (fun hts => cwV 1 hts gX7_far_X7_farOf rfl rfl rfl (by decide +kernel) ⟨Nat.le_of_ble_eq_true rfl, Nat.le_of_ble_eq_true rfl⟩) rfl hl.1 (Nat.le_of_ble_eq_true rfl) rfl dX7_far_10 (fun H locs h => ?_)
    refine lv_goto (tgt := 17) hx hb dX7_far_13 (by decide) ?_
    obtain rfl := so_ok hf
    exact x_iret C h dX7_far_17

-- ===== X7_isSheet: ButtonMatchModel.isSheet(I)Z
def fX7_isSheet (x0 : Int32) (σ : Sg) : Int32 :=
  (fX7_within x0 0 3 σ)
set_option maxHeartbeats 4000000 in
set_option maxRecDepth 100000 in
theorem kX7_isSheet (l : Launch) (D : va_G) (κ : Kp) (ad : Nat → Nat) (x0 : Int32) (σ : Sg) {r : Int32} (hf : fX7_isSheet x0 σ = r) : Ci l D κ (wsM κ ad) yX7_isSheet wsX7_isSheet 1 22 [.int x0] σ r σ := by
  refine Ci.of (cc := cX7_isSheet) (nL := 1) (ret := (some .boolean)) (by decide) rfl (Nat.le_of_ble_eq_true rfl) ?_
  intro p e s m below meth c A ls C h hl
  obtain ⟨hx, hb, hml, hr, hlk, hown, hts, hK, hA, hZ⟩ := id C
  have hl : lv_has ls 1 [(0, .int x0)] := hl
  unfold fX7_isSheet at hf
  refine lv_iload_n hx hb dX7_isSheet_0 rfl (lv_at hl 0 rfl) ?_
  refine lv_iconst (v := 0) hx hb dX7_isSheet_1 (by decide) ?_
  refine lv_iconst (v := 3) hx hb dX7_isSheet_2 (by decide) ?_
  refine x_si (As := [.int x0, .int 0, .int 3]) (rest := []) C h (kX7_within l D κ ad x0 0 3 σ (r := (fX7_within x0 0 3 σ)) rfl) (fun hts => va_cwS 3 hts gX7_isSheet_X7_within rfl rfl rfl (by decide +kernel) ⟨Nat.le_of_ble_eq_true rfl, Nat.le_of_ble_eq_true rfl⟩) rfl hl.1 (Nat.le_of_ble_eq_true rfl) rfl dX7_isSheet_3 (fun H locs h => ?_)
  subst hf
  exact x_zret C (nzX7_within ..) h dX7_isSheet_6
theorem nzX7_isSheet (x0 : Int32) (σ : Sg) : narrow .boolean (.int (fX7_isSheet x0 σ)) = .int (fX7_isSheet x0 σ) := by
  exact nzX7_within ..

-- ===== X7_isSort: ButtonMatchModel.isSort(I)Z
def fX7_isSort (x0 : Int32) (σ : Sg) : Int32 :=
  (fX7_within x0 0 2 σ)
set_option maxHeartbeats 4000000 in
set_option maxRecDepth 100000 in
theorem kX7_isSort (l : Launch) (D : va_G) (κ : Kp) (ad : Nat → Nat) (x0 : Int32) (σ : Sg) {r : Int32} (hf : fX7_isSort x0 σ = r) : Ci l D κ (wsM κ ad) yX7_isSort wsX7_isSort 1 22 [.int x0] σ r σ := by
  refine Ci.of (cc := cX7_isSort) (nL := 1) (ret := (some .boolean)) (by decide) rfl (Nat.le_of_ble_eq_true rfl) ?_
  intro p e s m below meth c A ls C h hl
  obtain ⟨hx, hb, hml, hr, hlk, hown, hts, hK, hA, hZ⟩ := id C
  have hl : lv_has ls 1 [(0, .int x0)] := hl
  unfold fX7_isSort at hf
  refine lv_iload_n hx hb dX7_isSort_0 rfl (lv_at hl 0 rfl) ?_
  refine lv_iconst (v := 0) hx hb dX7_isSort_1 (by decide) ?_
  refine lv_iconst (v := 2) hx hb dX7_isSort_2 (by decide) ?_
  refine x_si (As := [.int x0, .int 0, .int 2]) (rest := []) C h (kX7_within l D κ ad x0 0 2 σ (r := (fX7_within x0 0 2 σ)) rfl) (fun hts => va_cwS 3 hts gX7_isSort_X7_within rfl rfl rfl (by decide +kernel) ⟨Nat.le_of_ble_eq_true rfl, Nat.le_of_ble_eq_true rfl⟩) rfl hl.1 (Nat.le_of_ble_eq_true rfl) rfl dX7_isSort_3 (fun H locs h => ?_)
  subst hf
  exact x_zret C (nzX7_within ..) h dX7_isSort_6
theorem nzX7_isSort (x0 : Int32) (σ : Sg) : narrow .boolean (.int (fX7_isSort x0 σ)) = .int (fX7_isSort x0 σ) := by
  exact nzX7_within ..

-- ===== X7_against: ButtonMatchModel.against(IIII)I
theorem lkX7_against_9 : Cond.fieldLink RX7 9 "ButtonMatchModel" "sorts" "[I" ∈ wsX7_against := by decide +kernel
theorem inX7_against_X7 : ∀ w ∈ wsX70, w ∈ wsX7_against := fun _ h => List.mem_cons_of_mem _ (List.mem_append_right _ h)
theorem lkX7_against_13 : Cond.fieldLink RX7 13 "ButtonMatchModel" "sheetLong" "[I" ∈ wsX7_against := by decide +kernel
def fX7_against_23 (σ : Sg) (x1 : Int32) (x3 : Int32) (x4 : Int32) : Option (Int32) :=
  (if gIn x1 4 then (if (σ 1 x1.toNatClampNeg) = (-9) then some 1 else (if 0 ≤ x4 then (if x3 < 0 then some 3 else (if (σ 2 x1.toNatClampNeg) < x3 then some 3 else (if x4 ≤ ((σ 2 x1.toNatClampNeg) - x3) then some 0 else some 3))) else some 4)) else none)
set_option maxHeartbeats 4000000 in
set_option maxRecDepth 100000 in
theorem jX7_against_23 {p : Program} {l : Launch} {e : Env} {s : State} {m : MethodId} {args : Array Value} {below : List Frame} {meth : Method} {c : Code} {D : va_G} {κ : Kp} {ad : Nat → Nat} {A : Nat → Prop} {r : Int32} (C : Mc p s m args meth c cX7_against 5 (some .int) wsX7_against RX7 D κ A) (σ : Sg) (x1 : Int32) (x3 : Int32) (x4 : Int32) (H : Heap) (locs : List Loc) (ls : Array Slot) (h : Wd D (wsM κ ad) A s.heap H locs σ) (hl : lv_has ls 5 [(0, .ref (ad 0)), (1, .int x1), (3, .int x3), (4, .int x4)]) (hf : fX7_against_23 σ x1 x3 x4 = some r) : W p l e { frames := 0, cells := 0, slots := 0, locals := 0 } s m args below meth c H locs 0 0 (Qi below args s D (wsM κ ad) A r σ) (F0 m 23 ls []) := by
  obtain ⟨hx, hb, hml, hr, hlk, hown, hts, hK, hA, hZ⟩ := id C
  unfold fX7_against_23 at hf
  refine lv_aload_n hx hb dX7_against_23 rfl (lv_at hl 0 rfl) ?_
  refine x_get (v := .ref (ad 1)) C h (gM_Mo κ ad σ) rfl inX7_against_X7 2 (by decide) (hts _ lkX7_against_9) rfl dX7_against_24 ?_
  refine lv_iload_n hx hb dX7_against_27 rfl (lv_at hl 1 rfl) ?_
  obtain ⟨g1, hf⟩ := gd_ok hf
  refine x_iald (v := (σ 1 x1.toNatClampNeg)) C h (gM_m_sorts κ ad σ) g1 rfl dX7_against_28 ?_
  refine lv_bipush (v := (-9)) hx hb dX7_against_29 (by decide) ?_
  refine lv_icmp_ne (tgt := 36) hx hb dX7_against_31 (by decide) (fun c2 => ?_) (fun c2 => ?_)
  · have hf := tk_f c2 hf
    refine lv_iload hx hb dX7_against_36 (lv_at hl 3 rfl) ?_
    refine lv_if_ge (tgt := 43) hx hb dX7_against_38 (by decide) (fun c3 => ?_) (fun c3 => ?_)
    · have hf := tk_t c3 hf
      refine lv_iload_n hx hb dX7_against_43 rfl (lv_at hl 2 rfl) ?_
      refine lv_if_lt (tgt := 70) hx hb dX7_against_44 (by decide) (fun c4 => ?_) (fun c4 => ?_)
      · have hf := tk_t c4 hf
        refine lv_iconst (v := 3) hx hb dX7_against_70 (by decide) ?_
        refine lv_goto (tgt := 75) hx hb dX7_against_71 (by decide) ?_
        obtain rfl := so_ok hf
        exact x_iret C h dX7_against_75
      · have hf := tk_f c4 hf
        refine lv_iload_n hx hb dX7_against_47 rfl (lv_at hl 2 rfl) ?_
        refine lv_aload_n hx hb dX7_against_48 rfl (lv_at hl 0 rfl) ?_
        refine x_get (v := .ref (ad 2)) C h (gM_Mo κ ad σ) rfl inX7_against_X7 3 (by decide) (hts _ lkX7_against_13) rfl dX7_against_49 ?_
        refine lv_iload_n hx hb dX7_against_52 rfl (lv_at hl 1 rfl) ?_
        refine x_iald (v := (σ 2 x1.toNatClampNeg)) C h (gM_m_sheetLong κ ad σ) g1 rfl dX7_against_53 ?_
        refine lv_icmp_gt (tgt := 70) hx hb dX7_against_54 (by decide) (fun c5 => ?_) (fun c5 => ?_)
        · have hf := tk_t c5 hf
          refine lv_iconst (v := 3) hx hb dX7_against_70 (by decide) ?_
          refine lv_goto (tgt := 75) hx hb dX7_against_71 (by decide) ?_
          obtain rfl := so_ok hf
          exact x_iret C h dX7_against_75
        · have hf := tk_f c5 hf
          refine lv_iload hx hb dX7_against_57 (lv_at hl 3 rfl) ?_
          refine lv_aload_n hx hb dX7_against_59 rfl (lv_at hl 0 rfl) ?_
          refine x_get (v := .ref (ad 2)) C h (gM_Mo κ ad σ) rfl inX7_against_X7 3 (by decide) (hts _ lkX7_against_13) rfl dX7_against_60 ?_
          refine lv_iload_n hx hb dX7_against_63 rfl (lv_at hl 1 rfl) ?_
          refine x_iald (v := (σ 2 x1.toNatClampNeg)) C h (gM_m_sheetLong κ ad σ) g1 rfl dX7_against_64 ?_
          refine lv_iload_n hx hb dX7_against_65 rfl (lv_at hl 2 rfl) ?_
          refine lv_isub hx hb dX7_against_66 ?_
          refine lv_icmp_le (tgt := 74) hx hb dX7_against_67 (by decide) (fun c6 => ?_) (fun c6 => ?_)
          · have hf := tk_t c6 hf
            refine lv_iconst (v := 0) hx hb dX7_against_74 (by decide) ?_
            obtain rfl := so_ok hf
            exact x_iret C h dX7_against_75
          · have hf := tk_f c6 hf
            refine lv_iconst (v := 3) hx hb dX7_against_70 (by decide) ?_
            refine lv_goto (tgt := 75) hx hb dX7_against_71 (by decide) ?_
            obtain rfl := so_ok hf
            exact x_iret C h dX7_against_75
    · have hf := tk_f c3 hf
      refine lv_iconst (v := 4) hx hb dX7_against_41 (by decide) ?_
      obtain rfl := so_ok hf
      exact x_iret C h dX7_against_42
  · have hf := tk_t c2 hf
    refine lv_iconst (v := 1) hx hb dX7_against_34 (by decide) ?_
    obtain rfl := so_ok hf
    exact x_iret C h dX7_against_35
def fX7_against (x1 : Int32) (x2 : Int32) (x3 : Int32) (x4 : Int32) (σ : Sg) : Option (Int32) :=
  (if gIn x1 4 then (if (σ 1 x1.toNatClampNeg) = (-9) then fX7_against_23 σ x1 x3 x4 else (if (σ 1 x1.toNatClampNeg) = x2 then fX7_against_23 σ x1 x3 x4 else some 2)) else none)
set_option maxHeartbeats 4000000 in
set_option maxRecDepth 100000 in
theorem kX7_against (l : Launch) (D : va_G) (κ : Kp) (ad : Nat → Nat) (x1 : Int32) (x2 : Int32) (x3 : Int32) (x4 : Int32) (σ : Sg) {r : Int32} (hf : fX7_against x1 x2 x3 x4 σ = some r) : Ci l D κ (wsM κ ad) yX7_against wsX7_against 0 0 [.ref (ad 0), .int x1, .int x2, .int x3, .int x4] σ r σ := by
  refine Ci.of (cc := cX7_against) (nL := 5) (ret := (some .int)) (by decide) rfl (Nat.le_of_ble_eq_true rfl) ?_
  intro p e s m below meth c A ls C h hl
  obtain ⟨hx, hb, hml, hr, hlk, hown, hts, hK, hA, hZ⟩ := id C
  have hl : lv_has ls 5 [(0, .ref (ad 0)), (1, .int x1), (2, .int x2), (3, .int x3), (4, .int x4)] := hl
  unfold fX7_against at hf
  refine lv_aload_n hx hb dX7_against_0 rfl (lv_at hl 0 rfl) ?_
  refine x_get (v := .ref (ad 1)) C h (gM_Mo κ ad σ) rfl inX7_against_X7 2 (by decide) (hts _ lkX7_against_9) rfl dX7_against_1 ?_
  refine lv_iload_n hx hb dX7_against_4 rfl (lv_at hl 1 rfl) ?_
  obtain ⟨g7, hf⟩ := gd_ok hf
  refine x_iald (v := (σ 1 x1.toNatClampNeg)) C h (gM_m_sorts κ ad σ) g7 rfl dX7_against_5 ?_
  refine lv_bipush (v := (-9)) hx hb dX7_against_6 (by decide) ?_
  refine lv_icmp_eq (tgt := 23) hx hb dX7_against_8 (by decide) (fun c8 => ?_) (fun c8 => ?_)
  · have hf := tk_t c8 hf
    exact jX7_against_23 C σ x1 x3 x4 _ _ _ h (lv_sub hl [0, 1, 3, 4] rfl) hf
  · have hf := tk_f c8 hf
    refine lv_aload_n hx hb dX7_against_11 rfl (lv_at hl 0 rfl) ?_
    refine x_get (v := .ref (ad 1)) C h (gM_Mo κ ad σ) rfl inX7_against_X7 2 (by decide) (hts _ lkX7_against_9) rfl dX7_against_12 ?_
    refine lv_iload_n hx hb dX7_against_15 rfl (lv_at hl 1 rfl) ?_
    refine x_iald (v := (σ 1 x1.toNatClampNeg)) C h (gM_m_sorts κ ad σ) g7 rfl dX7_against_16 ?_
    refine lv_iload_n hx hb dX7_against_17 rfl (lv_at hl 2 rfl) ?_
    refine lv_icmp_eq (tgt := 23) hx hb dX7_against_18 (by decide) (fun c9 => ?_) (fun c9 => ?_)
    · have hf := tk_t c9 hf
      exact jX7_against_23 C σ x1 x3 x4 _ _ _ h (lv_sub hl [0, 1, 3, 4] rfl) hf
    · have hf := tk_f c9 hf
      refine lv_iconst (v := 2) hx hb dX7_against_21 (by decide) ?_
      obtain rfl := so_ok hf
      exact x_iret C h dX7_against_22

-- ===== X7_fails: ButtonMatchModel.fails(I)I
theorem lkX7_fails_62 : Cond.fieldLink RX7 62 "ButtonMatchModel" "fault" "I" ∈ wsX7_fails := by decide +kernel
theorem inX7_fails_X7 : ∀ w ∈ wsX70, w ∈ wsX7_fails := fun _ h => List.mem_cons_of_mem _ (List.mem_append_right _ h)
def fX7_fails (x1 : Int32) (σ : Sg) : Int32 × Sg :=
  (((-10) - x1), (up2 σ 0 0 x1))
set_option maxHeartbeats 4000000 in
set_option maxRecDepth 100000 in
theorem kX7_fails (l : Launch) (D : va_G) (κ : Kp) (ad : Nat → Nat) (x1 : Int32) (σ : Sg) {r : Int32} {τ : Sg} (hf : fX7_fails x1 σ = (r, τ)) : Ci l D κ (wsM κ ad) yX7_fails wsX7_fails 0 0 [.ref (ad 0), .int x1] σ r τ := by
  refine Ci.of (cc := cX7_fails) (nL := 2) (ret := (some .int)) (by decide) rfl (Nat.le_of_ble_eq_true rfl) ?_
  intro p e s m below meth c A ls C h hl
  obtain ⟨hx, hb, hml, hr, hlk, hown, hts, hK, hA, hZ⟩ := id C
  have hl : lv_has ls 2 [(0, .ref (ad 0)), (1, .int x1)] := hl
  unfold fX7_fails at hf
  refine lv_aload_n hx hb dX7_fails_0 rfl (lv_at hl 0 rfl) ?_
  refine lv_iload_n hx hb dX7_fails_1 rfl (lv_at hl 1 rfl) ?_
  refine x_put C h (gM_Mo κ ad σ) rfl inX7_fails_X7 tyX7 tyX7_ok nmX7 0 (by decide) (hts _ lkX7_fails_62) rfl (tyX7_ok 0 (by decide)) (Nat.le_of_ble_eq_true rfl) (sM_Mo_0 κ ad σ x1) dX7_fails_2 (fun H locs h => ?_)
  refine lv_bipush (v := (-10)) hx hb dX7_fails_5 (by decide) ?_
  refine lv_iload_n hx hb dX7_fails_7 rfl (lv_at hl 1 rfl) ?_
  refine lv_isub hx hb dX7_fails_8 ?_
  obtain ⟨rfl, rfl⟩ := pr_tot hf
  exact x_iret C h dX7_fails_9

-- ===== X7_isAlike: ButtonMatchModel.isAlike(I)Z
theorem lkX7_isAlike_120 : Cond.fieldLink RX7 120 "ButtonMatchModel" "near" "I" ∈ wsX7_isAlike := by decide +kernel
theorem inX7_isAlike_X7 : ∀ w ∈ wsX70, w ∈ wsX7_isAlike := fun _ h => List.mem_cons_of_mem _ (List.mem_append_right _ h)
def fX7_isAlike (x1 : Int32) (σ : Sg) : Option (Int32) :=
  ((fX7_farOf x1 σ).bind fun r2 => (if (σ 0 19) < r2 then some 0 else some 1))
set_option maxHeartbeats 4000000 in
set_option maxRecDepth 100000 in
theorem kX7_isAlike (l : Launch) (D : va_G) (κ : Kp) (ad : Nat → Nat) (x1 : Int32) (σ : Sg) {r : Int32} (hf : fX7_isAlike x1 σ = some r) : Ci l D κ (wsM κ ad) yX7_isAlike wsX7_isAlike 3 66 [.ref (ad 0), .int x1] σ r σ := by
  refine Ci.of (cc := cX7_isAlike) (nL := 2) (ret := (some .boolean)) (by decide) rfl (Nat.le_of_ble_eq_true rfl) ?_
  intro p e s m below meth c A ls C h hl
  obtain ⟨hx, hb, hml, hr, hlk, hown, hts, hK, hA, hZ⟩ := id C
  have hl : lv_has ls 2 [(0, .ref (ad 0)), (1, .int x1)] := hl
  unfold fX7_isAlike at hf
  refine lv_aload_n hx hb dX7_isAlike_0 rfl (lv_at hl 0 rfl) ?_
  refine lv_iload_n hx hb dX7_isAlike_1 rfl (lv_at hl 1 rfl) ?_
  obtain ⟨r2, hg1, hf⟩ := bd_ok hf
  refine x_vi (As := [.int x1]) (rest := []) C h (gM_Mo κ ad σ) rfl (kX7_farOf l D κ ad x1 σ (r := r2) hg1) (fun hts => cwV 1 hts gX7_isAlike_X7_farOf rfl rfl rfl (by decide +kernel) ⟨Nat.le_of_ble_eq_true rfl, Nat.le_of_ble_eq_true rfl⟩) rfl hl.1 (Nat.le_of_ble_eq_true rfl) rfl dX7_isAlike_2 (fun H locs h => ?_)
  refine lv_aload_n hx hb dX7_isAlike_5 rfl (lv_at hl 0 rfl) ?_
  refine x_get (v := .int (σ 0 19)) C h (gM_Mo κ ad σ) rfl inX7_isAlike_X7 19 (by decide) (hts _ lkX7_isAlike_120) rfl dX7_isAlike_6 ?_
  refine lv_icmp_gt (tgt := 16) hx hb dX7_isAlike_9 (by decide) (fun c3 => ?_) (fun c3 => ?_)
  · have hf := tk_t c3 hf
    refine lv_iconst (v := 0) hx hb dX7_isAlike_16 (by decide) ?_
    obtain rfl := so_ok hf
    exact x_zret C rfl h dX7_isAlike_17
  · have hf := tk_f c3 hf
    refine lv_iconst (v := 1) hx hb dX7_isAlike_12 (by decide) ?_
    refine lv_goto (tgt := 17) hx hb dX7_isAlike_13 (by decide) ?_
    obtain rfl := so_ok hf
    exact x_zret C rfl h dX7_isAlike_17

-- ===== X7_searchAll: ButtonMatchModel.searchAll(III)I
theorem lkX7_searchAll_16 : Cond.fieldLink RX7 16 "ButtonMatchModel" "cells" "[I" ∈ wsX7_searchAll := by decide +kernel
theorem inX7_searchAll_X7 : ∀ w ∈ wsX70, w ∈ wsX7_searchAll := fun _ h => List.mem_cons_of_mem _ (List.mem_append_right _ h)
def fX7_searchAll_79 (σ : Sg) (x3 : Int32) (x4 : Int32) (x6 : Int32) (x7 : Int32) : Option (Int32) :=
  (if x3 = 0 then some x4 else (if x3 = 1 then some x6 else some x7))
set_option maxHeartbeats 4000000 in
set_option maxRecDepth 100000 in
theorem jX7_searchAll_79 {p : Program} {l : Launch} {e : Env} {s : State} {m : MethodId} {args : Array Value} {below : List Frame} {meth : Method} {c : Code} {D : va_G} {κ : Kp} {ad : Nat → Nat} {A : Nat → Prop} {r : Int32} (C : Mc p s m args meth c cX7_searchAll 9 (some .int) wsX7_searchAll RX7 D κ A) (σ : Sg) (x3 : Int32) (x4 : Int32) (x6 : Int32) (x7 : Int32) (H : Heap) (locs : List Loc) (ls : Array Slot) (h : Wd D (wsM κ ad) A s.heap H locs σ) (hl : lv_has ls 9 [(3, .int x3), (4, .int x4), (6, .int x6), (7, .int x7)]) (hf : fX7_searchAll_79 σ x3 x4 x6 x7 = some r) : W p l e { frames := 4, cells := 0, slots := 0, locals := 87 } s m args below meth c H locs 0 0 (Qi below args s D (wsM κ ad) A r σ) (F0 m 79 ls []) := by
  obtain ⟨hx, hb, hml, hr, hlk, hown, hts, hK, hA, hZ⟩ := id C
  unfold fX7_searchAll_79 at hf
  refine lv_iload_n hx hb dX7_searchAll_79 rfl (lv_at hl 0 rfl) ?_
  refine lv_if_ne (tgt := 88) hx hb dX7_searchAll_80 (by decide) (fun c1 => ?_) (fun c1 => ?_)
  · have hf := tk_f c1 hf
    refine lv_iload_n hx hb dX7_searchAll_88 rfl (lv_at hl 0 rfl) ?_
    refine lv_iconst (v := 1) hx hb dX7_searchAll_89 (by decide) ?_
    refine lv_icmp_ne (tgt := 98) hx hb dX7_searchAll_90 (by decide) (fun c2 => ?_) (fun c2 => ?_)
    · have hf := tk_f c2 hf
      refine lv_iload hx hb dX7_searchAll_98 (lv_at hl 3 rfl) ?_
      obtain rfl := so_ok hf
      exact x_iret C h dX7_searchAll_100
    · have hf := tk_t c2 hf
      refine lv_iload hx hb dX7_searchAll_93 (lv_at hl 2 rfl) ?_
      refine lv_goto (tgt := 100) hx hb dX7_searchAll_95 (by decide) ?_
      obtain rfl := so_ok hf
      exact x_iret C h dX7_searchAll_100
  · have hf := tk_t c1 hf
    refine lv_iload hx hb dX7_searchAll_83 (lv_at hl 1 rfl) ?_
    refine lv_goto (tgt := 100) hx hb dX7_searchAll_85 (by decide) ?_
    obtain rfl := so_ok hf
    exact x_iret C h dX7_searchAll_100
def fX7_searchAll_13 (σ : Sg) (x1 : Int32) (x2 : Int32) (x3 : Int32) : Nat → Int32 → Int32 → Int32 → Int32 → Option (Int32)
  | 0, _, _, _, _ => none
  | n + 1, x4, x5, x6, x7 => (if x2 ≤ x7 then fX7_searchAll_79 σ x3 x4 x6 x7 else (if x6 = (-9) then (if gIn (x1 + x7) 240 then ((fX7_isAlike (σ 3 ((x1 + x7).toNatClampNeg)) σ).bind fun r7 => (if r7 = 0 then fX7_searchAll_13 σ x1 x2 x3 n (x4 + ((fX7_apart x5 (σ 3 ((x1 + x7).toNatClampNeg)) σ) + 1)) (σ 3 ((x1 + x7).toNatClampNeg)) (-9) (x7 + 1) else fX7_searchAll_13 σ x1 x2 x3 n (x4 + ((fX7_apart x5 (σ 3 ((x1 + x7).toNatClampNeg)) σ) + 1)) (σ 3 ((x1 + x7).toNatClampNeg)) (σ 3 ((x1 + x7).toNatClampNeg)) (x7 + 1))) else none) else fX7_searchAll_79 σ x3 x4 x6 x7))
set_option maxHeartbeats 4000000 in
set_option maxRecDepth 100000 in
theorem jX7_searchAll_13 {p : Program} {l : Launch} {e : Env} {s : State} {m : MethodId} {args : Array Value} {below : List Frame} {meth : Method} {c : Code} {D : va_G} {κ : Kp} {ad : Nat → Nat} {A : Nat → Prop} {r : Int32} (C : Mc p s m args meth c cX7_searchAll 9 (some .int) wsX7_searchAll RX7 D κ A) (σ : Sg) (x1 : Int32) (x2 : Int32) (x3 : Int32) : ∀ (n : Nat) (x4 : Int32) (x5 : Int32) (x6 : Int32) (x7 : Int32) (H : Heap) (locs : List Loc) (ls : Array Slot), Wd D (wsM κ ad) A s.heap H locs σ → lv_has ls 9 [(0, .ref (ad 0)), (1, .int x1), (2, .int x2), (3, .int x3), (4, .int x4), (5, .int x5), (6, .int x6), (7, .int x7)] → fX7_searchAll_13 σ x1 x2 x3 n x4 x5 x6 x7 = some r → W p l e { frames := 4, cells := 0, slots := 0, locals := 87 } s m args below meth c H locs 0 0 (Qi below args s D (wsM κ ad) A r σ) (F0 m 13 ls []) := by
  obtain ⟨hx, hb, hml, hr, hlk, hown, hts, hK, hA, hZ⟩ := id C
  intro n
  induction n with
  | zero =>
    intro x4 x5 x6 x7 H locs ls h hl hf
    rw [fX7_searchAll_13] at hf
    cases hf
  | succ n ih =>
    intro x4 x5 x6 x7 H locs ls h hl hf
    rw [fX7_searchAll_13] at hf
    refine lv_iload hx hb dX7_searchAll_13 (lv_at hl 7 rfl) ?_
    refine lv_iload_n hx hb dX7_searchAll_15 rfl (lv_at hl 2 rfl) ?_
    refine lv_icmp_ge (tgt := 79) hx hb dX7_searchAll_16 (by decide) (fun c3 => ?_) (fun c3 => ?_)
    · have hf := tk_t c3 hf
      exact jX7_searchAll_79 C σ x3 x4 x6 x7 _ _ _ h (lv_sub hl [3, 4, 6, 7] rfl) hf
    · have hf := tk_f c3 hf
      refine lv_iload hx hb dX7_searchAll_19 (lv_at hl 6 rfl) ?_
      refine lv_bipush (v := (-9)) hx hb dX7_searchAll_21 (by decide) ?_
      refine lv_icmp_ne (tgt := 79) hx hb dX7_searchAll_23 (by decide) (fun c4 => ?_) (fun c4 => ?_)
      · have hf := tk_f c4 hf
        exact jX7_searchAll_79 C σ x3 x4 x6 x7 _ _ _ h (lv_sub hl [3, 4, 6, 7] rfl) hf
      · have hf := tk_t c4 hf
        refine lv_aload_n hx hb dX7_searchAll_26 rfl (lv_at hl 0 rfl) ?_
        refine x_get (v := .ref (ad 3)) C h (gM_Mo κ ad σ) rfl inX7_searchAll_X7 4 (by decide) (hts _ lkX7_searchAll_16) rfl dX7_searchAll_27 ?_
        refine lv_iload_n hx hb dX7_searchAll_30 rfl (lv_at hl 1 rfl) ?_
        refine lv_iload hx hb dX7_searchAll_31 (lv_at hl 7 rfl) ?_
        refine lv_iadd hx hb dX7_searchAll_33 ?_
        obtain ⟨g5, hf⟩ := gd_ok hf
        refine x_iald (v := (σ 3 ((x1 + x7).toNatClampNeg))) C h (gM_m_cells κ ad σ) g5 rfl dX7_searchAll_34 ?_
        refine lv_istore (lv' := [(8, .int (σ 3 ((x1 + x7).toNatClampNeg))), (0, .ref (ad 0)), (1, .int x1), (2, .int x2), (3, .int x3), (4, .int x4), (5, .int x5), (6, .int x6), (7, .int x7)]) hx hb dX7_searchAll_35 hl (by decide) rfl (fun ls hl => ?_)
        refine lv_iload hx hb dX7_searchAll_37 (lv_at hl 5 rfl) ?_
        refine lv_iload hx hb dX7_searchAll_39 (lv_at hl 6 rfl) ?_
        refine lv_iload hx hb dX7_searchAll_41 (lv_at hl 0 rfl) ?_
        refine x_si (As := [.int x5, .int (σ 3 ((x1 + x7).toNatClampNeg))]) (rest := [.int x4]) C h (kX7_apart l D κ ad x5 (σ 3 ((x1 + x7).toNatClampNeg)) σ (r := (fX7_apart x5 (σ 3 ((x1 + x7).toNatClampNeg)) σ)) rfl) (fun hts => va_cwS 2 hts gX7_searchAll_X7_apart rfl rfl rfl (by decide +kernel) ⟨Nat.le_of_ble_eq_true rfl, Nat.le_of_ble_eq_true rfl⟩) rfl hl.1 (Nat.le_of_ble_eq_true rfl) rfl dX7_searchAll_43 (fun H locs h => ?_)
        refine lv_iconst (v := 1) hx hb dX7_searchAll_46 (by decide) ?_
        refine lv_iadd hx hb dX7_searchAll_47 ?_
        refine lv_iadd hx hb dX7_searchAll_48 ?_
        refine lv_istore (lv' := [(4, .int (x4 + ((fX7_apart x5 (σ 3 ((x1 + x7).toNatClampNeg)) σ) + 1))), (8, .int (σ 3 ((x1 + x7).toNatClampNeg))), (0, .ref (ad 0)), (1, .int x1), (2, .int x2), (3, .int x3), (5, .int x5), (6, .int x6), (7, .int x7)]) hx hb dX7_searchAll_49 hl (by decide) rfl (fun ls hl => ?_)
        refine lv_iload hx hb dX7_searchAll_51 (lv_at hl 1 rfl) ?_
        refine lv_istore (lv' := [(5, .int (σ 3 ((x1 + x7).toNatClampNeg))), (4, .int (x4 + ((fX7_apart x5 (σ 3 ((x1 + x7).toNatClampNeg)) σ) + 1))), (8, .int (σ 3 ((x1 + x7).toNatClampNeg))), (0, .ref (ad 0)), (1, .int x1), (2, .int x2), (3, .int x3), (6, .int x6), (7, .int x7)]) hx hb dX7_searchAll_53 hl (by decide) rfl (fun ls hl => ?_)
        refine lv_iinc (v := (x7 + 1)) (lv' := [(7, .int (x7 + 1)), (5, .int (σ 3 ((x1 + x7).toNatClampNeg))), (4, .int (x4 + ((fX7_apart x5 (σ 3 ((x1 + x7).toNatClampNeg)) σ) + 1))), (8, .int (σ 3 ((x1 + x7).toNatClampNeg))), (0, .ref (ad 0)), (1, .int x1), (2, .int x2), (3, .int x3), (6, .int x6)]) hx hb dX7_searchAll_55 hl (k := 8) rfl rfl (by decide) rfl (fun ls hl => ?_)
        refine lv_aload_n hx hb dX7_searchAll_58 rfl (lv_at hl 4 rfl) ?_
        refine lv_iload hx hb dX7_searchAll_59 (lv_at hl 3 rfl) ?_
        obtain ⟨r7, hg6, hf⟩ := bd_ok hf
        refine x_vi (As := [.int (σ 3 ((x1 + x7).toNatClampNeg))]) (rest := []) C h (gM_Mo κ ad σ) rfl (kX7_isAlike l D κ ad (σ 3 ((x1 + x7).toNatClampNeg)) σ (r := r7) hg6) (fun hts => cwV 1 hts gX7_searchAll_X7_isAlike rfl rfl rfl (by decide +kernel) ⟨Nat.le_of_ble_eq_true rfl, Nat.le_of_ble_eq_true rfl⟩) rfl hl.1 (Nat.le_of_ble_eq_true rfl) rfl dX7_searchAll_61 (fun H locs h => ?_)
        refine lv_if_eq (tgt := 72) hx hb dX7_searchAll_64 (by decide) (fun c8 => ?_) (fun c8 => ?_)
        · have hf := tk_t c8 hf
          refine lv_bipush (v := (-9)) hx hb dX7_searchAll_72 (by decide) ?_
          refine lv_istore (lv' := [(6, .int (-9)), (7, .int (x7 + 1)), (5, .int (σ 3 ((x1 + x7).toNatClampNeg))), (4, .int (x4 + ((fX7_apart x5 (σ 3 ((x1 + x7).toNatClampNeg)) σ) + 1))), (8, .int (σ 3 ((x1 + x7).toNatClampNeg))), (0, .ref (ad 0)), (1, .int x1), (2, .int x2), (3, .int x3)]) hx hb dX7_searchAll_74 hl (by decide) rfl (fun ls hl => ?_)
          refine lv_goto (tgt := 13) hx hb dX7_searchAll_76 (by decide) ?_
          exact ih (x4 + ((fX7_apart x5 (σ 3 ((x1 + x7).toNatClampNeg)) σ) + 1)) (σ 3 ((x1 + x7).toNatClampNeg)) (-9) (x7 + 1) _ _ _ h (lv_sub hl [5, 6, 7, 8, 3, 2, 0, 1] rfl) hf
        · have hf := tk_f c8 hf
          refine lv_iload hx hb dX7_searchAll_67 (lv_at hl 3 rfl) ?_
          refine lv_goto (tgt := 74) hx hb dX7_searchAll_69 (by decide) ?_
          refine lv_istore (lv' := [(6, .int (σ 3 ((x1 + x7).toNatClampNeg))), (7, .int (x7 + 1)), (5, .int (σ 3 ((x1 + x7).toNatClampNeg))), (4, .int (x4 + ((fX7_apart x5 (σ 3 ((x1 + x7).toNatClampNeg)) σ) + 1))), (8, .int (σ 3 ((x1 + x7).toNatClampNeg))), (0, .ref (ad 0)), (1, .int x1), (2, .int x2), (3, .int x3)]) hx hb dX7_searchAll_74 hl (by decide) rfl (fun ls hl => ?_)
          refine lv_goto (tgt := 13) hx hb dX7_searchAll_76 (by decide) ?_
          exact ih (x4 + ((fX7_apart x5 (σ 3 ((x1 + x7).toNatClampNeg)) σ) + 1)) (σ 3 ((x1 + x7).toNatClampNeg)) (σ 3 ((x1 + x7).toNatClampNeg)) (x7 + 1) _ _ _ h (lv_sub hl [5, 6, 7, 8, 3, 2, 0, 1] rfl) hf
def fX7_searchAll (x1 : Int32) (x2 : Int32) (x3 : Int32) (σ : Sg) : Option (Int32) :=
  fX7_searchAll_13 σ x1 x2 x3 1000 0 0 (-9) 0
set_option maxHeartbeats 4000000 in
set_option maxRecDepth 100000 in
theorem kX7_searchAll (l : Launch) (D : va_G) (κ : Kp) (ad : Nat → Nat) (x1 : Int32) (x2 : Int32) (x3 : Int32) (σ : Sg) {r : Int32} (hf : fX7_searchAll x1 x2 x3 σ = some r) : Ci l D κ (wsM κ ad) yX7_searchAll wsX7_searchAll 4 87 [.ref (ad 0), .int x1, .int x2, .int x3] σ r σ := by
  refine Ci.of (cc := cX7_searchAll) (nL := 9) (ret := (some .int)) (by decide) rfl (Nat.le_of_ble_eq_true rfl) ?_
  intro p e s m below meth c A ls C h hl
  obtain ⟨hx, hb, hml, hr, hlk, hown, hts, hK, hA, hZ⟩ := id C
  have hl : lv_has ls 9 [(0, .ref (ad 0)), (1, .int x1), (2, .int x2), (3, .int x3)] := hl
  unfold fX7_searchAll at hf
  refine lv_iconst (v := 0) hx hb dX7_searchAll_0 (by decide) ?_
  refine lv_istore (lv' := [(4, .int 0), (0, .ref (ad 0)), (1, .int x1), (2, .int x2), (3, .int x3)]) hx hb dX7_searchAll_1 hl (by decide) rfl (fun ls hl => ?_)
  refine lv_iconst (v := 0) hx hb dX7_searchAll_3 (by decide) ?_
  refine lv_istore (lv' := [(5, .int 0), (4, .int 0), (0, .ref (ad 0)), (1, .int x1), (2, .int x2), (3, .int x3)]) hx hb dX7_searchAll_4 hl (by decide) rfl (fun ls hl => ?_)
  refine lv_bipush (v := (-9)) hx hb dX7_searchAll_6 (by decide) ?_
  refine lv_istore (lv' := [(6, .int (-9)), (5, .int 0), (4, .int 0), (0, .ref (ad 0)), (1, .int x1), (2, .int x2), (3, .int x3)]) hx hb dX7_searchAll_8 hl (by decide) rfl (fun ls hl => ?_)
  refine lv_iconst (v := 0) hx hb dX7_searchAll_10 (by decide) ?_
  refine lv_istore (lv' := [(7, .int 0), (6, .int (-9)), (5, .int 0), (4, .int 0), (0, .ref (ad 0)), (1, .int x1), (2, .int x2), (3, .int x3)]) hx hb dX7_searchAll_11 hl (by decide) rfl (fun ls hl => ?_)
  exact jX7_searchAll_13 C σ x1 x2 x3 1000 0 0 (-9) 0 _ _ _ h (lv_sub hl [4, 5, 6, 7, 3, 2, 1, 0] rfl) hf

-- ===== X7_search: ButtonMatchModel.search(IIIII)I
theorem lkX7_search_16 : Cond.fieldLink RX7 16 "ButtonMatchModel" "cells" "[I" ∈ wsX7_search := by decide +kernel
theorem inX7_search_X7 : ∀ w ∈ wsX70, w ∈ wsX7_search := fun _ h => List.mem_cons_of_mem _ (List.mem_append_right _ h)
theorem lkX7_search_62 : Cond.fieldLink RX7 62 "ButtonMatchModel" "fault" "I" ∈ wsX7_search := by decide +kernel
theorem lkX7_search_72 : Cond.fieldLink RX7 72 "ButtonMatchModel" "tubes" "I" ∈ wsX7_search := by decide +kernel
def fX7_search_89 (x4 : Int32) (x5 : Int32) (x7 : Int32) : Nat → Int32 → Sg → Option (Int32 × Sg)
  | 0, _, _ => none
  | n + 1, x8, σ => (if x4 ≤ x8 then ((fX7_searchAll x7 x4 x5 σ).bind fun r3 => some (r3, σ)) else (if gIn (x7 + x8) 240 then (if (fX7_isTube (σ 3 ((x7 + x8).toNatClampNeg)) σ) = 0 then some ((-1), σ) else fX7_search_89 x4 x5 x7 n (x8 + 1) σ) else none))
set_option maxHeartbeats 4000000 in
set_option maxRecDepth 100000 in
theorem jX7_search_89 {p : Program} {l : Launch} {e : Env} {s : State} {m : MethodId} {args : Array Value} {below : List Frame} {meth : Method} {c : Code} {D : va_G} {κ : Kp} {ad : Nat → Nat} {A : Nat → Prop} {r : Int32} {τ : Sg} (C : Mc p s m args meth c cX7_search 9 (some .int) wsX7_search RX7 D κ A) (x4 : Int32) (x5 : Int32) (x7 : Int32) : ∀ (n : Nat) (x8 : Int32) (σ : Sg) (H : Heap) (locs : List Loc) (ls : Array Slot), Wd D (wsM κ ad) A s.heap H locs σ → lv_has ls 9 [(0, .ref (ad 0)), (4, .int x4), (5, .int x5), (7, .int x7), (8, .int x8)] → fX7_search_89 x4 x5 x7 n x8 σ = some (r, τ) → W p l e { frames := 5, cells := 0, slots := 0, locals := 115 } s m args below meth c H locs 0 0 (Qi below args s D (wsM κ ad) A r τ) (F0 m 89 ls []) := by
  obtain ⟨hx, hb, hml, hr, hlk, hown, hts, hK, hA, hZ⟩ := id C
  intro n
  induction n with
  | zero =>
    intro x8 σ H locs ls h hl hf
    rw [fX7_search_89] at hf
    cases hf
  | succ n ih =>
    intro x8 σ H locs ls h hl hf
    rw [fX7_search_89] at hf
    refine lv_iload hx hb dX7_search_89 (lv_at hl 4 rfl) ?_
    refine lv_iload hx hb dX7_search_91 (lv_at hl 1 rfl) ?_
    refine lv_icmp_ge (tgt := 121) hx hb dX7_search_93 (by decide) (fun c1 => ?_) (fun c1 => ?_)
    · have hf := tk_t c1 hf
      refine lv_aload_n hx hb dX7_search_121 rfl (lv_at hl 0 rfl) ?_
      refine lv_iload hx hb dX7_search_122 (lv_at hl 3 rfl) ?_
      refine lv_iload hx hb dX7_search_124 (lv_at hl 1 rfl) ?_
      refine lv_iload hx hb dX7_search_126 (lv_at hl 2 rfl) ?_
      obtain ⟨r3, hg2, hf⟩ := bd_ok hf
      refine x_vi (As := [.int x7, .int x4, .int x5]) (rest := []) C h (gM_Mo κ ad σ) rfl (kX7_searchAll l D κ ad x7 x4 x5 σ (r := r3) hg2) (fun hts => cwV 3 hts gX7_search_X7_searchAll rfl rfl rfl (by decide +kernel) ⟨Nat.le_of_ble_eq_true rfl, Nat.le_of_ble_eq_true rfl⟩) rfl hl.1 (Nat.le_of_ble_eq_true rfl) rfl dX7_search_128 (fun H locs h => ?_)
      obtain ⟨rfl, rfl⟩ := pr_ok hf
      exact x_iret C h dX7_search_131
    · have hf := tk_f c1 hf
      refine lv_aload_n hx hb dX7_search_96 rfl (lv_at hl 0 rfl) ?_
      refine lv_aload_n hx hb dX7_search_97 rfl (lv_at hl 0 rfl) ?_
      refine x_get (v := .ref (ad 3)) C h (gM_Mo κ ad σ) rfl inX7_search_X7 4 (by decide) (hts _ lkX7_search_16) rfl dX7_search_98 ?_
      refine lv_iload hx hb dX7_search_101 (lv_at hl 3 rfl) ?_
      refine lv_iload hx hb dX7_search_103 (lv_at hl 4 rfl) ?_
      refine lv_iadd hx hb dX7_search_105 ?_
      obtain ⟨g4, hf⟩ := gd_ok hf
      refine x_iald (v := (σ 3 ((x7 + x8).toNatClampNeg))) C h (gM_m_cells κ ad σ) g4 rfl dX7_search_106 ?_
      refine x_vi (As := [.int (σ 3 ((x7 + x8).toNatClampNeg))]) (rest := []) C h (gM_Mo κ ad σ) rfl (kX7_isTube l D κ ad (σ 3 ((x7 + x8).toNatClampNeg)) σ (r := (fX7_isTube (σ 3 ((x7 + x8).toNatClampNeg)) σ)) rfl) (fun hts => cwV 1 hts gX7_search_X7_isTube rfl rfl rfl (by decide +kernel) ⟨Nat.le_of_ble_eq_true rfl, Nat.le_of_ble_eq_true rfl⟩) rfl hl.1 (Nat.le_of_ble_eq_true rfl) rfl dX7_search_107 (fun H locs h => ?_)
      refine lv_if_ne (tgt := 115) hx hb dX7_search_110 (by decide) (fun c5 => ?_) (fun c5 => ?_)
      · have hf := tk_f c5 hf
        refine lv_iinc (v := (x8 + 1)) (lv' := [(8, .int (x8 + 1)), (0, .ref (ad 0)), (4, .int x4), (5, .int x5), (7, .int x7)]) hx hb dX7_search_115 hl (k := 4) rfl rfl (by decide) rfl (fun ls hl => ?_)
        refine lv_goto (tgt := 89) hx hb dX7_search_118 (by decide) ?_
        exact ih (x8 + 1) σ _ _ _ h (lv_sub hl [1, 2, 3, 4, 0] rfl) hf
      · have hf := tk_t c5 hf
        refine lv_iconst (v := (-1)) hx hb dX7_search_113 (by decide) ?_
        obtain ⟨rfl, rfl⟩ := pr_ok hf
        exact x_iret C h dX7_search_114
def fX7_search (x1 : Int32) (x2 : Int32) (x3 : Int32) (x4 : Int32) (x5 : Int32) (σ : Sg) : Option (Int32 × Sg) :=
  (if (fX7_isSheet x1 (up2 σ 0 0 0)) = 0 then some ((-1), (up2 σ 0 0 0)) else (if (fX7_isSort x2 (up2 σ 0 0 0)) = 0 then some ((-2), (up2 σ 0 0 0)) else (if (fX7_within x4 0 20 (up2 σ 0 0 0)) = 0 then some ((-2), (up2 σ 0 0 0)) else (if (fX7_within x5 0 2 (up2 σ 0 0 0)) = 0 then some ((-2), (up2 σ 0 0 0)) else ((fX7_against x1 x2 x3 x4 (up2 σ 0 0 0)).bind fun r11 => (if r11 = 0 then (if (σ 0 10) = 0 then some ((-3), (up2 σ 0 0 0)) else fX7_search_89 x4 x5 ((60 * x1) + x3) 1000 0 (up2 σ 0 0 0)) else some ((fX7_fails r11 (up2 σ 0 0 0)).1, (fX7_fails r11 (up2 σ 0 0 0)).2)))))))
set_option maxHeartbeats 4000000 in
set_option maxRecDepth 100000 in
theorem kX7_search (l : Launch) (D : va_G) (κ : Kp) (ad : Nat → Nat) (x1 : Int32) (x2 : Int32) (x3 : Int32) (x4 : Int32) (x5 : Int32) (σ : Sg) {r : Int32} {τ : Sg} (hf : fX7_search x1 x2 x3 x4 x5 σ = some (r, τ)) : Ci l D κ (wsM κ ad) yX7_search wsX7_search 5 115 [.ref (ad 0), .int x1, .int x2, .int x3, .int x4, .int x5] σ r τ := by
  refine Ci.of (cc := cX7_search) (nL := 9) (ret := (some .int)) (by decide) rfl (Nat.le_of_ble_eq_true rfl) ?_
  intro p e s m below meth c A ls C h hl
  obtain ⟨hx, hb, hml, hr, hlk, hown, hts, hK, hA, hZ⟩ := id C
  have hl : lv_has ls 9 [(0, .ref (ad 0)), (1, .int x1), (2, .int x2), (3, .int x3), (4, .int x4), (5, .int x5)] := hl
  unfold fX7_search at hf
  refine lv_aload_n hx hb dX7_search_0 rfl (lv_at hl 0 rfl) ?_
  refine lv_iconst (v := 0) hx hb dX7_search_1 (by decide) ?_
  refine x_put C h (gM_Mo κ ad σ) rfl inX7_search_X7 tyX7 tyX7_ok nmX7 0 (by decide) (hts _ lkX7_search_62) rfl (tyX7_ok 0 (by decide)) (Nat.le_of_ble_eq_true rfl) (sM_Mo_0 κ ad σ 0) dX7_search_2 (fun H locs h => ?_)
  refine lv_iload_n hx hb dX7_search_5 rfl (lv_at hl 1 rfl) ?_
  refine x_si (As := [.int x1]) (rest := []) C h (kX7_isSheet l D κ ad x1 (up2 σ 0 0 0) (r := (fX7_isSheet x1 (up2 σ 0 0 0))) rfl) (fun hts => va_cwS 1 hts gX7_search_X7_isSheet rfl rfl rfl (by decide +kernel) ⟨Nat.le_of_ble_eq_true rfl, Nat.le_of_ble_eq_true rfl⟩) rfl hl.1 (Nat.le_of_ble_eq_true rfl) rfl dX7_search_6 (fun H locs h => ?_)
  refine lv_if_ne (tgt := 14) hx hb dX7_search_9 (by decide) (fun c6 => ?_) (fun c6 => ?_)
  · have hf := tk_f c6 hf
    refine lv_iload_n hx hb dX7_search_14 rfl (lv_at hl 2 rfl) ?_
    refine x_si (As := [.int x2]) (rest := []) C h (kX7_isSort l D κ ad x2 (up2 σ 0 0 0) (r := (fX7_isSort x2 (up2 σ 0 0 0))) rfl) (fun hts => va_cwS 1 hts gX7_search_X7_isSort rfl rfl rfl (by decide +kernel) ⟨Nat.le_of_ble_eq_true rfl, Nat.le_of_ble_eq_true rfl⟩) rfl hl.1 (Nat.le_of_ble_eq_true rfl) rfl dX7_search_15 (fun H locs h => ?_)
    refine lv_if_eq (tgt := 42) hx hb dX7_search_18 (by decide) (fun c7 => ?_) (fun c7 => ?_)
    · have hf := tk_t c7 hf
      refine lv_bipush (v := (-2)) hx hb dX7_search_42 (by decide) ?_
      obtain ⟨rfl, rfl⟩ := pr_ok hf
      exact x_iret C h dX7_search_44
    · have hf := tk_f c7 hf
      refine lv_iload hx hb dX7_search_21 (lv_at hl 4 rfl) ?_
      refine lv_iconst (v := 0) hx hb dX7_search_23 (by decide) ?_
      refine lv_bipush (v := 20) hx hb dX7_search_24 (by decide) ?_
      refine x_si (As := [.int x4, .int 0, .int 20]) (rest := []) C h (kX7_within l D κ ad x4 0 20 (up2 σ 0 0 0) (r := (fX7_within x4 0 20 (up2 σ 0 0 0))) rfl) (fun hts => va_cwS 3 hts gX7_search_X7_within rfl rfl rfl (by decide +kernel) ⟨Nat.le_of_ble_eq_true rfl, Nat.le_of_ble_eq_true rfl⟩) rfl hl.1 (Nat.le_of_ble_eq_true rfl) rfl dX7_search_26 (fun H locs h => ?_)
      refine lv_if_eq (tgt := 42) hx hb dX7_search_29 (by decide) (fun c8 => ?_) (fun c8 => ?_)
      · have hf := tk_t c8 hf
        refine lv_bipush (v := (-2)) hx hb dX7_search_42 (by decide) ?_
        obtain ⟨rfl, rfl⟩ := pr_ok hf
        exact x_iret C h dX7_search_44
      · have hf := tk_f c8 hf
        refine lv_iload hx hb dX7_search_32 (lv_at hl 5 rfl) ?_
        refine lv_iconst (v := 0) hx hb dX7_search_34 (by decide) ?_
        refine lv_iconst (v := 2) hx hb dX7_search_35 (by decide) ?_
        refine x_si (As := [.int x5, .int 0, .int 2]) (rest := []) C h (kX7_within l D κ ad x5 0 2 (up2 σ 0 0 0) (r := (fX7_within x5 0 2 (up2 σ 0 0 0))) rfl) (fun hts => va_cwS 3 hts gX7_search_X7_within rfl rfl rfl (by decide +kernel) ⟨Nat.le_of_ble_eq_true rfl, Nat.le_of_ble_eq_true rfl⟩) rfl hl.1 (Nat.le_of_ble_eq_true rfl) rfl dX7_search_36 (fun H locs h => ?_)
        refine lv_if_ne (tgt := 45) hx hb dX7_search_39 (by decide) (fun c9 => ?_) (fun c9 => ?_)
        · have hf := tk_f c9 hf
          refine lv_aload_n hx hb dX7_search_45 rfl (lv_at hl 0 rfl) ?_
          refine lv_iload_n hx hb dX7_search_46 rfl (lv_at hl 1 rfl) ?_
          refine lv_iload_n hx hb dX7_search_47 rfl (lv_at hl 2 rfl) ?_
          refine lv_iload_n hx hb dX7_search_48 rfl (lv_at hl 3 rfl) ?_
          refine lv_iload hx hb dX7_search_49 (lv_at hl 4 rfl) ?_
          obtain ⟨r11, hg10, hf⟩ := bd_ok hf
          refine x_vi (As := [.int x1, .int x2, .int x3, .int x4]) (rest := []) C h (gM_Mo κ ad (up2 σ 0 0 0)) rfl (kX7_against l D κ ad x1 x2 x3 x4 (up2 σ 0 0 0) (r := r11) hg10) (fun hts => cwV 4 hts gX7_search_X7_against rfl rfl rfl (by decide +kernel) ⟨Nat.le_of_ble_eq_true rfl, Nat.le_of_ble_eq_true rfl⟩) rfl hl.1 (Nat.le_of_ble_eq_true rfl) rfl dX7_search_51 (fun H locs h => ?_)
          refine lv_istore (lv' := [(6, .int r11), (0, .ref (ad 0)), (1, .int x1), (2, .int x2), (3, .int x3), (4, .int x4), (5, .int x5)]) hx hb dX7_search_54 hl (by decide) rfl (fun ls hl => ?_)
          refine lv_iload hx hb dX7_search_56 (lv_at hl 0 rfl) ?_
          refine lv_if_eq (tgt := 68) hx hb dX7_search_58 (by decide) (fun c12 => ?_) (fun c12 => ?_)
          · have hf := tk_t c12 hf
            refine lv_aload_n hx hb dX7_search_68 rfl (lv_at hl 1 rfl) ?_
            refine x_get (v := .int (σ 0 10)) C h (gM_Mo κ ad (up2 σ 0 0 0)) rfl inX7_search_X7 10 (by decide) (hts _ lkX7_search_72) rfl dX7_search_69 ?_
            refine lv_if_ne (tgt := 78) hx hb dX7_search_72 (by decide) (fun c13 => ?_) (fun c13 => ?_)
            · have hf := tk_f c13 hf
              refine lv_bipush (v := 60) hx hb dX7_search_78 (by decide) ?_
              refine lv_iload_n hx hb dX7_search_80 rfl (lv_at hl 2 rfl) ?_
              refine lv_imul hx hb dX7_search_81 ?_
              refine lv_iload_n hx hb dX7_search_82 rfl (lv_at hl 4 rfl) ?_
              refine lv_iadd hx hb dX7_search_83 ?_
              refine lv_istore (lv' := [(7, .int ((60 * x1) + x3)), (6, .int r11), (0, .ref (ad 0)), (1, .int x1), (2, .int x2), (3, .int x3), (4, .int x4), (5, .int x5)]) hx hb dX7_search_84 hl (by decide) rfl (fun ls hl => ?_)
              refine lv_iconst (v := 0) hx hb dX7_search_86 (by decide) ?_
              refine lv_istore (lv' := [(8, .int 0), (7, .int ((60 * x1) + x3)), (6, .int r11), (0, .ref (ad 0)), (1, .int x1), (2, .int x2), (3, .int x3), (4, .int x4), (5, .int x5)]) hx hb dX7_search_87 hl (by decide) rfl (fun ls hl => ?_)
              exact jX7_search_89 C x4 x5 ((60 * x1) + x3) 1000 0 (up2 σ 0 0 0) _ _ _ h (lv_sub hl [3, 7, 8, 1, 0] rfl) hf
            · have hf := tk_t c13 hf
              refine lv_bipush (v := (-3)) hx hb dX7_search_75 (by decide) ?_
              obtain ⟨rfl, rfl⟩ := pr_ok hf
              exact x_iret C h dX7_search_77
          · have hf := tk_f c12 hf
            refine lv_aload_n hx hb dX7_search_61 rfl (lv_at hl 1 rfl) ?_
            refine lv_iload hx hb dX7_search_62 (lv_at hl 0 rfl) ?_
            refine x_vi (As := [.int r11]) (rest := []) C h (gM_Mo κ ad (up2 σ 0 0 0)) rfl (kX7_fails l D κ ad r11 (up2 σ 0 0 0) (r := (fX7_fails r11 (up2 σ 0 0 0)).1) (τ := (fX7_fails r11 (up2 σ 0 0 0)).2) rfl) (fun hts => cwV 1 hts gX7_search_X7_fails rfl rfl rfl (by decide +kernel) ⟨Nat.le_of_ble_eq_true rfl, Nat.le_of_ble_eq_true rfl⟩) rfl hl.1 (Nat.le_of_ble_eq_true rfl) rfl dX7_search_64 (fun H locs h => ?_)
            obtain ⟨rfl, rfl⟩ := pr_ok hf
            exact x_iret C h dX7_search_67
        · have hf := tk_t c9 hf
          refine lv_bipush (v := (-2)) hx hb dX7_search_42 (by decide) ?_
          obtain ⟨rfl, rfl⟩ := pr_ok hf
          exact x_iret C h dX7_search_44
  · have hf := tk_t c6 hf
    refine lv_iconst (v := (-1)) hx hb dX7_search_12 (by decide) ?_
    obtain ⟨rfl, rfl⟩ := pr_ok hf
    exact x_iret C h dX7_search_13

-- ===== X7_bits: ButtonMatchModel.bits(I)I
def fX7_bits_4 (σ : Sg) : Nat → Int32 → Int32 → Option (Int32)
  | 0, _, _ => none
  | n + 1, x1, x2 => (if x2 ≤ 0 then some x1 else fX7_bits_4 σ n (x1 + (x2 &&& 1)) (x2 >>> (1 &&& 31)))
set_option maxHeartbeats 4000000 in
set_option maxRecDepth 100000 in
theorem jX7_bits_4 {p : Program} {l : Launch} {e : Env} {s : State} {m : MethodId} {args : Array Value} {below : List Frame} {meth : Method} {c : Code} {D : va_G} {κ : Kp} {ad : Nat → Nat} {A : Nat → Prop} {r : Int32} (C : Mc p s m args meth c cX7_bits 3 (some .int) wsX7_bits RX7 D κ A) (σ : Sg) : ∀ (n : Nat) (x1 : Int32) (x2 : Int32) (H : Heap) (locs : List Loc) (ls : Array Slot), Wd D (wsM κ ad) A s.heap H locs σ → lv_has ls 3 [(1, .int x1), (2, .int x2)] → fX7_bits_4 σ n x1 x2 = some r → W p l e { frames := 0, cells := 0, slots := 0, locals := 0 } s m args below meth c H locs 0 0 (Qi below args s D (wsM κ ad) A r σ) (F0 m 4 ls []) := by
  obtain ⟨hx, hb, hml, hr, hlk, hown, hts, hK, hA, hZ⟩ := id C
  intro n
  induction n with
  | zero =>
    intro x1 x2 H locs ls h hl hf
    rw [fX7_bits_4] at hf
    cases hf
  | succ n ih =>
    intro x1 x2 H locs ls h hl hf
    rw [fX7_bits_4] at hf
    refine lv_iload_n hx hb dX7_bits_4 rfl (lv_at hl 1 rfl) ?_
    refine lv_if_le (tgt := 21) hx hb dX7_bits_5 (by decide) (fun c1 => ?_) (fun c1 => ?_)
    · have hf := tk_t c1 hf
      refine lv_iload_n hx hb dX7_bits_21 rfl (lv_at hl 0 rfl) ?_
      obtain rfl := so_ok hf
      exact x_iret C h dX7_bits_22
    · have hf := tk_f c1 hf
      refine lv_iload_n hx hb dX7_bits_8 rfl (lv_at hl 0 rfl) ?_
      refine lv_iload_n hx hb dX7_bits_9 rfl (lv_at hl 1 rfl) ?_
      refine lv_iconst (v := 1) hx hb dX7_bits_10 (by decide) ?_
      refine lv_iand hx hb dX7_bits_11 ?_
      refine lv_iadd hx hb dX7_bits_12 ?_
      refine lv_istore_n (lv' := [(1, .int (x1 + (x2 &&& 1))), (2, .int x2)]) hx hb dX7_bits_13 rfl hl (by decide) rfl (fun ls hl => ?_)
      refine lv_iload_n hx hb dX7_bits_14 rfl (lv_at hl 1 rfl) ?_
      refine lv_iconst (v := 1) hx hb dX7_bits_15 (by decide) ?_
      refine lv_ishr hx hb dX7_bits_16 ?_
      refine lv_istore_n (lv' := [(2, .int (x2 >>> (1 &&& 31))), (1, .int (x1 + (x2 &&& 1)))]) hx hb dX7_bits_17 rfl hl (by decide) rfl (fun ls hl => ?_)
      refine lv_goto (tgt := 4) hx hb dX7_bits_18 (by decide) ?_
      exact ih (x1 + (x2 &&& 1)) (x2 >>> (1 &&& 31)) _ _ _ h (lv_sub hl [1, 0] rfl) hf
def fX7_bits (x0 : Int32) (σ : Sg) : Option (Int32) :=
  fX7_bits_4 σ 1000 0 x0
set_option maxHeartbeats 4000000 in
set_option maxRecDepth 100000 in
theorem kX7_bits (l : Launch) (D : va_G) (κ : Kp) (ad : Nat → Nat) (x0 : Int32) (σ : Sg) {r : Int32} (hf : fX7_bits x0 σ = some r) : Ci l D κ (wsM κ ad) yX7_bits wsX7_bits 0 0 [.int x0] σ r σ := by
  refine Ci.of (cc := cX7_bits) (nL := 3) (ret := (some .int)) (by decide) rfl (Nat.le_of_ble_eq_true rfl) ?_
  intro p e s m below meth c A ls C h hl
  obtain ⟨hx, hb, hml, hr, hlk, hown, hts, hK, hA, hZ⟩ := id C
  have hl : lv_has ls 3 [(0, .int x0)] := hl
  unfold fX7_bits at hf
  refine lv_iconst (v := 0) hx hb dX7_bits_0 (by decide) ?_
  refine lv_istore_n (lv' := [(1, .int 0), (0, .int x0)]) hx hb dX7_bits_1 rfl hl (by decide) rfl (fun ls hl => ?_)
  refine lv_iload_n hx hb dX7_bits_2 rfl (lv_at hl 1 rfl) ?_
  refine lv_istore_n (lv' := [(2, .int x0), (1, .int 0), (0, .int x0)]) hx hb dX7_bits_3 rfl hl (by decide) rfl (fun ls hl => ?_)
  exact jX7_bits_4 C σ 1000 0 x0 _ _ _ h (lv_sub hl [1, 0] rfl) hf

-- ===== X7_looksSo: ButtonMatchModel.looksSo(II)Z
theorem lkX7_looksSo_31 : Cond.fieldLink RX7 31 "ButtonMatchModel" "holes" "[I" ∈ wsX7_looksSo := by decide +kernel
theorem inX7_looksSo_X7 : ∀ w ∈ wsX70, w ∈ wsX7_looksSo := fun _ h => List.mem_cons_of_mem _ (List.mem_append_right _ h)
theorem lkX7_looksSo_105 : Cond.fieldLink RX7 105 "ButtonMatchModel" "wantedHoles" "I" ∈ wsX7_looksSo := by decide +kernel
def fX7_looksSo (x1 : Int32) (x2 : Int32) (σ : Sg) : Option (Int32) :=
  (if x2 = 0 then ((fX7_looksColour x1 σ).bind fun r9 => (if r9 = (fX7_rememberedColour σ) then some 1 else some 0)) else (if x2 = 1 then ((fX7_looksSize x1 σ).bind fun r6 => (if r6 = (fX7_rememberedSize σ) then some 1 else some 0)) else (if gIn x1 6 then (if (σ 8 x1.toNatClampNeg) = (σ 0 7) then some 1 else some 0) else none)))
set_option maxHeartbeats 4000000 in
set_option maxRecDepth 100000 in
theorem kX7_looksSo (l : Launch) (D : va_G) (κ : Kp) (ad : Nat → Nat) (x1 : Int32) (x2 : Int32) (σ : Sg) {r : Int32} (hf : fX7_looksSo x1 x2 σ = some r) : Ci l D κ (wsM κ ad) yX7_looksSo wsX7_looksSo 1 22 [.ref (ad 0), .int x1, .int x2] σ r σ := by
  refine Ci.of (cc := cX7_looksSo) (nL := 3) (ret := (some .boolean)) (by decide) rfl (Nat.le_of_ble_eq_true rfl) ?_
  intro p e s m below meth c A ls C h hl
  obtain ⟨hx, hb, hml, hr, hlk, hown, hts, hK, hA, hZ⟩ := id C
  have hl : lv_has ls 3 [(0, .ref (ad 0)), (1, .int x1), (2, .int x2)] := hl
  unfold fX7_looksSo at hf
  refine lv_iload_n hx hb dX7_looksSo_0 rfl (lv_at hl 2 rfl) ?_
  refine lv_if_ne (tgt := 22) hx hb dX7_looksSo_1 (by decide) (fun c1 => ?_) (fun c1 => ?_)
  · have hf := tk_f c1 hf
    refine lv_iload_n hx hb dX7_looksSo_22 rfl (lv_at hl 2 rfl) ?_
    refine lv_iconst (v := 1) hx hb dX7_looksSo_23 (by decide) ?_
    refine lv_icmp_ne (tgt := 47) hx hb dX7_looksSo_24 (by decide) (fun c2 => ?_) (fun c2 => ?_)
    · have hf := tk_f c2 hf
      refine lv_aload_n hx hb dX7_looksSo_47 rfl (lv_at hl 0 rfl) ?_
      refine x_get (v := .ref (ad 8)) C h (gM_Mo κ ad σ) rfl inX7_looksSo_X7 14 (by decide) (hts _ lkX7_looksSo_31) rfl dX7_looksSo_48 ?_
      refine lv_iload_n hx hb dX7_looksSo_51 rfl (lv_at hl 1 rfl) ?_
      obtain ⟨g3, hf⟩ := gd_ok hf
      refine x_iald (v := (σ 8 x1.toNatClampNeg)) C h (gM_m_holes κ ad σ) g3 rfl dX7_looksSo_52 ?_
      refine lv_aload_n hx hb dX7_looksSo_53 rfl (lv_at hl 0 rfl) ?_
      refine x_get (v := .int (σ 0 7)) C h (gM_Mo κ ad σ) rfl inX7_looksSo_X7 7 (by decide) (hts _ lkX7_looksSo_105) rfl dX7_looksSo_54 ?_
      refine lv_icmp_ne (tgt := 64) hx hb dX7_looksSo_57 (by decide) (fun c4 => ?_) (fun c4 => ?_)
      · have hf := tk_f c4 hf
        refine lv_iconst (v := 0) hx hb dX7_looksSo_64 (by decide) ?_
        obtain rfl := so_ok hf
        exact x_zret C rfl h dX7_looksSo_65
      · have hf := tk_t c4 hf
        refine lv_iconst (v := 1) hx hb dX7_looksSo_60 (by decide) ?_
        refine lv_goto (tgt := 65) hx hb dX7_looksSo_61 (by decide) ?_
        obtain rfl := so_ok hf
        exact x_zret C rfl h dX7_looksSo_65
    · have hf := tk_t c2 hf
      refine lv_aload_n hx hb dX7_looksSo_27 rfl (lv_at hl 0 rfl) ?_
      refine lv_iload_n hx hb dX7_looksSo_28 rfl (lv_at hl 1 rfl) ?_
      obtain ⟨r6, hg5, hf⟩ := bd_ok hf
      refine x_vi (As := [.int x1]) (rest := []) C h (gM_Mo κ ad σ) rfl (kX7_looksSize l D κ ad x1 σ (r := r6) hg5) (fun hts => cwV 1 hts gX7_looksSo_X7_looksSize rfl rfl rfl (by decide +kernel) ⟨Nat.le_of_ble_eq_true rfl, Nat.le_of_ble_eq_true rfl⟩) rfl hl.1 (Nat.le_of_ble_eq_true rfl) rfl dX7_looksSo_29 (fun H locs h => ?_)
      refine lv_aload_n hx hb dX7_looksSo_32 rfl (lv_at hl 0 rfl) ?_
      refine x_vi (As := []) (rest := [.int r6]) C h (gM_Mo κ ad σ) rfl (kX7_rememberedSize l D κ ad σ (r := (fX7_rememberedSize σ)) rfl) (fun hts => cwV 0 hts gX7_looksSo_X7_rememberedSize rfl rfl rfl (by decide +kernel) ⟨Nat.le_of_ble_eq_true rfl, Nat.le_of_ble_eq_true rfl⟩) rfl hl.1 (Nat.le_of_ble_eq_true rfl) rfl dX7_looksSo_33 (fun H locs h => ?_)
      refine lv_icmp_ne (tgt := 43) hx hb dX7_looksSo_36 (by decide) (fun c7 => ?_) (fun c7 => ?_)
      · have hf := tk_f c7 hf
        refine lv_iconst (v := 0) hx hb dX7_looksSo_43 (by decide) ?_
        refine lv_goto (tgt := 65) hx hb dX7_looksSo_44 (by decide) ?_
        obtain rfl := so_ok hf
        exact x_zret C rfl h dX7_looksSo_65
      · have hf := tk_t c7 hf
        refine lv_iconst (v := 1) hx hb dX7_looksSo_39 (by decide) ?_
        refine lv_goto (tgt := 65) hx hb dX7_looksSo_40 (by decide) ?_
        obtain rfl := so_ok hf
        exact x_zret C rfl h dX7_looksSo_65
  · have hf := tk_t c1 hf
    refine lv_aload_n hx hb dX7_looksSo_4 rfl (lv_at hl 0 rfl) ?_
    refine lv_iload_n hx hb dX7_looksSo_5 rfl (lv_at hl 1 rfl) ?_
    obtain ⟨r9, hg8, hf⟩ := bd_ok hf
    refine x_vi (As := [.int x1]) (rest := []) C h (gM_Mo κ ad σ) rfl (kX7_looksColour l D κ ad x1 σ (r := r9) hg8) (fun hts => cwV 1 hts gX7_looksSo_X7_looksColour rfl rfl rfl (by decide +kernel) ⟨Nat.le_of_ble_eq_true rfl, Nat.le_of_ble_eq_true rfl⟩) rfl hl.1 (Nat.le_of_ble_eq_true rfl) rfl dX7_looksSo_6 (fun H locs h => ?_)
    refine lv_aload_n hx hb dX7_looksSo_9 rfl (lv_at hl 0 rfl) ?_
    refine x_vi (As := []) (rest := [.int r9]) C h (gM_Mo κ ad σ) rfl (kX7_rememberedColour l D κ ad σ (r := (fX7_rememberedColour σ)) rfl) (fun hts => cwV 0 hts gX7_looksSo_X7_rememberedColour rfl rfl rfl (by decide +kernel) ⟨Nat.le_of_ble_eq_true rfl, Nat.le_of_ble_eq_true rfl⟩) rfl hl.1 (Nat.le_of_ble_eq_true rfl) rfl dX7_looksSo_10 (fun H locs h => ?_)
    refine lv_icmp_ne (tgt := 20) hx hb dX7_looksSo_13 (by decide) (fun c10 => ?_) (fun c10 => ?_)
    · have hf := tk_f c10 hf
      refine lv_iconst (v := 0) hx hb dX7_looksSo_20 (by decide) ?_
      obtain rfl := so_ok hf
      exact x_zret C rfl h dX7_looksSo_21
    · have hf := tk_t c10 hf
      refine lv_iconst (v := 1) hx hb dX7_looksSo_16 (by decide) ?_
      refine lv_goto (tgt := 21) hx hb dX7_looksSo_17 (by decide) ?_
      obtain rfl := so_ok hf
      exact x_zret C rfl h dX7_looksSo_21

-- ===== X7_sieveAll: ButtonMatchModel.sieveAll()I
theorem lkX7_sieveAll_72 : Cond.fieldLink RX7 72 "ButtonMatchModel" "tubes" "I" ∈ wsX7_sieveAll := by decide +kernel
theorem inX7_sieveAll_X7 : ∀ w ∈ wsX70, w ∈ wsX7_sieveAll := fun _ h => List.mem_cons_of_mem _ (List.mem_append_right _ h)
theorem lkX7_sieveAll_46 : Cond.fieldLink RX7 46 "ButtonMatchModel" "sign" "[I" ∈ wsX7_sieveAll := by decide +kernel
theorem lkX7_sieveAll_175 : Cond.fieldLink RX7 175 "ButtonMatchModel" "signs" "I" ∈ wsX7_sieveAll := by decide +kernel
theorem lkX7_sieveAll_172 : Cond.fieldLink RX7 172 "ButtonMatchModel" "sieveSeconds" "I" ∈ wsX7_sieveAll := by decide +kernel
def fX7_sieveAll_39 (x2 : Int32) (K16 : Int32 → Int32 → Sg → Option (Int32 × Sg)) : Nat → Int32 → Int32 → Sg → Option (Int32 × Sg)
  | 0, _, _, _ => none
  | n + 1, x1, x3, σ => (if (σ 0 10) ≤ x3 then K16 x1 (x2 + 1) σ else (if gIn x2 3 then ((fX7_looksSo x3 (σ 13 x2.toNatClampNeg) σ).bind fun r4 => (if r4 = 0 then fX7_sieveAll_39 x2 K16 n (x1 &&& ((1 <<< (x3 &&& 31)) ^^^ (-1))) (x3 + 1) σ else fX7_sieveAll_39 x2 K16 n (x1 &&& x1) (x3 + 1) σ)) else none))
set_option maxHeartbeats 4000000 in
set_option maxRecDepth 100000 in
theorem jX7_sieveAll_39 {p : Program} {l : Launch} {e : Env} {s : State} {m : MethodId} {args : Array Value} {below : List Frame} {meth : Method} {c : Code} {D : va_G} {κ : Kp} {ad : Nat → Nat} {A : Nat → Prop} {r : Int32} {τ : Sg} (C : Mc p s m args meth c cX7_sieveAll 4 (some .int) wsX7_sieveAll RX7 D κ A) (x2 : Int32) (K16 : Int32 → Int32 → Sg → Option (Int32 × Sg)) (hK16 : ∀ (x1 : Int32) (x2 : Int32) (σ : Sg) (H : Heap) (locs : List Loc) (ls : Array Slot), Wd D (wsM κ ad) A s.heap H locs σ → lv_has ls 4 [(0, .ref (ad 0)), (1, .int x1), (2, .int x2)] → K16 x1 x2 σ = some (r, τ) → W p l e { frames := 2, cells := 0, slots := 0, locals := 44 } s m args below meth c H locs 0 0 (Qi below args s D (wsM κ ad) A r τ) (F0 m 16 ls [])) : ∀ (n : Nat) (x1 : Int32) (x3 : Int32) (σ : Sg) (H : Heap) (locs : List Loc) (ls : Array Slot), Wd D (wsM κ ad) A s.heap H locs σ → lv_has ls 4 [(0, .ref (ad 0)), (1, .int x1), (2, .int x2), (3, .int x3)] → fX7_sieveAll_39 x2 K16 n x1 x3 σ = some (r, τ) → W p l e { frames := 2, cells := 0, slots := 0, locals := 44 } s m args below meth c H locs 0 0 (Qi below args s D (wsM κ ad) A r τ) (F0 m 39 ls []) := by
  obtain ⟨hx, hb, hml, hr, hlk, hown, hts, hK, hA, hZ⟩ := id C
  intro n
  induction n with
  | zero =>
    intro x1 x3 σ H locs ls h hl hf
    rw [fX7_sieveAll_39] at hf
    cases hf
  | succ n ih =>
    intro x1 x3 σ H locs ls h hl hf
    rw [fX7_sieveAll_39] at hf
    refine lv_iload_n hx hb dX7_sieveAll_39 rfl (lv_at hl 3 rfl) ?_
    refine lv_aload_n hx hb dX7_sieveAll_40 rfl (lv_at hl 0 rfl) ?_
    refine x_get (v := .int (σ 0 10)) C h (gM_Mo κ ad σ) rfl inX7_sieveAll_X7 10 (by decide) (hts _ lkX7_sieveAll_72) rfl dX7_sieveAll_41 ?_
    refine lv_icmp_ge (tgt := 79) hx hb dX7_sieveAll_44 (by decide) (fun c1 => ?_) (fun c1 => ?_)
    · have hf := tk_t c1 hf
      refine lv_iinc (v := (x2 + 1)) (lv' := [(2, .int (x2 + 1)), (0, .ref (ad 0)), (1, .int x1), (3, .int x3)]) hx hb dX7_sieveAll_79 hl (k := 2) rfl rfl (by decide) rfl (fun ls hl => ?_)
      refine lv_goto (tgt := 16) hx hb dX7_sieveAll_82 (by decide) ?_
      exact hK16 x1 (x2 + 1) σ _ _ _ h (lv_sub hl [1, 2, 0] rfl) hf
    · have hf := tk_f c1 hf
      refine lv_iload_n hx hb dX7_sieveAll_47 rfl (lv_at hl 1 rfl) ?_
      refine lv_aload_n hx hb dX7_sieveAll_48 rfl (lv_at hl 0 rfl) ?_
      refine lv_iload_n hx hb dX7_sieveAll_49 rfl (lv_at hl 3 rfl) ?_
      refine lv_aload_n hx hb dX7_sieveAll_50 rfl (lv_at hl 0 rfl) ?_
      refine x_get (v := .ref (ad 13)) C h (gM_Mo κ ad σ) rfl inX7_sieveAll_X7 25 (by decide) (hts _ lkX7_sieveAll_46) rfl dX7_sieveAll_51 ?_
      refine lv_iload_n hx hb dX7_sieveAll_54 rfl (lv_at hl 2 rfl) ?_
      obtain ⟨g2, hf⟩ := gd_ok hf
      refine x_iald (v := (σ 13 x2.toNatClampNeg)) C h (gM_m_sign κ ad σ) g2 rfl dX7_sieveAll_55 ?_
      obtain ⟨r4, hg3, hf⟩ := bd_ok hf
      refine x_vi (As := [.int x3, .int (σ 13 x2.toNatClampNeg)]) (rest := [.int x1]) C h (gM_Mo κ ad σ) rfl (kX7_looksSo l D κ ad x3 (σ 13 x2.toNatClampNeg) σ (r := r4) hg3) (fun hts => cwV 2 hts gX7_sieveAll_X7_looksSo rfl rfl rfl (by decide +kernel) ⟨Nat.le_of_ble_eq_true rfl, Nat.le_of_ble_eq_true rfl⟩) rfl hl.1 (Nat.le_of_ble_eq_true rfl) rfl dX7_sieveAll_56 (fun H locs h => ?_)
      refine lv_if_eq (tgt := 66) hx hb dX7_sieveAll_59 (by decide) (fun c5 => ?_) (fun c5 => ?_)
      · have hf := tk_t c5 hf
        refine lv_iconst (v := 1) hx hb dX7_sieveAll_66 (by decide) ?_
        refine lv_iload_n hx hb dX7_sieveAll_67 rfl (lv_at hl 3 rfl) ?_
        refine lv_ishl hx hb dX7_sieveAll_68 ?_
        refine lv_iconst (v := (-1)) hx hb dX7_sieveAll_69 (by decide) ?_
        refine lv_ixor hx hb dX7_sieveAll_70 ?_
        refine lv_iand hx hb dX7_sieveAll_71 ?_
        refine lv_istore_n (lv' := [(1, .int (x1 &&& ((1 <<< (x3 &&& 31)) ^^^ (-1)))), (0, .ref (ad 0)), (2, .int x2), (3, .int x3)]) hx hb dX7_sieveAll_72 rfl hl (by decide) rfl (fun ls hl => ?_)
        refine lv_iinc (v := (x3 + 1)) (lv' := [(3, .int (x3 + 1)), (1, .int (x1 &&& ((1 <<< (x3 &&& 31)) ^^^ (-1)))), (0, .ref (ad 0)), (2, .int x2)]) hx hb dX7_sieveAll_73 hl (k := 3) rfl rfl (by decide) rfl (fun ls hl => ?_)
        refine lv_goto (tgt := 39) hx hb dX7_sieveAll_76 (by decide) ?_
        exact ih (x1 &&& ((1 <<< (x3 &&& 31)) ^^^ (-1))) (x3 + 1) σ _ _ _ h (lv_sub hl [2, 1, 3, 0] rfl) hf
      · have hf := tk_f c5 hf
        refine lv_iload_n hx hb dX7_sieveAll_62 rfl (lv_at hl 1 rfl) ?_
        refine lv_goto (tgt := 71) hx hb dX7_sieveAll_63 (by decide) ?_
        refine lv_iand hx hb dX7_sieveAll_71 ?_
        refine lv_istore_n (lv' := [(1, .int (x1 &&& x1)), (0, .ref (ad 0)), (2, .int x2), (3, .int x3)]) hx hb dX7_sieveAll_72 rfl hl (by decide) rfl (fun ls hl => ?_)
        refine lv_iinc (v := (x3 + 1)) (lv' := [(3, .int (x3 + 1)), (1, .int (x1 &&& x1)), (0, .ref (ad 0)), (2, .int x2)]) hx hb dX7_sieveAll_73 hl (k := 3) rfl rfl (by decide) rfl (fun ls hl => ?_)
        refine lv_goto (tgt := 39) hx hb dX7_sieveAll_76 (by decide) ?_
        exact ih (x1 &&& x1) (x3 + 1) σ _ _ _ h (lv_sub hl [2, 1, 3, 0] rfl) hf
def fX7_sieveAll_16 : Nat → Int32 → Int32 → Sg → Option (Int32 × Sg)
  | 0, _, _, _ => none
  | n + 1, x1, x2, σ => (if (σ 0 24) ≤ x2 then some (x1, σ) else ((fX7_bits x1 σ).bind fun r8 => fX7_sieveAll_39 x2 (fX7_sieveAll_16 n) 1000 x1 0 (up2 σ 0 26 ((σ 0 26) + r8))))
set_option maxHeartbeats 4000000 in
set_option maxRecDepth 100000 in
theorem jX7_sieveAll_16 {p : Program} {l : Launch} {e : Env} {s : State} {m : MethodId} {args : Array Value} {below : List Frame} {meth : Method} {c : Code} {D : va_G} {κ : Kp} {ad : Nat → Nat} {A : Nat → Prop} {r : Int32} {τ : Sg} (C : Mc p s m args meth c cX7_sieveAll 4 (some .int) wsX7_sieveAll RX7 D κ A) : ∀ (n : Nat) (x1 : Int32) (x2 : Int32) (σ : Sg) (H : Heap) (locs : List Loc) (ls : Array Slot), Wd D (wsM κ ad) A s.heap H locs σ → lv_has ls 4 [(0, .ref (ad 0)), (1, .int x1), (2, .int x2)] → fX7_sieveAll_16  n x1 x2 σ = some (r, τ) → W p l e { frames := 2, cells := 0, slots := 0, locals := 44 } s m args below meth c H locs 0 0 (Qi below args s D (wsM κ ad) A r τ) (F0 m 16 ls []) := by
  obtain ⟨hx, hb, hml, hr, hlk, hown, hts, hK, hA, hZ⟩ := id C
  intro n
  induction n with
  | zero =>
    intro x1 x2 σ H locs ls h hl hf
    rw [fX7_sieveAll_16] at hf
    cases hf
  | succ n ih =>
    intro x1 x2 σ H locs ls h hl hf
    rw [fX7_sieveAll_16] at hf
    refine lv_iload_n hx hb dX7_sieveAll_16 rfl (lv_at hl 2 rfl) ?_
    refine lv_aload_n hx hb dX7_sieveAll_17 rfl (lv_at hl 0 rfl) ?_
    refine x_get (v := .int (σ 0 24)) C h (gM_Mo κ ad σ) rfl inX7_sieveAll_X7 24 (by decide) (hts _ lkX7_sieveAll_175) rfl dX7_sieveAll_18 ?_
    refine lv_icmp_ge (tgt := 85) hx hb dX7_sieveAll_21 (by decide) (fun c6 => ?_) (fun c6 => ?_)
    · have hf := tk_t c6 hf
      refine lv_iload_n hx hb dX7_sieveAll_85 rfl (lv_at hl 1 rfl) ?_
      obtain ⟨rfl, rfl⟩ := pr_ok hf
      exact x_iret C h dX7_sieveAll_86
    · have hf := tk_f c6 hf
      refine lv_aload_n hx hb dX7_sieveAll_24 rfl (lv_at hl 0 rfl) ?_
      refine lv_dup hx hb dX7_sieveAll_25 rfl ?_
      refine x_get (v := .int (σ 0 26)) C h (gM_Mo κ ad σ) rfl inX7_sieveAll_X7 26 (by decide) (hts _ lkX7_sieveAll_172) rfl dX7_sieveAll_26 ?_
      refine lv_iload_n hx hb dX7_sieveAll_29 rfl (lv_at hl 1 rfl) ?_
      obtain ⟨r8, hg7, hf⟩ := bd_ok hf
      refine x_si (As := [.int x1]) (rest := [.int (σ 0 26), .ref (ad 0)]) C h (kX7_bits l D κ ad x1 σ (r := r8) hg7) (fun hts => va_cwS 1 hts gX7_sieveAll_X7_bits rfl rfl rfl (by decide +kernel) ⟨Nat.le_of_ble_eq_true rfl, Nat.le_of_ble_eq_true rfl⟩) rfl hl.1 (Nat.le_of_ble_eq_true rfl) rfl dX7_sieveAll_30 (fun H locs h => ?_)
      refine lv_iadd hx hb dX7_sieveAll_33 ?_
      refine x_put C h (gM_Mo κ ad σ) rfl inX7_sieveAll_X7 tyX7 tyX7_ok nmX7 26 (by decide) (hts _ lkX7_sieveAll_172) rfl (tyX7_ok 26 (by decide)) (Nat.le_of_ble_eq_true rfl) (sM_Mo_26 κ ad σ ((σ 0 26) + r8)) dX7_sieveAll_34 (fun H locs h => ?_)
      refine lv_iconst (v := 0) hx hb dX7_sieveAll_37 (by decide) ?_
      refine lv_istore_n (lv' := [(3, .int 0), (0, .ref (ad 0)), (1, .int x1), (2, .int x2)]) hx hb dX7_sieveAll_38 rfl hl (by decide) rfl (fun ls hl => ?_)
      exact jX7_sieveAll_39 C x2 (fX7_sieveAll_16 n) ih 1000 x1 0 (up2 σ 0 26 ((σ 0 26) + r8)) _ _ _ h (lv_sub hl [1, 2, 3, 0] rfl) hf
def fX7_sieveAll (σ : Sg) : Option (Int32 × Sg) :=
  fX7_sieveAll_16 1000 ((1 <<< ((σ 0 10) &&& 31)) - 1) 0 (up2 σ 0 26 0)
set_option maxHeartbeats 4000000 in
set_option maxRecDepth 100000 in
theorem kX7_sieveAll (l : Launch) (D : va_G) (κ : Kp) (ad : Nat → Nat) (σ : Sg) {r : Int32} {τ : Sg} (hf : fX7_sieveAll σ = some (r, τ)) : Ci l D κ (wsM κ ad) yX7_sieveAll wsX7_sieveAll 2 44 [.ref (ad 0)] σ r τ := by
  refine Ci.of (cc := cX7_sieveAll) (nL := 4) (ret := (some .int)) (by decide) rfl (Nat.le_of_ble_eq_true rfl) ?_
  intro p e s m below meth c A ls C h hl
  obtain ⟨hx, hb, hml, hr, hlk, hown, hts, hK, hA, hZ⟩ := id C
  have hl : lv_has ls 4 [(0, .ref (ad 0))] := hl
  unfold fX7_sieveAll at hf
  refine lv_iconst (v := 1) hx hb dX7_sieveAll_0 (by decide) ?_
  refine lv_aload_n hx hb dX7_sieveAll_1 rfl (lv_at hl 0 rfl) ?_
  refine x_get (v := .int (σ 0 10)) C h (gM_Mo κ ad σ) rfl inX7_sieveAll_X7 10 (by decide) (hts _ lkX7_sieveAll_72) rfl dX7_sieveAll_2 ?_
  refine lv_ishl hx hb dX7_sieveAll_5 ?_
  refine lv_iconst (v := 1) hx hb dX7_sieveAll_6 (by decide) ?_
  refine lv_isub hx hb dX7_sieveAll_7 ?_
  refine lv_istore_n (lv' := [(1, .int ((1 <<< ((σ 0 10) &&& 31)) - 1)), (0, .ref (ad 0))]) hx hb dX7_sieveAll_8 rfl hl (by decide) rfl (fun ls hl => ?_)
  refine lv_aload_n hx hb dX7_sieveAll_9 rfl (lv_at hl 1 rfl) ?_
  refine lv_iconst (v := 0) hx hb dX7_sieveAll_10 (by decide) ?_
  refine x_put C h (gM_Mo κ ad σ) rfl inX7_sieveAll_X7 tyX7 tyX7_ok nmX7 26 (by decide) (hts _ lkX7_sieveAll_172) rfl (tyX7_ok 26 (by decide)) (Nat.le_of_ble_eq_true rfl) (sM_Mo_26 κ ad σ 0) dX7_sieveAll_11 (fun H locs h => ?_)
  refine lv_iconst (v := 0) hx hb dX7_sieveAll_14 (by decide) ?_
  refine lv_istore_n (lv' := [(2, .int 0), (1, .int ((1 <<< ((σ 0 10) &&& 31)) - 1)), (0, .ref (ad 0))]) hx hb dX7_sieveAll_15 rfl hl (by decide) rfl (fun ls hl => ?_)
  exact jX7_sieveAll_16 C 1000 ((1 <<< ((σ 0 10) &&& 31)) - 1) 0 (up2 σ 0 26 0) _ _ _ h (lv_sub hl [2, 1, 0] rfl) hf

-- ===== X7_sieve: ButtonMatchModel.sieve(IIIII)I
theorem lkX7_sieve_175 : Cond.fieldLink RX7 175 "ButtonMatchModel" "signs" "I" ∈ wsX7_sieve := by decide +kernel
theorem inX7_sieve_X7 : ∀ w ∈ wsX70, w ∈ wsX7_sieve := fun _ h => List.mem_cons_of_mem _ (List.mem_append_right _ h)
theorem lkX7_sieve_172 : Cond.fieldLink RX7 172 "ButtonMatchModel" "sieveSeconds" "I" ∈ wsX7_sieve := by decide +kernel
theorem lkX7_sieve_16 : Cond.fieldLink RX7 16 "ButtonMatchModel" "cells" "[I" ∈ wsX7_sieve := by decide +kernel
theorem lkX7_sieve_46 : Cond.fieldLink RX7 46 "ButtonMatchModel" "sign" "[I" ∈ wsX7_sieve := by decide +kernel
theorem lkX7_sieve_62 : Cond.fieldLink RX7 62 "ButtonMatchModel" "fault" "I" ∈ wsX7_sieve := by decide +kernel
theorem lkX7_sieve_72 : Cond.fieldLink RX7 72 "ButtonMatchModel" "tubes" "I" ∈ wsX7_sieve := by decide +kernel
def fX7_sieve_83 (x1 : Int32) (x3 : Int32) (x4 : Int32) (x5 : Int32) : Nat → Int32 → Int32 → Sg → Option (Int32 × Sg)
  | 0, _, _, _ => none
  | n + 1, x7, x8, σ => (if x4 ≤ x8 then ((fX7_sieveAll (up2 σ 0 24 x4)).bind fun q3 => (if x5 = 0 then some ((q3.2 0 26), q3.2) else some (q3.1, q3.2))) else (if gIn (((60 * x1) + x3) + x8) 240 then (if (fX7_within (σ 3 ((((60 * x1) + x3) + x8).toNatClampNeg)) 0 2 σ) = 0 then some ((-2), σ) else (if ((x7 >>> ((σ 3 ((((60 * x1) + x3) + x8).toNatClampNeg)) &&& 31)) &&& 1) = 1 then some ((-2), σ) else (if gIn x8 3 then fX7_sieve_83 x1 x3 x4 x5 n (x7 ||| (1 <<< ((σ 3 ((((60 * x1) + x3) + x8).toNatClampNeg)) &&& 31))) (x8 + 1) (up2 σ 13 x8.toNatClampNeg (σ 3 ((((60 * x1) + x3) + x8).toNatClampNeg))) else none))) else none))
set_option maxHeartbeats 4000000 in
set_option maxRecDepth 100000 in
theorem jX7_sieve_83 {p : Program} {l : Launch} {e : Env} {s : State} {m : MethodId} {args : Array Value} {below : List Frame} {meth : Method} {c : Code} {D : va_G} {κ : Kp} {ad : Nat → Nat} {A : Nat → Prop} {r : Int32} {τ : Sg} (C : Mc p s m args meth c cX7_sieve 10 (some .int) wsX7_sieve RX7 D κ A) (x1 : Int32) (x3 : Int32) (x4 : Int32) (x5 : Int32) : ∀ (n : Nat) (x7 : Int32) (x8 : Int32) (σ : Sg) (H : Heap) (locs : List Loc) (ls : Array Slot), Wd D (wsM κ ad) A s.heap H locs σ → lv_has ls 10 [(0, .ref (ad 0)), (1, .int x1), (3, .int x3), (4, .int x4), (5, .int x5), (7, .int x7), (8, .int x8)] → fX7_sieve_83 x1 x3 x4 x5 n x7 x8 σ = some (r, τ) → W p l e { frames := 3, cells := 0, slots := 0, locals := 67 } s m args below meth c H locs 0 0 (Qi below args s D (wsM κ ad) A r τ) (F0 m 83 ls []) := by
  obtain ⟨hx, hb, hml, hr, hlk, hown, hts, hK, hA, hZ⟩ := id C
  intro n
  induction n with
  | zero =>
    intro x7 x8 σ H locs ls h hl hf
    rw [fX7_sieve_83] at hf
    cases hf
  | succ n ih =>
    intro x7 x8 σ H locs ls h hl hf
    rw [fX7_sieve_83] at hf
    refine lv_iload hx hb dX7_sieve_83 (lv_at hl 6 rfl) ?_
    refine lv_iload hx hb dX7_sieve_85 (lv_at hl 3 rfl) ?_
    refine lv_icmp_ge (tgt := 154) hx hb dX7_sieve_87 (by decide) (fun c1 => ?_) (fun c1 => ?_)
    · have hf := tk_t c1 hf
      refine lv_aload_n hx hb dX7_sieve_154 rfl (lv_at hl 0 rfl) ?_
      refine lv_iload hx hb dX7_sieve_155 (lv_at hl 3 rfl) ?_
      refine x_put C h (gM_Mo κ ad σ) rfl inX7_sieve_X7 tyX7 tyX7_ok nmX7 24 (by decide) (hts _ lkX7_sieve_175) rfl (tyX7_ok 24 (by decide)) (Nat.le_of_ble_eq_true rfl) (sM_Mo_24 κ ad σ x4) dX7_sieve_157 (fun H locs h => ?_)
      refine lv_aload_n hx hb dX7_sieve_160 rfl (lv_at hl 0 rfl) ?_
      obtain ⟨q3, hg2, hf⟩ := bd_ok hf
      refine x_vi (As := []) (rest := []) C h (gM_Mo κ ad (up2 σ 0 24 x4)) rfl (kX7_sieveAll l D κ ad (up2 σ 0 24 x4) (r := q3.1) (τ := q3.2) hg2) (fun hts => cwV 0 hts gX7_sieve_X7_sieveAll rfl rfl rfl (by decide +kernel) ⟨Nat.le_of_ble_eq_true rfl, Nat.le_of_ble_eq_true rfl⟩) rfl hl.1 (Nat.le_of_ble_eq_true rfl) rfl dX7_sieve_161 (fun H locs h => ?_)
      refine lv_istore (lv' := [(8, .int q3.1), (0, .ref (ad 0)), (1, .int x1), (3, .int x3), (4, .int x4), (5, .int x5), (7, .int x7)]) hx hb dX7_sieve_164 hl (by decide) rfl (fun ls hl => ?_)
      refine lv_iload hx hb dX7_sieve_166 (lv_at hl 5 rfl) ?_
      refine lv_if_ne (tgt := 178) hx hb dX7_sieve_168 (by decide) (fun c4 => ?_) (fun c4 => ?_)
      · have hf := tk_f c4 hf
        refine lv_iload hx hb dX7_sieve_178 (lv_at hl 0 rfl) ?_
        obtain ⟨rfl, rfl⟩ := pr_ok hf
        exact x_iret C h dX7_sieve_180
      · have hf := tk_t c4 hf
        refine lv_aload_n hx hb dX7_sieve_171 rfl (lv_at hl 1 rfl) ?_
        refine x_get (v := .int (q3.2 0 26)) C h (gM_Mo κ ad q3.2) rfl inX7_sieve_X7 26 (by decide) (hts _ lkX7_sieve_172) rfl dX7_sieve_172 ?_
        refine lv_goto (tgt := 180) hx hb dX7_sieve_175 (by decide) ?_
        obtain ⟨rfl, rfl⟩ := pr_ok hf
        exact x_iret C h dX7_sieve_180
    · have hf := tk_f c1 hf
      refine lv_aload_n hx hb dX7_sieve_90 rfl (lv_at hl 0 rfl) ?_
      refine x_get (v := .ref (ad 3)) C h (gM_Mo κ ad σ) rfl inX7_sieve_X7 4 (by decide) (hts _ lkX7_sieve_16) rfl dX7_sieve_91 ?_
      refine lv_bipush (v := 60) hx hb dX7_sieve_94 (by decide) ?_
      refine lv_iload_n hx hb dX7_sieve_96 rfl (lv_at hl 1 rfl) ?_
      refine lv_imul hx hb dX7_sieve_97 ?_
      refine lv_iload_n hx hb dX7_sieve_98 rfl (lv_at hl 2 rfl) ?_
      refine lv_iadd hx hb dX7_sieve_99 ?_
      refine lv_iload hx hb dX7_sieve_100 (lv_at hl 6 rfl) ?_
      refine lv_iadd hx hb dX7_sieve_102 ?_
      obtain ⟨g5, hf⟩ := gd_ok hf
      refine x_iald (v := (σ 3 ((((60 * x1) + x3) + x8).toNatClampNeg))) C h (gM_m_cells κ ad σ) g5 rfl dX7_sieve_103 ?_
      refine lv_istore (lv' := [(9, .int (σ 3 ((((60 * x1) + x3) + x8).toNatClampNeg))), (0, .ref (ad 0)), (1, .int x1), (3, .int x3), (4, .int x4), (5, .int x5), (7, .int x7), (8, .int x8)]) hx hb dX7_sieve_104 hl (by decide) rfl (fun ls hl => ?_)
      refine lv_iload hx hb dX7_sieve_106 (lv_at hl 0 rfl) ?_
      refine lv_iconst (v := 0) hx hb dX7_sieve_108 (by decide) ?_
      refine lv_iconst (v := 2) hx hb dX7_sieve_109 (by decide) ?_
      refine x_si (As := [.int (σ 3 ((((60 * x1) + x3) + x8).toNatClampNeg)), .int 0, .int 2]) (rest := []) C h (kX7_within l D κ ad (σ 3 ((((60 * x1) + x3) + x8).toNatClampNeg)) 0 2 σ (r := (fX7_within (σ 3 ((((60 * x1) + x3) + x8).toNatClampNeg)) 0 2 σ)) rfl) (fun hts => va_cwS 3 hts gX7_sieve_X7_within rfl rfl rfl (by decide +kernel) ⟨Nat.le_of_ble_eq_true rfl, Nat.le_of_ble_eq_true rfl⟩) rfl hl.1 (Nat.le_of_ble_eq_true rfl) rfl dX7_sieve_110 (fun H locs h => ?_)
      refine lv_if_eq (tgt := 127) hx hb dX7_sieve_113 (by decide) (fun c6 => ?_) (fun c6 => ?_)
      · have hf := tk_t c6 hf
        refine lv_bipush (v := (-2)) hx hb dX7_sieve_127 (by decide) ?_
        obtain ⟨rfl, rfl⟩ := pr_ok hf
        exact x_iret C h dX7_sieve_129
      · have hf := tk_f c6 hf
        refine lv_iload hx hb dX7_sieve_116 (lv_at hl 6 rfl) ?_
        refine lv_iload hx hb dX7_sieve_118 (lv_at hl 0 rfl) ?_
        refine lv_ishr hx hb dX7_sieve_120 ?_
        refine lv_iconst (v := 1) hx hb dX7_sieve_121 (by decide) ?_
        refine lv_iand hx hb dX7_sieve_122 ?_
        refine lv_iconst (v := 1) hx hb dX7_sieve_123 (by decide) ?_
        refine lv_icmp_ne (tgt := 130) hx hb dX7_sieve_124 (by decide) (fun c7 => ?_) (fun c7 => ?_)
        · have hf := tk_f c7 hf
          refine lv_iload hx hb dX7_sieve_130 (lv_at hl 6 rfl) ?_
          refine lv_iconst (v := 1) hx hb dX7_sieve_132 (by decide) ?_
          refine lv_iload hx hb dX7_sieve_133 (lv_at hl 0 rfl) ?_
          refine lv_ishl hx hb dX7_sieve_135 ?_
          refine lv_ior hx hb dX7_sieve_136 ?_
          refine lv_istore (lv' := [(7, .int (x7 ||| (1 <<< ((σ 3 ((((60 * x1) + x3) + x8).toNatClampNeg)) &&& 31)))), (9, .int (σ 3 ((((60 * x1) + x3) + x8).toNatClampNeg))), (0, .ref (ad 0)), (1, .int x1), (3, .int x3), (4, .int x4), (5, .int x5), (8, .int x8)]) hx hb dX7_sieve_137 hl (by decide) rfl (fun ls hl => ?_)
          refine lv_aload_n hx hb dX7_sieve_139 rfl (lv_at hl 2 rfl) ?_
          refine x_get (v := .ref (ad 13)) C h (gM_Mo κ ad σ) rfl inX7_sieve_X7 25 (by decide) (hts _ lkX7_sieve_46) rfl dX7_sieve_140 ?_
          refine lv_iload hx hb dX7_sieve_143 (lv_at hl 7 rfl) ?_
          refine lv_iload hx hb dX7_sieve_145 (lv_at hl 1 rfl) ?_
          obtain ⟨g8, hf⟩ := gd_ok hf
          refine x_iast C h (gM_m_sign κ ad σ) (sM_m_sign κ ad σ x8.toNatClampNeg (σ 3 ((((60 * x1) + x3) + x8).toNatClampNeg))) g8 dX7_sieve_147 (fun H locs h => ?_)
          refine lv_iinc (v := (x8 + 1)) (lv' := [(8, .int (x8 + 1)), (7, .int (x7 ||| (1 <<< ((σ 3 ((((60 * x1) + x3) + x8).toNatClampNeg)) &&& 31)))), (9, .int (σ 3 ((((60 * x1) + x3) + x8).toNatClampNeg))), (0, .ref (ad 0)), (1, .int x1), (3, .int x3), (4, .int x4), (5, .int x5)]) hx hb dX7_sieve_148 hl (k := 7) rfl rfl (by decide) rfl (fun ls hl => ?_)
          refine lv_goto (tgt := 83) hx hb dX7_sieve_151 (by decide) ?_
          exact ih (x7 ||| (1 <<< ((σ 3 ((((60 * x1) + x3) + x8).toNatClampNeg)) &&& 31))) (x8 + 1) (up2 σ 13 x8.toNatClampNeg (σ 3 ((((60 * x1) + x3) + x8).toNatClampNeg))) _ _ _ h (lv_sub hl [3, 4, 5, 6, 7, 1, 0] rfl) hf
        · have hf := tk_t c7 hf
          refine lv_bipush (v := (-2)) hx hb dX7_sieve_127 (by decide) ?_
          obtain ⟨rfl, rfl⟩ := pr_ok hf
          exact x_iret C h dX7_sieve_129
def fX7_sieve (x1 : Int32) (x2 : Int32) (x3 : Int32) (x4 : Int32) (x5 : Int32) (σ : Sg) : Option (Int32 × Sg) :=
  (if (fX7_isSheet x1 (up2 σ 0 0 0)) = 0 then some ((-1), (up2 σ 0 0 0)) else (if (fX7_isSort x2 (up2 σ 0 0 0)) = 0 then some ((-2), (up2 σ 0 0 0)) else (if (fX7_within x4 0 3 (up2 σ 0 0 0)) = 0 then some ((-2), (up2 σ 0 0 0)) else (if (fX7_within x5 0 1 (up2 σ 0 0 0)) = 0 then some ((-2), (up2 σ 0 0 0)) else ((fX7_against x1 x2 x3 x4 (up2 σ 0 0 0)).bind fun r14 => (if r14 = 0 then (if (σ 0 10) = 0 then some ((-3), (up2 σ 0 0 0)) else fX7_sieve_83 x1 x3 x4 x5 1000 0 0 (up2 σ 0 0 0)) else some ((fX7_fails r14 (up2 σ 0 0 0)).1, (fX7_fails r14 (up2 σ 0 0 0)).2)))))))
set_option maxHeartbeats 4000000 in
set_option maxRecDepth 100000 in
theorem kX7_sieve (l : Launch) (D : va_G) (κ : Kp) (ad : Nat → Nat) (x1 : Int32) (x2 : Int32) (x3 : Int32) (x4 : Int32) (x5 : Int32) (σ : Sg) {r : Int32} {τ : Sg} (hf : fX7_sieve x1 x2 x3 x4 x5 σ = some (r, τ)) : Ci l D κ (wsM κ ad) yX7_sieve wsX7_sieve 3 67 [.ref (ad 0), .int x1, .int x2, .int x3, .int x4, .int x5] σ r τ := by
  refine Ci.of (cc := cX7_sieve) (nL := 10) (ret := (some .int)) (by decide) rfl (Nat.le_of_ble_eq_true rfl) ?_
  intro p e s m below meth c A ls C h hl
  obtain ⟨hx, hb, hml, hr, hlk, hown, hts, hK, hA, hZ⟩ := id C
  have hl : lv_has ls 10 [(0, .ref (ad 0)), (1, .int x1), (2, .int x2), (3, .int x3), (4, .int x4), (5, .int x5)] := hl
  unfold fX7_sieve at hf
  refine lv_aload_n hx hb dX7_sieve_0 rfl (lv_at hl 0 rfl) ?_
  refine lv_iconst (v := 0) hx hb dX7_sieve_1 (by decide) ?_
  refine x_put C h (gM_Mo κ ad σ) rfl inX7_sieve_X7 tyX7 tyX7_ok nmX7 0 (by decide) (hts _ lkX7_sieve_62) rfl (tyX7_ok 0 (by decide)) (Nat.le_of_ble_eq_true rfl) (sM_Mo_0 κ ad σ 0) dX7_sieve_2 (fun H locs h => ?_)
  refine lv_iload_n hx hb dX7_sieve_5 rfl (lv_at hl 1 rfl) ?_
  refine x_si (As := [.int x1]) (rest := []) C h (kX7_isSheet l D κ ad x1 (up2 σ 0 0 0) (r := (fX7_isSheet x1 (up2 σ 0 0 0))) rfl) (fun hts => va_cwS 1 hts gX7_sieve_X7_isSheet rfl rfl rfl (by decide +kernel) ⟨Nat.le_of_ble_eq_true rfl, Nat.le_of_ble_eq_true rfl⟩) rfl hl.1 (Nat.le_of_ble_eq_true rfl) rfl dX7_sieve_6 (fun H locs h => ?_)
  refine lv_if_ne (tgt := 14) hx hb dX7_sieve_9 (by decide) (fun c9 => ?_) (fun c9 => ?_)
  · have hf := tk_f c9 hf
    refine lv_iload_n hx hb dX7_sieve_14 rfl (lv_at hl 2 rfl) ?_
    refine x_si (As := [.int x2]) (rest := []) C h (kX7_isSort l D κ ad x2 (up2 σ 0 0 0) (r := (fX7_isSort x2 (up2 σ 0 0 0))) rfl) (fun hts => va_cwS 1 hts gX7_sieve_X7_isSort rfl rfl rfl (by decide +kernel) ⟨Nat.le_of_ble_eq_true rfl, Nat.le_of_ble_eq_true rfl⟩) rfl hl.1 (Nat.le_of_ble_eq_true rfl) rfl dX7_sieve_15 (fun H locs h => ?_)
    refine lv_if_eq (tgt := 41) hx hb dX7_sieve_18 (by decide) (fun c10 => ?_) (fun c10 => ?_)
    · have hf := tk_t c10 hf
      refine lv_bipush (v := (-2)) hx hb dX7_sieve_41 (by decide) ?_
      obtain ⟨rfl, rfl⟩ := pr_ok hf
      exact x_iret C h dX7_sieve_43
    · have hf := tk_f c10 hf
      refine lv_iload hx hb dX7_sieve_21 (lv_at hl 4 rfl) ?_
      refine lv_iconst (v := 0) hx hb dX7_sieve_23 (by decide) ?_
      refine lv_iconst (v := 3) hx hb dX7_sieve_24 (by decide) ?_
      refine x_si (As := [.int x4, .int 0, .int 3]) (rest := []) C h (kX7_within l D κ ad x4 0 3 (up2 σ 0 0 0) (r := (fX7_within x4 0 3 (up2 σ 0 0 0))) rfl) (fun hts => va_cwS 3 hts gX7_sieve_X7_within rfl rfl rfl (by decide +kernel) ⟨Nat.le_of_ble_eq_true rfl, Nat.le_of_ble_eq_true rfl⟩) rfl hl.1 (Nat.le_of_ble_eq_true rfl) rfl dX7_sieve_25 (fun H locs h => ?_)
      refine lv_if_eq (tgt := 41) hx hb dX7_sieve_28 (by decide) (fun c11 => ?_) (fun c11 => ?_)
      · have hf := tk_t c11 hf
        refine lv_bipush (v := (-2)) hx hb dX7_sieve_41 (by decide) ?_
        obtain ⟨rfl, rfl⟩ := pr_ok hf
        exact x_iret C h dX7_sieve_43
      · have hf := tk_f c11 hf
        refine lv_iload hx hb dX7_sieve_31 (lv_at hl 5 rfl) ?_
        refine lv_iconst (v := 0) hx hb dX7_sieve_33 (by decide) ?_
        refine lv_iconst (v := 1) hx hb dX7_sieve_34 (by decide) ?_
        refine x_si (As := [.int x5, .int 0, .int 1]) (rest := []) C h (kX7_within l D κ ad x5 0 1 (up2 σ 0 0 0) (r := (fX7_within x5 0 1 (up2 σ 0 0 0))) rfl) (fun hts => va_cwS 3 hts gX7_sieve_X7_within rfl rfl rfl (by decide +kernel) ⟨Nat.le_of_ble_eq_true rfl, Nat.le_of_ble_eq_true rfl⟩) rfl hl.1 (Nat.le_of_ble_eq_true rfl) rfl dX7_sieve_35 (fun H locs h => ?_)
        refine lv_if_ne (tgt := 44) hx hb dX7_sieve_38 (by decide) (fun c12 => ?_) (fun c12 => ?_)
        · have hf := tk_f c12 hf
          refine lv_aload_n hx hb dX7_sieve_44 rfl (lv_at hl 0 rfl) ?_
          refine lv_iload_n hx hb dX7_sieve_45 rfl (lv_at hl 1 rfl) ?_
          refine lv_iload_n hx hb dX7_sieve_46 rfl (lv_at hl 2 rfl) ?_
          refine lv_iload_n hx hb dX7_sieve_47 rfl (lv_at hl 3 rfl) ?_
          refine lv_iload hx hb dX7_sieve_48 (lv_at hl 4 rfl) ?_
          obtain ⟨r14, hg13, hf⟩ := bd_ok hf
          refine x_vi (As := [.int x1, .int x2, .int x3, .int x4]) (rest := []) C h (gM_Mo κ ad (up2 σ 0 0 0)) rfl (kX7_against l D κ ad x1 x2 x3 x4 (up2 σ 0 0 0) (r := r14) hg13) (fun hts => cwV 4 hts gX7_sieve_X7_against rfl rfl rfl (by decide +kernel) ⟨Nat.le_of_ble_eq_true rfl, Nat.le_of_ble_eq_true rfl⟩) rfl hl.1 (Nat.le_of_ble_eq_true rfl) rfl dX7_sieve_50 (fun H locs h => ?_)
          refine lv_istore (lv' := [(6, .int r14), (0, .ref (ad 0)), (1, .int x1), (2, .int x2), (3, .int x3), (4, .int x4), (5, .int x5)]) hx hb dX7_sieve_53 hl (by decide) rfl (fun ls hl => ?_)
          refine lv_iload hx hb dX7_sieve_55 (lv_at hl 0 rfl) ?_
          refine lv_if_eq (tgt := 67) hx hb dX7_sieve_57 (by decide) (fun c15 => ?_) (fun c15 => ?_)
          · have hf := tk_t c15 hf
            refine lv_aload_n hx hb dX7_sieve_67 rfl (lv_at hl 1 rfl) ?_
            refine x_get (v := .int (σ 0 10)) C h (gM_Mo κ ad (up2 σ 0 0 0)) rfl inX7_sieve_X7 10 (by decide) (hts _ lkX7_sieve_72) rfl dX7_sieve_68 ?_
            refine lv_if_ne (tgt := 77) hx hb dX7_sieve_71 (by decide) (fun c16 => ?_) (fun c16 => ?_)
            · have hf := tk_f c16 hf
              refine lv_iconst (v := 0) hx hb dX7_sieve_77 (by decide) ?_
              refine lv_istore (lv' := [(7, .int 0), (6, .int r14), (0, .ref (ad 0)), (1, .int x1), (2, .int x2), (3, .int x3), (4, .int x4), (5, .int x5)]) hx hb dX7_sieve_78 hl (by decide) rfl (fun ls hl => ?_)
              refine lv_iconst (v := 0) hx hb dX7_sieve_80 (by decide) ?_
              refine lv_istore (lv' := [(8, .int 0), (7, .int 0), (6, .int r14), (0, .ref (ad 0)), (1, .int x1), (2, .int x2), (3, .int x3), (4, .int x4), (5, .int x5)]) hx hb dX7_sieve_81 hl (by decide) rfl (fun ls hl => ?_)
              exact jX7_sieve_83 C x1 x3 x4 x5 1000 0 0 (up2 σ 0 0 0) _ _ _ h (lv_sub hl [3, 4, 6, 7, 8, 1, 0] rfl) hf
            · have hf := tk_t c16 hf
              refine lv_bipush (v := (-3)) hx hb dX7_sieve_74 (by decide) ?_
              obtain ⟨rfl, rfl⟩ := pr_ok hf
              exact x_iret C h dX7_sieve_76
          · have hf := tk_f c15 hf
            refine lv_aload_n hx hb dX7_sieve_60 rfl (lv_at hl 1 rfl) ?_
            refine lv_iload hx hb dX7_sieve_61 (lv_at hl 0 rfl) ?_
            refine x_vi (As := [.int r14]) (rest := []) C h (gM_Mo κ ad (up2 σ 0 0 0)) rfl (kX7_fails l D κ ad r14 (up2 σ 0 0 0) (r := (fX7_fails r14 (up2 σ 0 0 0)).1) (τ := (fX7_fails r14 (up2 σ 0 0 0)).2) rfl) (fun hts => cwV 1 hts gX7_sieve_X7_fails rfl rfl rfl (by decide +kernel) ⟨Nat.le_of_ble_eq_true rfl, Nat.le_of_ble_eq_true rfl⟩) rfl hl.1 (Nat.le_of_ble_eq_true rfl) rfl dX7_sieve_63 (fun H locs h => ?_)
            obtain ⟨rfl, rfl⟩ := pr_ok hf
            exact x_iret C h dX7_sieve_66
        · have hf := tk_t c12 hf
          refine lv_bipush (v := (-2)) hx hb dX7_sieve_41 (by decide) ?_
          obtain ⟨rfl, rfl⟩ := pr_ok hf
          exact x_iret C h dX7_sieve_43
  · have hf := tk_t c9 hf
    refine lv_iconst (v := (-1)) hx hb dX7_sieve_12 (by decide) ?_
    obtain ⟨rfl, rfl⟩ := pr_ok hf
    exact x_iret C h dX7_sieve_13

-- ===== X7_beginRows: ButtonMatchModel.beginRows(I)V
theorem lkX7_beginRows_49 : Cond.fieldLink RX7 49 "ButtonMatchModel" "row" "[I" ∈ wsX7_beginRows := by decide +kernel
theorem inX7_beginRows_X7 : ∀ w ∈ wsX70, w ∈ wsX7_beginRows := fun _ h => List.mem_cons_of_mem _ (List.mem_append_right _ h)
theorem lkX7_beginRows_187 : Cond.fieldLink RX7 187 "ButtonMatchModel" "rowLong" "I" ∈ wsX7_beginRows := by decide +kernel
def fX7_beginRows_7 (x1 : Int32) : Nat → Int32 → Sg → Option (Sg)
  | 0, _, _ => none
  | n + 1, x2, σ => (if x1 ≤ x2 then some σ else (if gIn x2 6 then fX7_beginRows_7 x1 n (x2 + 1) (up2 σ 14 x2.toNatClampNeg x2) else none))
set_option maxHeartbeats 4000000 in
set_option maxRecDepth 100000 in
theorem jX7_beginRows_7 {p : Program} {l : Launch} {e : Env} {s : State} {m : MethodId} {args : Array Value} {below : List Frame} {meth : Method} {c : Code} {D : va_G} {κ : Kp} {ad : Nat → Nat} {A : Nat → Prop} {τ : Sg} (C : Mc p s m args meth c cX7_beginRows 3 none wsX7_beginRows RX7 D κ A) (x1 : Int32) : ∀ (n : Nat) (x2 : Int32) (σ : Sg) (H : Heap) (locs : List Loc) (ls : Array Slot), Wd D (wsM κ ad) A s.heap H locs σ → lv_has ls 3 [(0, .ref (ad 0)), (1, .int x1), (2, .int x2)] → fX7_beginRows_7 x1 n x2 σ = some τ → W p l e { frames := 0, cells := 0, slots := 0, locals := 0 } s m args below meth c H locs 0 0 (Qv below args s D (wsM κ ad) A τ) (F0 m 7 ls []) := by
  obtain ⟨hx, hb, hml, hr, hlk, hown, hts, hK, hA, hZ⟩ := id C
  intro n
  induction n with
  | zero =>
    intro x2 σ H locs ls h hl hf
    rw [fX7_beginRows_7] at hf
    cases hf
  | succ n ih =>
    intro x2 σ H locs ls h hl hf
    rw [fX7_beginRows_7] at hf
    refine lv_iload_n hx hb dX7_beginRows_7 rfl (lv_at hl 2 rfl) ?_
    refine lv_iload_n hx hb dX7_beginRows_8 rfl (lv_at hl 1 rfl) ?_
    refine lv_icmp_ge (tgt := 25) hx hb dX7_beginRows_9 (by decide) (fun c1 => ?_) (fun c1 => ?_)
    · have hf := tk_t c1 hf
      obtain rfl := so_ok hf
      exact x_vret C h dX7_beginRows_25
    · have hf := tk_f c1 hf
      refine lv_aload_n hx hb dX7_beginRows_12 rfl (lv_at hl 0 rfl) ?_
      refine x_get (v := .ref (ad 14)) C h (gM_Mo κ ad σ) rfl inX7_beginRows_X7 28 (by decide) (hts _ lkX7_beginRows_49) rfl dX7_beginRows_13 ?_
      refine lv_iload_n hx hb dX7_beginRows_16 rfl (lv_at hl 2 rfl) ?_
      refine lv_iload_n hx hb dX7_beginRows_17 rfl (lv_at hl 2 rfl) ?_
      obtain ⟨g2, hf⟩ := gd_ok hf
      refine x_iast C h (gM_m_row κ ad σ) (sM_m_row κ ad σ x2.toNatClampNeg x2) g2 dX7_beginRows_18 (fun H locs h => ?_)
      refine lv_iinc (v := (x2 + 1)) (lv' := [(2, .int (x2 + 1)), (0, .ref (ad 0)), (1, .int x1)]) hx hb dX7_beginRows_19 hl (k := 2) rfl rfl (by decide) rfl (fun ls hl => ?_)
      refine lv_goto (tgt := 7) hx hb dX7_beginRows_22 (by decide) ?_
      exact ih (x2 + 1) (up2 σ 14 x2.toNatClampNeg x2) _ _ _ h (lv_sub hl [1, 2, 0] rfl) hf
def fX7_beginRows (x1 : Int32) (σ : Sg) : Option (Sg) :=
  fX7_beginRows_7 x1 1000 0 (up2 σ 0 27 x1)
set_option maxHeartbeats 4000000 in
set_option maxRecDepth 100000 in
theorem kX7_beginRows (l : Launch) (D : va_G) (κ : Kp) (ad : Nat → Nat) (x1 : Int32) (σ : Sg) {τ : Sg} (hf : fX7_beginRows x1 σ = some τ) : Cv l D κ (wsM κ ad) yX7_beginRows wsX7_beginRows 0 0 [.ref (ad 0), .int x1] σ τ := by
  refine Cv.of (cc := cX7_beginRows) (nL := 3) (ret := none) (by decide) rfl (Nat.le_of_ble_eq_true rfl) ?_
  intro p e s m below meth c A ls C h hl
  obtain ⟨hx, hb, hml, hr, hlk, hown, hts, hK, hA, hZ⟩ := id C
  have hl : lv_has ls 3 [(0, .ref (ad 0)), (1, .int x1)] := hl
  unfold fX7_beginRows at hf
  refine lv_aload_n hx hb dX7_beginRows_0 rfl (lv_at hl 0 rfl) ?_
  refine lv_iload_n hx hb dX7_beginRows_1 rfl (lv_at hl 1 rfl) ?_
  refine x_put C h (gM_Mo κ ad σ) rfl inX7_beginRows_X7 tyX7 tyX7_ok nmX7 27 (by decide) (hts _ lkX7_beginRows_187) rfl (tyX7_ok 27 (by decide)) (Nat.le_of_ble_eq_true rfl) (sM_Mo_27 κ ad σ x1) dX7_beginRows_2 (fun H locs h => ?_)
  refine lv_iconst (v := 0) hx hb dX7_beginRows_5 (by decide) ?_
  refine lv_istore_n (lv' := [(2, .int 0), (0, .ref (ad 0)), (1, .int x1)]) hx hb dX7_beginRows_6 rfl hl (by decide) rfl (fun ls hl => ?_)
  exact jX7_beginRows_7 C x1 1000 0 (up2 σ 0 27 x1) _ _ _ h (lv_sub hl [1, 2, 0] rfl) hf

-- ===== X7_quickOf: ButtonMatchModel.quickOf()I
theorem lkX7_quickOf_72 : Cond.fieldLink RX7 72 "ButtonMatchModel" "tubes" "I" ∈ wsX7_quickOf := by decide +kernel
theorem inX7_quickOf_X7 : ∀ w ∈ wsX70, w ∈ wsX7_quickOf := fun _ h => List.mem_cons_of_mem _ (List.mem_append_right _ h)
theorem lkX7_quickOf_49 : Cond.fieldLink RX7 49 "ButtonMatchModel" "row" "[I" ∈ wsX7_quickOf := by decide +kernel
def fX7_quickOf_9 (σ : Sg) : Nat → Int32 → Int32 → Int32 → Int32 → Option (Int32)
  | 0, _, _, _, _ => none
  | n + 1, x1, x2, x3, x4 => (if (σ 0 10) ≤ x4 then some x3 else (if gIn x4 6 then fX7_quickOf_9 σ n (σ 14 x4.toNatClampNeg) (x2 + ((fX7_apart x1 (σ 14 x4.toNatClampNeg) σ) + 1)) (x3 + (x2 + ((fX7_apart x1 (σ 14 x4.toNatClampNeg) σ) + 1))) (x4 + 1) else none))
set_option maxHeartbeats 4000000 in
set_option maxRecDepth 100000 in
theorem jX7_quickOf_9 {p : Program} {l : Launch} {e : Env} {s : State} {m : MethodId} {args : Array Value} {below : List Frame} {meth : Method} {c : Code} {D : va_G} {κ : Kp} {ad : Nat → Nat} {A : Nat → Prop} {r : Int32} (C : Mc p s m args meth c cX7_quickOf 5 (some .int) wsX7_quickOf RX7 D κ A) (σ : Sg) : ∀ (n : Nat) (x1 : Int32) (x2 : Int32) (x3 : Int32) (x4 : Int32) (H : Heap) (locs : List Loc) (ls : Array Slot), Wd D (wsM κ ad) A s.heap H locs σ → lv_has ls 5 [(0, .ref (ad 0)), (1, .int x1), (2, .int x2), (3, .int x3), (4, .int x4)] → fX7_quickOf_9 σ n x1 x2 x3 x4 = some r → W p l e { frames := 1, cells := 0, slots := 0, locals := 21 } s m args below meth c H locs 0 0 (Qi below args s D (wsM κ ad) A r σ) (F0 m 9 ls []) := by
  obtain ⟨hx, hb, hml, hr, hlk, hown, hts, hK, hA, hZ⟩ := id C
  intro n
  induction n with
  | zero =>
    intro x1 x2 x3 x4 H locs ls h hl hf
    rw [fX7_quickOf_9] at hf
    cases hf
  | succ n ih =>
    intro x1 x2 x3 x4 H locs ls h hl hf
    rw [fX7_quickOf_9] at hf
    refine lv_iload hx hb dX7_quickOf_9 (lv_at hl 4 rfl) ?_
    refine lv_aload_n hx hb dX7_quickOf_11 rfl (lv_at hl 0 rfl) ?_
    refine x_get (v := .int (σ 0 10)) C h (gM_Mo κ ad σ) rfl inX7_quickOf_X7 10 (by decide) (hts _ lkX7_quickOf_72) rfl dX7_quickOf_12 ?_
    refine lv_icmp_ge (tgt := 52) hx hb dX7_quickOf_15 (by decide) (fun c1 => ?_) (fun c1 => ?_)
    · have hf := tk_t c1 hf
      refine lv_iload_n hx hb dX7_quickOf_52 rfl (lv_at hl 3 rfl) ?_
      obtain rfl := so_ok hf
      exact x_iret C h dX7_quickOf_53
    · have hf := tk_f c1 hf
      refine lv_iload_n hx hb dX7_quickOf_18 rfl (lv_at hl 2 rfl) ?_
      refine lv_iload_n hx hb dX7_quickOf_19 rfl (lv_at hl 1 rfl) ?_
      refine lv_aload_n hx hb dX7_quickOf_20 rfl (lv_at hl 0 rfl) ?_
      refine x_get (v := .ref (ad 14)) C h (gM_Mo κ ad σ) rfl inX7_quickOf_X7 28 (by decide) (hts _ lkX7_quickOf_49) rfl dX7_quickOf_21 ?_
      refine lv_iload hx hb dX7_quickOf_24 (lv_at hl 4 rfl) ?_
      obtain ⟨g2, hf⟩ := gd_ok hf
      refine x_iald (v := (σ 14 x4.toNatClampNeg)) C h (gM_m_row κ ad σ) g2 rfl dX7_quickOf_26 ?_
      refine x_si (As := [.int x1, .int (σ 14 x4.toNatClampNeg)]) (rest := [.int x2]) C h (kX7_apart l D κ ad x1 (σ 14 x4.toNatClampNeg) σ (r := (fX7_apart x1 (σ 14 x4.toNatClampNeg) σ)) rfl) (fun hts => va_cwS 2 hts gX7_quickOf_X7_apart rfl rfl rfl (by decide +kernel) ⟨Nat.le_of_ble_eq_true rfl, Nat.le_of_ble_eq_true rfl⟩) rfl hl.1 (Nat.le_of_ble_eq_true rfl) rfl dX7_quickOf_27 (fun H locs h => ?_)
      refine lv_iconst (v := 1) hx hb dX7_quickOf_30 (by decide) ?_
      refine lv_iadd hx hb dX7_quickOf_31 ?_
      refine lv_iadd hx hb dX7_quickOf_32 ?_
      refine lv_istore_n (lv' := [(2, .int (x2 + ((fX7_apart x1 (σ 14 x4.toNatClampNeg) σ) + 1))), (0, .ref (ad 0)), (1, .int x1), (3, .int x3), (4, .int x4)]) hx hb dX7_quickOf_33 rfl hl (by decide) rfl (fun ls hl => ?_)
      refine lv_aload_n hx hb dX7_quickOf_34 rfl (lv_at hl 1 rfl) ?_
      refine x_get (v := .ref (ad 14)) C h (gM_Mo κ ad σ) rfl inX7_quickOf_X7 28 (by decide) (hts _ lkX7_quickOf_49) rfl dX7_quickOf_35 ?_
      refine lv_iload hx hb dX7_quickOf_38 (lv_at hl 4 rfl) ?_
      refine x_iald (v := (σ 14 x4.toNatClampNeg)) C h (gM_m_row κ ad σ) g2 rfl dX7_quickOf_40 ?_
      refine lv_istore_n (lv' := [(1, .int (σ 14 x4.toNatClampNeg)), (2, .int (x2 + ((fX7_apart x1 (σ 14 x4.toNatClampNeg) σ) + 1))), (0, .ref (ad 0)), (3, .int x3), (4, .int x4)]) hx hb dX7_quickOf_41 rfl hl (by decide) rfl (fun ls hl => ?_)
      refine lv_iload_n hx hb dX7_quickOf_42 rfl (lv_at hl 3 rfl) ?_
      refine lv_iload_n hx hb dX7_quickOf_43 rfl (lv_at hl 1 rfl) ?_
      refine lv_iadd hx hb dX7_quickOf_44 ?_
      refine lv_istore_n (lv' := [(3, .int (x3 + (x2 + ((fX7_apart x1 (σ 14 x4.toNatClampNeg) σ) + 1)))), (1, .int (σ 14 x4.toNatClampNeg)), (2, .int (x2 + ((fX7_apart x1 (σ 14 x4.toNatClampNeg) σ) + 1))), (0, .ref (ad 0)), (4, .int x4)]) hx hb dX7_quickOf_45 rfl hl (by decide) rfl (fun ls hl => ?_)
      refine lv_iinc (v := (x4 + 1)) (lv' := [(4, .int (x4 + 1)), (3, .int (x3 + (x2 + ((fX7_apart x1 (σ 14 x4.toNatClampNeg) σ) + 1)))), (1, .int (σ 14 x4.toNatClampNeg)), (2, .int (x2 + ((fX7_apart x1 (σ 14 x4.toNatClampNeg) σ) + 1))), (0, .ref (ad 0))]) hx hb dX7_quickOf_46 hl (k := 4) rfl rfl (by decide) rfl (fun ls hl => ?_)
      refine lv_goto (tgt := 9) hx hb dX7_quickOf_49 (by decide) ?_
      exact ih (σ 14 x4.toNatClampNeg) (x2 + ((fX7_apart x1 (σ 14 x4.toNatClampNeg) σ) + 1)) (x3 + (x2 + ((fX7_apart x1 (σ 14 x4.toNatClampNeg) σ) + 1))) (x4 + 1) _ _ _ h (lv_sub hl [4, 2, 3, 1, 0] rfl) hf
def fX7_quickOf (σ : Sg) : Option (Int32) :=
  fX7_quickOf_9 σ 1000 0 0 0 0
set_option maxHeartbeats 4000000 in
set_option maxRecDepth 100000 in
theorem kX7_quickOf (l : Launch) (D : va_G) (κ : Kp) (ad : Nat → Nat) (σ : Sg) {r : Int32} (hf : fX7_quickOf σ = some r) : Ci l D κ (wsM κ ad) yX7_quickOf wsX7_quickOf 1 21 [.ref (ad 0)] σ r σ := by
  refine Ci.of (cc := cX7_quickOf) (nL := 5) (ret := (some .int)) (by decide) rfl (Nat.le_of_ble_eq_true rfl) ?_
  intro p e s m below meth c A ls C h hl
  obtain ⟨hx, hb, hml, hr, hlk, hown, hts, hK, hA, hZ⟩ := id C
  have hl : lv_has ls 5 [(0, .ref (ad 0))] := hl
  unfold fX7_quickOf at hf
  refine lv_iconst (v := 0) hx hb dX7_quickOf_0 (by decide) ?_
  refine lv_istore_n (lv' := [(1, .int 0), (0, .ref (ad 0))]) hx hb dX7_quickOf_1 rfl hl (by decide) rfl (fun ls hl => ?_)
  refine lv_iconst (v := 0) hx hb dX7_quickOf_2 (by decide) ?_
  refine lv_istore_n (lv' := [(2, .int 0), (1, .int 0), (0, .ref (ad 0))]) hx hb dX7_quickOf_3 rfl hl (by decide) rfl (fun ls hl => ?_)
  refine lv_iconst (v := 0) hx hb dX7_quickOf_4 (by decide) ?_
  refine lv_istore_n (lv' := [(3, .int 0), (2, .int 0), (1, .int 0), (0, .ref (ad 0))]) hx hb dX7_quickOf_5 rfl hl (by decide) rfl (fun ls hl => ?_)
  refine lv_iconst (v := 0) hx hb dX7_quickOf_6 (by decide) ?_
  refine lv_istore (lv' := [(4, .int 0), (3, .int 0), (2, .int 0), (1, .int 0), (0, .ref (ad 0))]) hx hb dX7_quickOf_7 hl (by decide) rfl (fun ls hl => ?_)
  exact jX7_quickOf_9 C σ 1000 0 0 0 0 _ _ _ h (lv_sub hl [4, 3, 2, 1, 0] rfl) hf

-- ===== X7_signsOf: ButtonMatchModel.signsOf()I
theorem lkX7_signsOf_172 : Cond.fieldLink RX7 172 "ButtonMatchModel" "sieveSeconds" "I" ∈ wsX7_signsOf := by decide +kernel
theorem inX7_signsOf_X7 : ∀ w ∈ wsX70, w ∈ wsX7_signsOf := fun _ h => List.mem_cons_of_mem _ (List.mem_append_right _ h)
theorem lkX7_signsOf_46 : Cond.fieldLink RX7 46 "ButtonMatchModel" "sign" "[I" ∈ wsX7_signsOf := by decide +kernel
theorem lkX7_signsOf_49 : Cond.fieldLink RX7 49 "ButtonMatchModel" "row" "[I" ∈ wsX7_signsOf := by decide +kernel
theorem lkX7_signsOf_175 : Cond.fieldLink RX7 175 "ButtonMatchModel" "signs" "I" ∈ wsX7_signsOf := by decide +kernel
def fX7_signsOf_7 : Nat → Int32 → Sg → Option (Int32 × Sg)
  | 0, _, _ => none
  | n + 1, x1, σ => (if 3 ≤ x1 then ((fX7_sieveAll σ).bind fun q3 => some ((q3.2 0 26), q3.2)) else (if gIn x1 6 then (if gIn x1 3 then fX7_signsOf_7 n (x1 + 1) (up2 σ 13 x1.toNatClampNeg (σ 14 x1.toNatClampNeg)) else none) else none))
set_option maxHeartbeats 4000000 in
set_option maxRecDepth 100000 in
theorem jX7_signsOf_7 {p : Program} {l : Launch} {e : Env} {s : State} {m : MethodId} {args : Array Value} {below : List Frame} {meth : Method} {c : Code} {D : va_G} {κ : Kp} {ad : Nat → Nat} {A : Nat → Prop} {r : Int32} {τ : Sg} (C : Mc p s m args meth c cX7_signsOf 2 (some .int) wsX7_signsOf RX7 D κ A) : ∀ (n : Nat) (x1 : Int32) (σ : Sg) (H : Heap) (locs : List Loc) (ls : Array Slot), Wd D (wsM κ ad) A s.heap H locs σ → lv_has ls 2 [(0, .ref (ad 0)), (1, .int x1)] → fX7_signsOf_7  n x1 σ = some (r, τ) → W p l e { frames := 3, cells := 0, slots := 0, locals := 67 } s m args below meth c H locs 0 0 (Qi below args s D (wsM κ ad) A r τ) (F0 m 7 ls []) := by
  obtain ⟨hx, hb, hml, hr, hlk, hown, hts, hK, hA, hZ⟩ := id C
  intro n
  induction n with
  | zero =>
    intro x1 σ H locs ls h hl hf
    rw [fX7_signsOf_7] at hf
    cases hf
  | succ n ih =>
    intro x1 σ H locs ls h hl hf
    rw [fX7_signsOf_7] at hf
    refine lv_iload_n hx hb dX7_signsOf_7 rfl (lv_at hl 1 rfl) ?_
    refine lv_iconst (v := 3) hx hb dX7_signsOf_8 (by decide) ?_
    refine lv_icmp_ge (tgt := 30) hx hb dX7_signsOf_9 (by decide) (fun c1 => ?_) (fun c1 => ?_)
    · have hf := tk_t c1 hf
      refine lv_aload_n hx hb dX7_signsOf_30 rfl (lv_at hl 0 rfl) ?_
      obtain ⟨q3, hg2, hf⟩ := bd_ok hf
      refine x_vi (As := []) (rest := []) C h (gM_Mo κ ad σ) rfl (kX7_sieveAll l D κ ad σ (r := q3.1) (τ := q3.2) hg2) (fun hts => cwV 0 hts gX7_signsOf_X7_sieveAll rfl rfl rfl (by decide +kernel) ⟨Nat.le_of_ble_eq_true rfl, Nat.le_of_ble_eq_true rfl⟩) rfl hl.1 (Nat.le_of_ble_eq_true rfl) rfl dX7_signsOf_31 (fun H locs h => ?_)
      refine lv_pop hx hb dX7_signsOf_34 rfl ?_
      refine lv_aload_n hx hb dX7_signsOf_35 rfl (lv_at hl 0 rfl) ?_
      refine x_get (v := .int (q3.2 0 26)) C h (gM_Mo κ ad q3.2) rfl inX7_signsOf_X7 26 (by decide) (hts _ lkX7_signsOf_172) rfl dX7_signsOf_36 ?_
      obtain ⟨rfl, rfl⟩ := pr_ok hf
      exact x_iret C h dX7_signsOf_39
    · have hf := tk_f c1 hf
      refine lv_aload_n hx hb dX7_signsOf_12 rfl (lv_at hl 0 rfl) ?_
      refine x_get (v := .ref (ad 13)) C h (gM_Mo κ ad σ) rfl inX7_signsOf_X7 25 (by decide) (hts _ lkX7_signsOf_46) rfl dX7_signsOf_13 ?_
      refine lv_iload_n hx hb dX7_signsOf_16 rfl (lv_at hl 1 rfl) ?_
      refine lv_aload_n hx hb dX7_signsOf_17 rfl (lv_at hl 0 rfl) ?_
      refine x_get (v := .ref (ad 14)) C h (gM_Mo κ ad σ) rfl inX7_signsOf_X7 28 (by decide) (hts _ lkX7_signsOf_49) rfl dX7_signsOf_18 ?_
      refine lv_iload_n hx hb dX7_signsOf_21 rfl (lv_at hl 1 rfl) ?_
      obtain ⟨g4, hf⟩ := gd_ok hf
      refine x_iald (v := (σ 14 x1.toNatClampNeg)) C h (gM_m_row κ ad σ) g4 rfl dX7_signsOf_22 ?_
      obtain ⟨g5, hf⟩ := gd_ok hf
      refine x_iast C h (gM_m_sign κ ad σ) (sM_m_sign κ ad σ x1.toNatClampNeg (σ 14 x1.toNatClampNeg)) g5 dX7_signsOf_23 (fun H locs h => ?_)
      refine lv_iinc (v := (x1 + 1)) (lv' := [(1, .int (x1 + 1)), (0, .ref (ad 0))]) hx hb dX7_signsOf_24 hl (k := 1) rfl rfl (by decide) rfl (fun ls hl => ?_)
      refine lv_goto (tgt := 7) hx hb dX7_signsOf_27 (by decide) ?_
      exact ih (x1 + 1) (up2 σ 13 x1.toNatClampNeg (σ 14 x1.toNatClampNeg)) _ _ _ h (lv_sub hl [1, 0] rfl) hf
def fX7_signsOf (σ : Sg) : Option (Int32 × Sg) :=
  fX7_signsOf_7 1000 0 (up2 σ 0 24 3)
set_option maxHeartbeats 4000000 in
set_option maxRecDepth 100000 in
theorem kX7_signsOf (l : Launch) (D : va_G) (κ : Kp) (ad : Nat → Nat) (σ : Sg) {r : Int32} {τ : Sg} (hf : fX7_signsOf σ = some (r, τ)) : Ci l D κ (wsM κ ad) yX7_signsOf wsX7_signsOf 3 67 [.ref (ad 0)] σ r τ := by
  refine Ci.of (cc := cX7_signsOf) (nL := 2) (ret := (some .int)) (by decide) rfl (Nat.le_of_ble_eq_true rfl) ?_
  intro p e s m below meth c A ls C h hl
  obtain ⟨hx, hb, hml, hr, hlk, hown, hts, hK, hA, hZ⟩ := id C
  have hl : lv_has ls 2 [(0, .ref (ad 0))] := hl
  unfold fX7_signsOf at hf
  refine lv_aload_n hx hb dX7_signsOf_0 rfl (lv_at hl 0 rfl) ?_
  refine lv_iconst (v := 3) hx hb dX7_signsOf_1 (by decide) ?_
  refine x_put C h (gM_Mo κ ad σ) rfl inX7_signsOf_X7 tyX7 tyX7_ok nmX7 24 (by decide) (hts _ lkX7_signsOf_175) rfl (tyX7_ok 24 (by decide)) (Nat.le_of_ble_eq_true rfl) (sM_Mo_24 κ ad σ 3) dX7_signsOf_2 (fun H locs h => ?_)
  refine lv_iconst (v := 0) hx hb dX7_signsOf_5 (by decide) ?_
  refine lv_istore_n (lv' := [(1, .int 0), (0, .ref (ad 0))]) hx hb dX7_signsOf_6 rfl hl (by decide) rfl (fun ls hl => ?_)
  exact jX7_signsOf_7 C 1000 0 (up2 σ 0 24 3) _ _ _ h (lv_sub hl [1, 0] rfl) hf

-- ===== X7_swap: ButtonMatchModel.swap(II)V
theorem lkX7_swap_49 : Cond.fieldLink RX7 49 "ButtonMatchModel" "row" "[I" ∈ wsX7_swap := by decide +kernel
theorem inX7_swap_X7 : ∀ w ∈ wsX70, w ∈ wsX7_swap := fun _ h => List.mem_cons_of_mem _ (List.mem_append_right _ h)
def fX7_swap (x1 : Int32) (x2 : Int32) (σ : Sg) : Option (Sg) :=
  (if gIn x1 6 then (if gIn x2 6 then some (up2 (up2 σ 14 x1.toNatClampNeg (σ 14 x2.toNatClampNeg)) 14 x2.toNatClampNeg (σ 14 x1.toNatClampNeg)) else none) else none)
set_option maxHeartbeats 4000000 in
set_option maxRecDepth 100000 in
theorem kX7_swap (l : Launch) (D : va_G) (κ : Kp) (ad : Nat → Nat) (x1 : Int32) (x2 : Int32) (σ : Sg) {τ : Sg} (hf : fX7_swap x1 x2 σ = some τ) : Cv l D κ (wsM κ ad) yX7_swap wsX7_swap 0 0 [.ref (ad 0), .int x1, .int x2] σ τ := by
  refine Cv.of (cc := cX7_swap) (nL := 4) (ret := none) (by decide) rfl (Nat.le_of_ble_eq_true rfl) ?_
  intro p e s m below meth c A ls C h hl
  obtain ⟨hx, hb, hml, hr, hlk, hown, hts, hK, hA, hZ⟩ := id C
  have hl : lv_has ls 4 [(0, .ref (ad 0)), (1, .int x1), (2, .int x2)] := hl
  unfold fX7_swap at hf
  refine lv_aload_n hx hb dX7_swap_0 rfl (lv_at hl 0 rfl) ?_
  refine x_get (v := .ref (ad 14)) C h (gM_Mo κ ad σ) rfl inX7_swap_X7 28 (by decide) (hts _ lkX7_swap_49) rfl dX7_swap_1 ?_
  refine lv_iload_n hx hb dX7_swap_4 rfl (lv_at hl 1 rfl) ?_
  obtain ⟨g1, hf⟩ := gd_ok hf
  refine x_iald (v := (σ 14 x1.toNatClampNeg)) C h (gM_m_row κ ad σ) g1 rfl dX7_swap_5 ?_
  refine lv_istore_n (lv' := [(3, .int (σ 14 x1.toNatClampNeg)), (0, .ref (ad 0)), (1, .int x1), (2, .int x2)]) hx hb dX7_swap_6 rfl hl (by decide) rfl (fun ls hl => ?_)
  refine lv_aload_n hx hb dX7_swap_7 rfl (lv_at hl 1 rfl) ?_
  refine x_get (v := .ref (ad 14)) C h (gM_Mo κ ad σ) rfl inX7_swap_X7 28 (by decide) (hts _ lkX7_swap_49) rfl dX7_swap_8 ?_
  refine lv_iload_n hx hb dX7_swap_11 rfl (lv_at hl 2 rfl) ?_
  refine lv_aload_n hx hb dX7_swap_12 rfl (lv_at hl 1 rfl) ?_
  refine x_get (v := .ref (ad 14)) C h (gM_Mo κ ad σ) rfl inX7_swap_X7 28 (by decide) (hts _ lkX7_swap_49) rfl dX7_swap_13 ?_
  refine lv_iload_n hx hb dX7_swap_16 rfl (lv_at hl 3 rfl) ?_
  obtain ⟨g2, hf⟩ := gd_ok hf
  refine x_iald (v := (σ 14 x2.toNatClampNeg)) C h (gM_m_row κ ad σ) g2 rfl dX7_swap_17 ?_
  refine x_iast C h (gM_m_row κ ad σ) (sM_m_row κ ad σ x1.toNatClampNeg (σ 14 x2.toNatClampNeg)) g1 dX7_swap_18 (fun H locs h => ?_)
  refine lv_aload_n hx hb dX7_swap_19 rfl (lv_at hl 1 rfl) ?_
  refine x_get (v := .ref (ad 14)) C h (gM_Mo κ ad (up2 σ 14 x1.toNatClampNeg (σ 14 x2.toNatClampNeg))) rfl inX7_swap_X7 28 (by decide) (hts _ lkX7_swap_49) rfl dX7_swap_20 ?_
  refine lv_iload_n hx hb dX7_swap_23 rfl (lv_at hl 3 rfl) ?_
  refine lv_iload_n hx hb dX7_swap_24 rfl (lv_at hl 0 rfl) ?_
  refine x_iast C h (gM_m_row κ ad (up2 σ 14 x1.toNatClampNeg (σ 14 x2.toNatClampNeg))) (sM_m_row κ ad (up2 σ 14 x1.toNatClampNeg (σ 14 x2.toNatClampNeg)) x2.toNatClampNeg (σ 14 x1.toNatClampNeg)) g2 dX7_swap_25 (fun H locs h => ?_)
  obtain rfl := so_ok hf
  exact x_vret C h dX7_swap_26

-- ===== X7_nextRow: ButtonMatchModel.nextRow()Z
theorem lkX7_nextRow_49 : Cond.fieldLink RX7 49 "ButtonMatchModel" "row" "[I" ∈ wsX7_nextRow := by decide +kernel
theorem inX7_nextRow_X7 : ∀ w ∈ wsX70, w ∈ wsX7_nextRow := fun _ h => List.mem_cons_of_mem _ (List.mem_append_right _ h)
theorem lkX7_nextRow_187 : Cond.fieldLink RX7 187 "ButtonMatchModel" "rowLong" "I" ∈ wsX7_nextRow := by decide +kernel
def fX7_nextRow_86 : Nat → Int32 → Int32 → Sg → Option (Int32 × Sg)
  | 0, _, _, _ => none
  | n + 1, x3, x4, σ => (if x4 ≤ x3 then some (1, σ) else ((fX7_swap x3 x4 σ).bind fun τ3 => fX7_nextRow_86 n (x3 + 1) (x4 + (-1)) τ3))
set_option maxHeartbeats 4000000 in
set_option maxRecDepth 100000 in
theorem jX7_nextRow_86 {p : Program} {l : Launch} {e : Env} {s : State} {m : MethodId} {args : Array Value} {below : List Frame} {meth : Method} {c : Code} {D : va_G} {κ : Kp} {ad : Nat → Nat} {A : Nat → Prop} {r : Int32} {τ : Sg} (C : Mc p s m args meth c cX7_nextRow 5 (some .boolean) wsX7_nextRow RX7 D κ A) : ∀ (n : Nat) (x3 : Int32) (x4 : Int32) (σ : Sg) (H : Heap) (locs : List Loc) (ls : Array Slot), Wd D (wsM κ ad) A s.heap H locs σ → lv_has ls 5 [(0, .ref (ad 0)), (3, .int x3), (4, .int x4)] → fX7_nextRow_86  n x3 x4 σ = some (r, τ) → W p l e { frames := 1, cells := 0, slots := 0, locals := 23 } s m args below meth c H locs 0 0 (Qi below args s D (wsM κ ad) A r τ) (F0 m 86 ls []) := by
  obtain ⟨hx, hb, hml, hr, hlk, hown, hts, hK, hA, hZ⟩ := id C
  intro n
  induction n with
  | zero =>
    intro x3 x4 σ H locs ls h hl hf
    rw [fX7_nextRow_86] at hf
    cases hf
  | succ n ih =>
    intro x3 x4 σ H locs ls h hl hf
    rw [fX7_nextRow_86] at hf
    refine lv_iload_n hx hb dX7_nextRow_86 rfl (lv_at hl 1 rfl) ?_
    refine lv_iload hx hb dX7_nextRow_87 (lv_at hl 2 rfl) ?_
    refine lv_icmp_ge (tgt := 108) hx hb dX7_nextRow_89 (by decide) (fun c1 => ?_) (fun c1 => ?_)
    · have hf := tk_t c1 hf
      refine lv_iconst (v := 1) hx hb dX7_nextRow_108 (by decide) ?_
      obtain ⟨rfl, rfl⟩ := pr_ok hf
      exact x_zret C rfl h dX7_nextRow_109
    · have hf := tk_f c1 hf
      refine lv_aload_n hx hb dX7_nextRow_92 rfl (lv_at hl 0 rfl) ?_
      refine lv_iload_n hx hb dX7_nextRow_93 rfl (lv_at hl 1 rfl) ?_
      refine lv_iload hx hb dX7_nextRow_94 (lv_at hl 2 rfl) ?_
      obtain ⟨τ3, hg2, hf⟩ := bd_ok hf
      refine x_vv (As := [.int x3, .int x4]) (rest := []) C h (gM_Mo κ ad σ) rfl (kX7_swap l D κ ad x3 x4 σ (τ := τ3) hg2) (fun hts => cwV 2 hts gX7_nextRow_X7_swap rfl rfl rfl (by decide +kernel) ⟨Nat.le_of_ble_eq_true rfl, Nat.le_of_ble_eq_true rfl⟩) rfl hl.1 (Nat.le_of_ble_eq_true rfl) rfl dX7_nextRow_96 (fun H locs h => ?_)
      refine lv_iinc (v := (x3 + 1)) (lv' := [(3, .int (x3 + 1)), (0, .ref (ad 0)), (4, .int x4)]) hx hb dX7_nextRow_99 hl (k := 1) rfl rfl (by decide) rfl (fun ls hl => ?_)
      refine lv_iinc (v := (x4 + (-1))) (lv' := [(4, .int (x4 + (-1))), (3, .int (x3 + 1)), (0, .ref (ad 0))]) hx hb dX7_nextRow_102 hl (k := 2) rfl rfl (by decide) rfl (fun ls hl => ?_)
      refine lv_goto (tgt := 86) hx hb dX7_nextRow_105 (by decide) ?_
      exact ih (x3 + 1) (x4 + (-1)) τ3 _ _ _ h (lv_sub hl [2, 1, 0] rfl) hf
def fX7_nextRow_47 (x1 : Int32) : Nat → Int32 → Sg → Option (Int32 × Sg)
  | 0, _, _ => none
  | n + 1, x2, σ => (if gIn x2 6 then (if gIn x1 6 then (if (σ 14 x1.toNatClampNeg) ≤ (σ 14 x2.toNatClampNeg) then ((fX7_swap x1 x2 σ).bind fun τ8 => fX7_nextRow_86 1000 (x1 + 1) ((τ8 0 27) - 1) τ8) else fX7_nextRow_47 x1 n (x2 + (-1)) σ) else none) else none)
set_option maxHeartbeats 4000000 in
set_option maxRecDepth 100000 in
theorem jX7_nextRow_47 {p : Program} {l : Launch} {e : Env} {s : State} {m : MethodId} {args : Array Value} {below : List Frame} {meth : Method} {c : Code} {D : va_G} {κ : Kp} {ad : Nat → Nat} {A : Nat → Prop} {r : Int32} {τ : Sg} (C : Mc p s m args meth c cX7_nextRow 5 (some .boolean) wsX7_nextRow RX7 D κ A) (x1 : Int32) : ∀ (n : Nat) (x2 : Int32) (σ : Sg) (H : Heap) (locs : List Loc) (ls : Array Slot), Wd D (wsM κ ad) A s.heap H locs σ → lv_has ls 5 [(0, .ref (ad 0)), (1, .int x1), (2, .int x2)] → fX7_nextRow_47 x1 n x2 σ = some (r, τ) → W p l e { frames := 1, cells := 0, slots := 0, locals := 23 } s m args below meth c H locs 0 0 (Qi below args s D (wsM κ ad) A r τ) (F0 m 47 ls []) := by
  obtain ⟨hx, hb, hml, hr, hlk, hown, hts, hK, hA, hZ⟩ := id C
  intro n
  induction n with
  | zero =>
    intro x2 σ H locs ls h hl hf
    rw [fX7_nextRow_47] at hf
    cases hf
  | succ n ih =>
    intro x2 σ H locs ls h hl hf
    rw [fX7_nextRow_47] at hf
    refine lv_aload_n hx hb dX7_nextRow_47 rfl (lv_at hl 0 rfl) ?_
    refine x_get (v := .ref (ad 14)) C h (gM_Mo κ ad σ) rfl inX7_nextRow_X7 28 (by decide) (hts _ lkX7_nextRow_49) rfl dX7_nextRow_48 ?_
    refine lv_iload_n hx hb dX7_nextRow_51 rfl (lv_at hl 2 rfl) ?_
    obtain ⟨g4, hf⟩ := gd_ok hf
    refine x_iald (v := (σ 14 x2.toNatClampNeg)) C h (gM_m_row κ ad σ) g4 rfl dX7_nextRow_52 ?_
    refine lv_aload_n hx hb dX7_nextRow_53 rfl (lv_at hl 0 rfl) ?_
    refine x_get (v := .ref (ad 14)) C h (gM_Mo κ ad σ) rfl inX7_nextRow_X7 28 (by decide) (hts _ lkX7_nextRow_49) rfl dX7_nextRow_54 ?_
    refine lv_iload_n hx hb dX7_nextRow_57 rfl (lv_at hl 1 rfl) ?_
    obtain ⟨g5, hf⟩ := gd_ok hf
    refine x_iald (v := (σ 14 x1.toNatClampNeg)) C h (gM_m_row κ ad σ) g5 rfl dX7_nextRow_58 ?_
    refine lv_icmp_ge (tgt := 68) hx hb dX7_nextRow_59 (by decide) (fun c6 => ?_) (fun c6 => ?_)
    · have hf := tk_t c6 hf
      refine lv_aload_n hx hb dX7_nextRow_68 rfl (lv_at hl 0 rfl) ?_
      refine lv_iload_n hx hb dX7_nextRow_69 rfl (lv_at hl 1 rfl) ?_
      refine lv_iload_n hx hb dX7_nextRow_70 rfl (lv_at hl 2 rfl) ?_
      obtain ⟨τ8, hg7, hf⟩ := bd_ok hf
      refine x_vv (As := [.int x1, .int x2]) (rest := []) C h (gM_Mo κ ad σ) rfl (kX7_swap l D κ ad x1 x2 σ (τ := τ8) hg7) (fun hts => cwV 2 hts gX7_nextRow_X7_swap rfl rfl rfl (by decide +kernel) ⟨Nat.le_of_ble_eq_true rfl, Nat.le_of_ble_eq_true rfl⟩) rfl hl.1 (Nat.le_of_ble_eq_true rfl) rfl dX7_nextRow_71 (fun H locs h => ?_)
      refine lv_iload_n hx hb dX7_nextRow_74 rfl (lv_at hl 1 rfl) ?_
      refine lv_iconst (v := 1) hx hb dX7_nextRow_75 (by decide) ?_
      refine lv_iadd hx hb dX7_nextRow_76 ?_
      refine lv_istore_n (lv' := [(3, .int (x1 + 1)), (0, .ref (ad 0)), (1, .int x1), (2, .int x2)]) hx hb dX7_nextRow_77 rfl hl (by decide) rfl (fun ls hl => ?_)
      refine lv_aload_n hx hb dX7_nextRow_78 rfl (lv_at hl 1 rfl) ?_
      refine x_get (v := .int (τ8 0 27)) C h (gM_Mo κ ad τ8) rfl inX7_nextRow_X7 27 (by decide) (hts _ lkX7_nextRow_187) rfl dX7_nextRow_79 ?_
      refine lv_iconst (v := 1) hx hb dX7_nextRow_82 (by decide) ?_
      refine lv_isub hx hb dX7_nextRow_83 ?_
      refine lv_istore (lv' := [(4, .int ((τ8 0 27) - 1)), (3, .int (x1 + 1)), (0, .ref (ad 0)), (1, .int x1), (2, .int x2)]) hx hb dX7_nextRow_84 hl (by decide) rfl (fun ls hl => ?_)
      exact jX7_nextRow_86 C 1000 (x1 + 1) ((τ8 0 27) - 1) τ8 _ _ _ h (lv_sub hl [2, 1, 0] rfl) hf
    · have hf := tk_f c6 hf
      refine lv_iinc (v := (x2 + (-1))) (lv' := [(2, .int (x2 + (-1))), (0, .ref (ad 0)), (1, .int x1)]) hx hb dX7_nextRow_62 hl (k := 2) rfl rfl (by decide) rfl (fun ls hl => ?_)
      refine lv_goto (tgt := 47) hx hb dX7_nextRow_65 (by decide) ?_
      exact ih (x2 + (-1)) σ _ _ _ h (lv_sub hl [1, 2, 0] rfl) hf
def fX7_nextRow_34 (x1 : Int32) (σ : Sg) : Option (Int32 × Sg) :=
  (if 0 ≤ x1 then fX7_nextRow_47 x1 1000 ((σ 0 27) - 1) σ else some (0, σ))
set_option maxHeartbeats 4000000 in
set_option maxRecDepth 100000 in
theorem jX7_nextRow_34 {p : Program} {l : Launch} {e : Env} {s : State} {m : MethodId} {args : Array Value} {below : List Frame} {meth : Method} {c : Code} {D : va_G} {κ : Kp} {ad : Nat → Nat} {A : Nat → Prop} {r : Int32} {τ : Sg} (C : Mc p s m args meth c cX7_nextRow 5 (some .boolean) wsX7_nextRow RX7 D κ A) (x1 : Int32) (σ : Sg) (H : Heap) (locs : List Loc) (ls : Array Slot) (h : Wd D (wsM κ ad) A s.heap H locs σ) (hl : lv_has ls 5 [(0, .ref (ad 0)), (1, .int x1)]) (hf : fX7_nextRow_34  x1 σ = some (r, τ)) : W p l e { frames := 1, cells := 0, slots := 0, locals := 23 } s m args below meth c H locs 0 0 (Qi below args s D (wsM κ ad) A r τ) (F0 m 34 ls []) := by
  obtain ⟨hx, hb, hml, hr, hlk, hown, hts, hK, hA, hZ⟩ := id C
  unfold fX7_nextRow_34 at hf
  refine lv_iload_n hx hb dX7_nextRow_34 rfl (lv_at hl 1 rfl) ?_
  refine lv_if_ge (tgt := 40) hx hb dX7_nextRow_35 (by decide) (fun c9 => ?_) (fun c9 => ?_)
  · have hf := tk_t c9 hf
    refine lv_aload_n hx hb dX7_nextRow_40 rfl (lv_at hl 0 rfl) ?_
    refine x_get (v := .int (σ 0 27)) C h (gM_Mo κ ad σ) rfl inX7_nextRow_X7 27 (by decide) (hts _ lkX7_nextRow_187) rfl dX7_nextRow_41 ?_
    refine lv_iconst (v := 1) hx hb dX7_nextRow_44 (by decide) ?_
    refine lv_isub hx hb dX7_nextRow_45 ?_
    refine lv_istore_n (lv' := [(2, .int ((σ 0 27) - 1)), (0, .ref (ad 0)), (1, .int x1)]) hx hb dX7_nextRow_46 rfl hl (by decide) rfl (fun ls hl => ?_)
    exact jX7_nextRow_47 C x1 1000 ((σ 0 27) - 1) σ _ _ _ h (lv_sub hl [1, 2, 0] rfl) hf
  · have hf := tk_f c9 hf
    refine lv_iconst (v := 0) hx hb dX7_nextRow_38 (by decide) ?_
    obtain ⟨rfl, rfl⟩ := pr_ok hf
    exact x_zret C rfl h dX7_nextRow_39
def fX7_nextRow_7 : Nat → Int32 → Sg → Option (Int32 × Sg)
  | 0, _, _ => none
  | n + 1, x1, σ => (if x1 < 0 then fX7_nextRow_34 x1 σ else (if gIn x1 6 then (if gIn (x1 + 1) 6 then (if (σ 14 x1.toNatClampNeg) ≤ (σ 14 ((x1 + 1).toNatClampNeg)) then fX7_nextRow_34 x1 σ else fX7_nextRow_7 n (x1 + (-1)) σ) else none) else none))
set_option maxHeartbeats 4000000 in
set_option maxRecDepth 100000 in
theorem jX7_nextRow_7 {p : Program} {l : Launch} {e : Env} {s : State} {m : MethodId} {args : Array Value} {below : List Frame} {meth : Method} {c : Code} {D : va_G} {κ : Kp} {ad : Nat → Nat} {A : Nat → Prop} {r : Int32} {τ : Sg} (C : Mc p s m args meth c cX7_nextRow 5 (some .boolean) wsX7_nextRow RX7 D κ A) : ∀ (n : Nat) (x1 : Int32) (σ : Sg) (H : Heap) (locs : List Loc) (ls : Array Slot), Wd D (wsM κ ad) A s.heap H locs σ → lv_has ls 5 [(0, .ref (ad 0)), (1, .int x1)] → fX7_nextRow_7  n x1 σ = some (r, τ) → W p l e { frames := 1, cells := 0, slots := 0, locals := 23 } s m args below meth c H locs 0 0 (Qi below args s D (wsM κ ad) A r τ) (F0 m 7 ls []) := by
  obtain ⟨hx, hb, hml, hr, hlk, hown, hts, hK, hA, hZ⟩ := id C
  intro n
  induction n with
  | zero =>
    intro x1 σ H locs ls h hl hf
    rw [fX7_nextRow_7] at hf
    cases hf
  | succ n ih =>
    intro x1 σ H locs ls h hl hf
    rw [fX7_nextRow_7] at hf
    refine lv_iload_n hx hb dX7_nextRow_7 rfl (lv_at hl 1 rfl) ?_
    refine lv_if_lt (tgt := 34) hx hb dX7_nextRow_8 (by decide) (fun c10 => ?_) (fun c10 => ?_)
    · have hf := tk_t c10 hf
      exact jX7_nextRow_34 C x1 σ _ _ _ h (lv_sub hl [0, 1] rfl) hf
    · have hf := tk_f c10 hf
      refine lv_aload_n hx hb dX7_nextRow_11 rfl (lv_at hl 0 rfl) ?_
      refine x_get (v := .ref (ad 14)) C h (gM_Mo κ ad σ) rfl inX7_nextRow_X7 28 (by decide) (hts _ lkX7_nextRow_49) rfl dX7_nextRow_12 ?_
      refine lv_iload_n hx hb dX7_nextRow_15 rfl (lv_at hl 1 rfl) ?_
      obtain ⟨g11, hf⟩ := gd_ok hf
      refine x_iald (v := (σ 14 x1.toNatClampNeg)) C h (gM_m_row κ ad σ) g11 rfl dX7_nextRow_16 ?_
      refine lv_aload_n hx hb dX7_nextRow_17 rfl (lv_at hl 0 rfl) ?_
      refine x_get (v := .ref (ad 14)) C h (gM_Mo κ ad σ) rfl inX7_nextRow_X7 28 (by decide) (hts _ lkX7_nextRow_49) rfl dX7_nextRow_18 ?_
      refine lv_iload_n hx hb dX7_nextRow_21 rfl (lv_at hl 1 rfl) ?_
      refine lv_iconst (v := 1) hx hb dX7_nextRow_22 (by decide) ?_
      refine lv_iadd hx hb dX7_nextRow_23 ?_
      obtain ⟨g12, hf⟩ := gd_ok hf
      refine x_iald (v := (σ 14 ((x1 + 1).toNatClampNeg))) C h (gM_m_row κ ad σ) g12 rfl dX7_nextRow_24 ?_
      refine lv_icmp_le (tgt := 34) hx hb dX7_nextRow_25 (by decide) (fun c13 => ?_) (fun c13 => ?_)
      · have hf := tk_t c13 hf
        exact jX7_nextRow_34 C x1 σ _ _ _ h (lv_sub hl [0, 1] rfl) hf
      · have hf := tk_f c13 hf
        refine lv_iinc (v := (x1 + (-1))) (lv' := [(1, .int (x1 + (-1))), (0, .ref (ad 0))]) hx hb dX7_nextRow_28 hl (k := 1) rfl rfl (by decide) rfl (fun ls hl => ?_)
        refine lv_goto (tgt := 7) hx hb dX7_nextRow_31 (by decide) ?_
        exact ih (x1 + (-1)) σ _ _ _ h (lv_sub hl [1, 0] rfl) hf
def fX7_nextRow (σ : Sg) : Option (Int32 × Sg) :=
  fX7_nextRow_7 1000 ((σ 0 27) - 2) σ
set_option maxHeartbeats 4000000 in
set_option maxRecDepth 100000 in
theorem kX7_nextRow (l : Launch) (D : va_G) (κ : Kp) (ad : Nat → Nat) (σ : Sg) {r : Int32} {τ : Sg} (hf : fX7_nextRow σ = some (r, τ)) : Ci l D κ (wsM κ ad) yX7_nextRow wsX7_nextRow 1 23 [.ref (ad 0)] σ r τ := by
  refine Ci.of (cc := cX7_nextRow) (nL := 5) (ret := (some .boolean)) (by decide) rfl (Nat.le_of_ble_eq_true rfl) ?_
  intro p e s m below meth c A ls C h hl
  obtain ⟨hx, hb, hml, hr, hlk, hown, hts, hK, hA, hZ⟩ := id C
  have hl : lv_has ls 5 [(0, .ref (ad 0))] := hl
  unfold fX7_nextRow at hf
  refine lv_aload_n hx hb dX7_nextRow_0 rfl (lv_at hl 0 rfl) ?_
  refine x_get (v := .int (σ 0 27)) C h (gM_Mo κ ad σ) rfl inX7_nextRow_X7 27 (by decide) (hts _ lkX7_nextRow_187) rfl dX7_nextRow_1 ?_
  refine lv_iconst (v := 2) hx hb dX7_nextRow_4 (by decide) ?_
  refine lv_isub hx hb dX7_nextRow_5 ?_
  refine lv_istore_n (lv' := [(1, .int ((σ 0 27) - 2)), (0, .ref (ad 0))]) hx hb dX7_nextRow_6 rfl hl (by decide) rfl (fun ls hl => ?_)
  exact jX7_nextRow_7 C 1000 ((σ 0 27) - 2) σ _ _ _ h (lv_sub hl [1, 0] rfl) hf

-- ===== X7_findRow: ButtonMatchModel.findRow(Z)I
theorem lkX7_findRow_187 : Cond.fieldLink RX7 187 "ButtonMatchModel" "rowLong" "I" ∈ wsX7_findRow := by decide +kernel
theorem inX7_findRow_X7 : ∀ w ∈ wsX70, w ∈ wsX7_findRow := fun _ h => List.mem_cons_of_mem _ (List.mem_append_right _ h)
theorem lkX7_findRow_52 : Cond.fieldLink RX7 52 "ButtonMatchModel" "found" "[I" ∈ wsX7_findRow := by decide +kernel
theorem lkX7_findRow_49 : Cond.fieldLink RX7 49 "ButtonMatchModel" "row" "[I" ∈ wsX7_findRow := by decide +kernel
theorem lkX7_findRow_72 : Cond.fieldLink RX7 72 "ButtonMatchModel" "tubes" "I" ∈ wsX7_findRow := by decide +kernel
def fX7_findRow_60 (x1 : Int32) (x2 : Int32) (K21 : Int32 → Int32 → Sg → Option (Int32 × Sg)) : Nat → Int32 → Sg → Option (Int32 × Sg)
  | 0, _, _ => none
  | n + 1, x5, σ => (if (σ 0 27) ≤ x5 then ((fX7_nextRow σ).bind fun q3 => K21 x2 q3.1 q3.2) else (if gIn x5 6 then fX7_findRow_60 x1 x2 K21 n (x5 + 1) (up2 σ 15 x5.toNatClampNeg (σ 14 x5.toNatClampNeg)) else none))
set_option maxHeartbeats 4000000 in
set_option maxRecDepth 100000 in
theorem jX7_findRow_60 {p : Program} {l : Launch} {e : Env} {s : State} {m : MethodId} {args : Array Value} {below : List Frame} {meth : Method} {c : Code} {D : va_G} {κ : Kp} {ad : Nat → Nat} {A : Nat → Prop} {r : Int32} {τ : Sg} (C : Mc p s m args meth c cX7_findRow 6 (some .int) wsX7_findRow RX7 D κ A) (x1 : Int32) (x2 : Int32) (K21 : Int32 → Int32 → Sg → Option (Int32 × Sg)) (hK21 : ∀ (x2 : Int32) (x3 : Int32) (σ : Sg) (H : Heap) (locs : List Loc) (ls : Array Slot), Wd D (wsM κ ad) A s.heap H locs σ → lv_has ls 6 [(0, .ref (ad 0)), (1, .int x1), (2, .int x2), (3, .int x3)] → K21 x2 x3 σ = some (r, τ) → W p l e { frames := 4, cells := 0, slots := 0, locals := 88 } s m args below meth c H locs 0 0 (Qi below args s D (wsM κ ad) A r τ) (F0 m 21 ls [])) : ∀ (n : Nat) (x5 : Int32) (σ : Sg) (H : Heap) (locs : List Loc) (ls : Array Slot), Wd D (wsM κ ad) A s.heap H locs σ → lv_has ls 6 [(0, .ref (ad 0)), (1, .int x1), (2, .int x2), (5, .int x5)] → fX7_findRow_60 x1 x2 K21 n x5 σ = some (r, τ) → W p l e { frames := 4, cells := 0, slots := 0, locals := 88 } s m args below meth c H locs 0 0 (Qi below args s D (wsM κ ad) A r τ) (F0 m 60 ls []) := by
  obtain ⟨hx, hb, hml, hr, hlk, hown, hts, hK, hA, hZ⟩ := id C
  intro n
  induction n with
  | zero =>
    intro x5 σ H locs ls h hl hf
    rw [fX7_findRow_60] at hf
    cases hf
  | succ n ih =>
    intro x5 σ H locs ls h hl hf
    rw [fX7_findRow_60] at hf
    refine lv_iload hx hb dX7_findRow_60 (lv_at hl 3 rfl) ?_
    refine lv_aload_n hx hb dX7_findRow_62 rfl (lv_at hl 0 rfl) ?_
    refine x_get (v := .int (σ 0 27)) C h (gM_Mo κ ad σ) rfl inX7_findRow_X7 27 (by decide) (hts _ lkX7_findRow_187) rfl dX7_findRow_63 ?_
    refine lv_icmp_ge (tgt := 89) hx hb dX7_findRow_66 (by decide) (fun c1 => ?_) (fun c1 => ?_)
    · have hf := tk_t c1 hf
      refine lv_aload_n hx hb dX7_findRow_89 rfl (lv_at hl 0 rfl) ?_
      obtain ⟨q3, hg2, hf⟩ := bd_ok hf
      refine x_vi (As := []) (rest := []) C h (gM_Mo κ ad σ) rfl (kX7_nextRow l D κ ad σ (r := q3.1) (τ := q3.2) hg2) (fun hts => cwV 0 hts gX7_findRow_X7_nextRow rfl rfl rfl (by decide +kernel) ⟨Nat.le_of_ble_eq_true rfl, Nat.le_of_ble_eq_true rfl⟩) rfl hl.1 (Nat.le_of_ble_eq_true rfl) rfl dX7_findRow_90 (fun H locs h => ?_)
      refine lv_istore_n (lv' := [(3, .int q3.1), (0, .ref (ad 0)), (1, .int x1), (2, .int x2), (5, .int x5)]) hx hb dX7_findRow_93 rfl hl (by decide) rfl (fun ls hl => ?_)
      refine lv_goto (tgt := 21) hx hb dX7_findRow_94 (by decide) ?_
      exact hK21 x2 q3.1 q3.2 _ _ _ h (lv_sub hl [1, 2, 3, 0] rfl) hf
    · have hf := tk_f c1 hf
      refine lv_aload_n hx hb dX7_findRow_69 rfl (lv_at hl 0 rfl) ?_
      refine x_get (v := .ref (ad 15)) C h (gM_Mo κ ad σ) rfl inX7_findRow_X7 29 (by decide) (hts _ lkX7_findRow_52) rfl dX7_findRow_70 ?_
      refine lv_iload hx hb dX7_findRow_73 (lv_at hl 3 rfl) ?_
      refine lv_aload_n hx hb dX7_findRow_75 rfl (lv_at hl 0 rfl) ?_
      refine x_get (v := .ref (ad 14)) C h (gM_Mo κ ad σ) rfl inX7_findRow_X7 28 (by decide) (hts _ lkX7_findRow_49) rfl dX7_findRow_76 ?_
      refine lv_iload hx hb dX7_findRow_79 (lv_at hl 3 rfl) ?_
      obtain ⟨g4, hf⟩ := gd_ok hf
      refine x_iald (v := (σ 14 x5.toNatClampNeg)) C h (gM_m_row κ ad σ) g4 rfl dX7_findRow_81 ?_
      refine x_iast C h (gM_m_found κ ad σ) (sM_m_found κ ad σ x5.toNatClampNeg (σ 14 x5.toNatClampNeg)) g4 dX7_findRow_82 (fun H locs h => ?_)
      refine lv_iinc (v := (x5 + 1)) (lv' := [(5, .int (x5 + 1)), (0, .ref (ad 0)), (1, .int x1), (2, .int x2)]) hx hb dX7_findRow_83 hl (k := 3) rfl rfl (by decide) rfl (fun ls hl => ?_)
      refine lv_goto (tgt := 60) hx hb dX7_findRow_86 (by decide) ?_
      exact ih (x5 + 1) (up2 σ 15 x5.toNatClampNeg (σ 14 x5.toNatClampNeg)) _ _ _ h (lv_sub hl [1, 2, 3, 0] rfl) hf
def fX7_findRow_40 (x1 : Int32) (K21 : Int32 → Int32 → Sg → Option (Int32 × Sg)) (x2 : Int32) (z0 : Int32) (σ : Sg) : Option (Int32 × Sg) :=
  (if x2 = (-9) then fX7_findRow_60 x1 z0 K21 1000 0 σ else (if x2 ≤ z0 then ((fX7_nextRow σ).bind fun q8 => K21 x2 q8.1 q8.2) else fX7_findRow_60 x1 z0 K21 1000 0 σ))
set_option maxHeartbeats 4000000 in
set_option maxRecDepth 100000 in
theorem jX7_findRow_40 {p : Program} {l : Launch} {e : Env} {s : State} {m : MethodId} {args : Array Value} {below : List Frame} {meth : Method} {c : Code} {D : va_G} {κ : Kp} {ad : Nat → Nat} {A : Nat → Prop} {r : Int32} {τ : Sg} (C : Mc p s m args meth c cX7_findRow 6 (some .int) wsX7_findRow RX7 D κ A) (x1 : Int32) (K21 : Int32 → Int32 → Sg → Option (Int32 × Sg)) (hK21 : ∀ (x2 : Int32) (x3 : Int32) (σ : Sg) (H : Heap) (locs : List Loc) (ls : Array Slot), Wd D (wsM κ ad) A s.heap H locs σ → lv_has ls 6 [(0, .ref (ad 0)), (1, .int x1), (2, .int x2), (3, .int x3)] → K21 x2 x3 σ = some (r, τ) → W p l e { frames := 4, cells := 0, slots := 0, locals := 88 } s m args below meth c H locs 0 0 (Qi below args s D (wsM κ ad) A r τ) (F0 m 21 ls [])) (x2 : Int32) (z0 : Int32) (σ : Sg) (H : Heap) (locs : List Loc) (ls : Array Slot) (h : Wd D (wsM κ ad) A s.heap H locs σ) (hl : lv_has ls 6 [(0, .ref (ad 0)), (1, .int x1), (2, .int x2)]) (hf : fX7_findRow_40 x1 K21 x2 z0 σ = some (r, τ)) : W p l e { frames := 4, cells := 0, slots := 0, locals := 88 } s m args below meth c H locs 0 0 (Qi below args s D (wsM κ ad) A r τ) (F0 m 40 ls [.int z0]) := by
  obtain ⟨hx, hb, hml, hr, hlk, hown, hts, hK, hA, hZ⟩ := id C
  unfold fX7_findRow_40 at hf
  refine lv_istore (lv' := [(4, .int z0), (0, .ref (ad 0)), (1, .int x1), (2, .int x2)]) hx hb dX7_findRow_40 hl (by decide) rfl (fun ls hl => ?_)
  refine lv_iload_n hx hb dX7_findRow_42 rfl (lv_at hl 3 rfl) ?_
  refine lv_bipush (v := (-9)) hx hb dX7_findRow_43 (by decide) ?_
  refine lv_icmp_eq (tgt := 54) hx hb dX7_findRow_45 (by decide) (fun c5 => ?_) (fun c5 => ?_)
  · have hf := tk_t c5 hf
    refine lv_iload hx hb dX7_findRow_54 (lv_at hl 0 rfl) ?_
    refine lv_istore_n (lv' := [(2, .int z0), (4, .int z0), (0, .ref (ad 0)), (1, .int x1)]) hx hb dX7_findRow_56 rfl hl (by decide) rfl (fun ls hl => ?_)
    refine lv_iconst (v := 0) hx hb dX7_findRow_57 (by decide) ?_
    refine lv_istore (lv' := [(5, .int 0), (2, .int z0), (4, .int z0), (0, .ref (ad 0)), (1, .int x1)]) hx hb dX7_findRow_58 hl (by decide) rfl (fun ls hl => ?_)
    exact jX7_findRow_60 C x1 z0 K21 hK21 1000 0 σ _ _ _ h (lv_sub hl [3, 4, 1, 0] rfl) hf
  · have hf := tk_f c5 hf
    refine lv_iload hx hb dX7_findRow_48 (lv_at hl 0 rfl) ?_
    refine lv_iload_n hx hb dX7_findRow_50 rfl (lv_at hl 3 rfl) ?_
    refine lv_icmp_ge (tgt := 89) hx hb dX7_findRow_51 (by decide) (fun c6 => ?_) (fun c6 => ?_)
    · have hf := tk_t c6 hf
      refine lv_aload_n hx hb dX7_findRow_89 rfl (lv_at hl 1 rfl) ?_
      obtain ⟨q8, hg7, hf⟩ := bd_ok hf
      refine x_vi (As := []) (rest := []) C h (gM_Mo κ ad σ) rfl (kX7_nextRow l D κ ad σ (r := q8.1) (τ := q8.2) hg7) (fun hts => cwV 0 hts gX7_findRow_X7_nextRow rfl rfl rfl (by decide +kernel) ⟨Nat.le_of_ble_eq_true rfl, Nat.le_of_ble_eq_true rfl⟩) rfl hl.1 (Nat.le_of_ble_eq_true rfl) rfl dX7_findRow_90 (fun H locs h => ?_)
      refine lv_istore_n (lv' := [(3, .int q8.1), (4, .int z0), (0, .ref (ad 0)), (1, .int x1), (2, .int x2)]) hx hb dX7_findRow_93 rfl hl (by decide) rfl (fun ls hl => ?_)
      refine lv_goto (tgt := 21) hx hb dX7_findRow_94 (by decide) ?_
      exact hK21 x2 q8.1 q8.2 _ _ _ h (lv_sub hl [2, 3, 4, 0] rfl) hf
    · have hf := tk_f c6 hf
      refine lv_iload hx hb dX7_findRow_54 (lv_at hl 0 rfl) ?_
      refine lv_istore_n (lv' := [(2, .int z0), (4, .int z0), (0, .ref (ad 0)), (1, .int x1)]) hx hb dX7_findRow_56 rfl hl (by decide) rfl (fun ls hl => ?_)
      refine lv_iconst (v := 0) hx hb dX7_findRow_57 (by decide) ?_
      refine lv_istore (lv' := [(5, .int 0), (2, .int z0), (4, .int z0), (0, .ref (ad 0)), (1, .int x1)]) hx hb dX7_findRow_58 hl (by decide) rfl (fun ls hl => ?_)
      exact jX7_findRow_60 C x1 z0 K21 hK21 1000 0 σ _ _ _ h (lv_sub hl [3, 4, 1, 0] rfl) hf
def fX7_findRow_21 (x1 : Int32) : Nat → Int32 → Int32 → Sg → Option (Int32 × Sg)
  | 0, _, _, _ => none
  | n + 1, x2, x3, σ => (if x3 = 0 then some (x2, σ) else (if x1 = 0 then ((fX7_signsOf σ).bind fun q12 => fX7_findRow_40 x1 (fX7_findRow_21 x1 n) x2 q12.1 q12.2) else ((fX7_quickOf σ).bind fun r14 => fX7_findRow_40 x1 (fX7_findRow_21 x1 n) x2 r14 σ)))
set_option maxHeartbeats 4000000 in
set_option maxRecDepth 100000 in
theorem jX7_findRow_21 {p : Program} {l : Launch} {e : Env} {s : State} {m : MethodId} {args : Array Value} {below : List Frame} {meth : Method} {c : Code} {D : va_G} {κ : Kp} {ad : Nat → Nat} {A : Nat → Prop} {r : Int32} {τ : Sg} (C : Mc p s m args meth c cX7_findRow 6 (some .int) wsX7_findRow RX7 D κ A) (x1 : Int32) : ∀ (n : Nat) (x2 : Int32) (x3 : Int32) (σ : Sg) (H : Heap) (locs : List Loc) (ls : Array Slot), Wd D (wsM κ ad) A s.heap H locs σ → lv_has ls 6 [(0, .ref (ad 0)), (1, .int x1), (2, .int x2), (3, .int x3)] → fX7_findRow_21 x1 n x2 x3 σ = some (r, τ) → W p l e { frames := 4, cells := 0, slots := 0, locals := 88 } s m args below meth c H locs 0 0 (Qi below args s D (wsM κ ad) A r τ) (F0 m 21 ls []) := by
  obtain ⟨hx, hb, hml, hr, hlk, hown, hts, hK, hA, hZ⟩ := id C
  intro n
  induction n with
  | zero =>
    intro x2 x3 σ H locs ls h hl hf
    rw [fX7_findRow_21] at hf
    cases hf
  | succ n ih =>
    intro x2 x3 σ H locs ls h hl hf
    rw [fX7_findRow_21] at hf
    refine lv_iload_n hx hb dX7_findRow_21 rfl (lv_at hl 3 rfl) ?_
    refine lv_if_eq (tgt := 97) hx hb dX7_findRow_22 (by decide) (fun c9 => ?_) (fun c9 => ?_)
    · have hf := tk_t c9 hf
      refine lv_iload_n hx hb dX7_findRow_97 rfl (lv_at hl 2 rfl) ?_
      obtain ⟨rfl, rfl⟩ := pr_ok hf
      exact x_iret C h dX7_findRow_98
    · have hf := tk_f c9 hf
      refine lv_iload_n hx hb dX7_findRow_25 rfl (lv_at hl 1 rfl) ?_
      refine lv_if_eq (tgt := 36) hx hb dX7_findRow_26 (by decide) (fun c10 => ?_) (fun c10 => ?_)
      · have hf := tk_t c10 hf
        refine lv_aload_n hx hb dX7_findRow_36 rfl (lv_at hl 0 rfl) ?_
        obtain ⟨q12, hg11, hf⟩ := bd_ok hf
        refine x_vi (As := []) (rest := []) C h (gM_Mo κ ad σ) rfl (kX7_signsOf l D κ ad σ (r := q12.1) (τ := q12.2) hg11) (fun hts => cwV 0 hts gX7_findRow_X7_signsOf rfl rfl rfl (by decide +kernel) ⟨Nat.le_of_ble_eq_true rfl, Nat.le_of_ble_eq_true rfl⟩) rfl hl.1 (Nat.le_of_ble_eq_true rfl) rfl dX7_findRow_37 (fun H locs h => ?_)
        exact jX7_findRow_40 C x1 (fX7_findRow_21 x1 n) ih x2 q12.1 q12.2 _ _ _ h (lv_sub hl [0, 1, 2] rfl) hf
      · have hf := tk_f c10 hf
        refine lv_aload_n hx hb dX7_findRow_29 rfl (lv_at hl 0 rfl) ?_
        obtain ⟨r14, hg13, hf⟩ := bd_ok hf
        refine x_vi (As := []) (rest := []) C h (gM_Mo κ ad σ) rfl (kX7_quickOf l D κ ad σ (r := r14) hg13) (fun hts => cwV 0 hts gX7_findRow_X7_quickOf rfl rfl rfl (by decide +kernel) ⟨Nat.le_of_ble_eq_true rfl, Nat.le_of_ble_eq_true rfl⟩) rfl hl.1 (Nat.le_of_ble_eq_true rfl) rfl dX7_findRow_30 (fun H locs h => ?_)
        refine lv_goto (tgt := 40) hx hb dX7_findRow_33 (by decide) ?_
        exact jX7_findRow_40 C x1 (fX7_findRow_21 x1 n) ih x2 r14 σ _ _ _ h (lv_sub hl [0, 1, 2] rfl) hf
def fX7_findRow (x1 : Int32) (σ : Sg) : Option (Int32 × Sg) :=
  (if x1 = 0 then ((fX7_beginRows 3 σ).bind fun τ17 => fX7_findRow_21 x1 1000 (-9) 1 τ17) else ((fX7_beginRows (σ 0 10) σ).bind fun τ19 => fX7_findRow_21 x1 1000 (-9) 1 τ19))
set_option maxHeartbeats 4000000 in
set_option maxRecDepth 100000 in
theorem kX7_findRow (l : Launch) (D : va_G) (κ : Kp) (ad : Nat → Nat) (x1 : Int32) (σ : Sg) {r : Int32} {τ : Sg} (hf : fX7_findRow x1 σ = some (r, τ)) : Ci l D κ (wsM κ ad) yX7_findRow wsX7_findRow 4 88 [.ref (ad 0), .int x1] σ r τ := by
  refine Ci.of (cc := cX7_findRow) (nL := 6) (ret := (some .int)) (by decide) rfl (Nat.le_of_ble_eq_true rfl) ?_
  intro p e s m below meth c A ls C h hl
  obtain ⟨hx, hb, hml, hr, hlk, hown, hts, hK, hA, hZ⟩ := id C
  have hl : lv_has ls 6 [(0, .ref (ad 0)), (1, .int x1)] := hl
  unfold fX7_findRow at hf
  refine lv_aload_n hx hb dX7_findRow_0 rfl (lv_at hl 0 rfl) ?_
  refine lv_iload_n hx hb dX7_findRow_1 rfl (lv_at hl 1 rfl) ?_
  refine lv_if_eq (tgt := 12) hx hb dX7_findRow_2 (by decide) (fun c15 => ?_) (fun c15 => ?_)
  · have hf := tk_t c15 hf
    refine lv_iconst (v := 3) hx hb dX7_findRow_12 (by decide) ?_
    obtain ⟨τ17, hg16, hf⟩ := bd_ok hf
    refine x_vv (As := [.int 3]) (rest := []) C h (gM_Mo κ ad σ) rfl (kX7_beginRows l D κ ad 3 σ (τ := τ17) hg16) (fun hts => cwV 1 hts gX7_findRow_X7_beginRows rfl rfl rfl (by decide +kernel) ⟨Nat.le_of_ble_eq_true rfl, Nat.le_of_ble_eq_true rfl⟩) rfl hl.1 (Nat.le_of_ble_eq_true rfl) rfl dX7_findRow_13 (fun H locs h => ?_)
    refine lv_bipush (v := (-9)) hx hb dX7_findRow_16 (by decide) ?_
    refine lv_istore_n (lv' := [(2, .int (-9)), (0, .ref (ad 0)), (1, .int x1)]) hx hb dX7_findRow_18 rfl hl (by decide) rfl (fun ls hl => ?_)
    refine lv_iconst (v := 1) hx hb dX7_findRow_19 (by decide) ?_
    refine lv_istore_n (lv' := [(3, .int 1), (2, .int (-9)), (0, .ref (ad 0)), (1, .int x1)]) hx hb dX7_findRow_20 rfl hl (by decide) rfl (fun ls hl => ?_)
    exact jX7_findRow_21 C x1 1000 (-9) 1 τ17 _ _ _ h (lv_sub hl [2, 3, 1, 0] rfl) hf
  · have hf := tk_f c15 hf
    refine lv_aload_n hx hb dX7_findRow_5 rfl (lv_at hl 0 rfl) ?_
    refine x_get (v := .int (σ 0 10)) C h (gM_Mo κ ad σ) rfl inX7_findRow_X7 10 (by decide) (hts _ lkX7_findRow_72) rfl dX7_findRow_6 ?_
    refine lv_goto (tgt := 13) hx hb dX7_findRow_9 (by decide) ?_
    obtain ⟨τ19, hg18, hf⟩ := bd_ok hf
    refine x_vv (As := [.int (σ 0 10)]) (rest := []) C h (gM_Mo κ ad σ) rfl (kX7_beginRows l D κ ad (σ 0 10) σ (τ := τ19) hg18) (fun hts => cwV 1 hts gX7_findRow_X7_beginRows rfl rfl rfl (by decide +kernel) ⟨Nat.le_of_ble_eq_true rfl, Nat.le_of_ble_eq_true rfl⟩) rfl hl.1 (Nat.le_of_ble_eq_true rfl) rfl dX7_findRow_13 (fun H locs h => ?_)
    refine lv_bipush (v := (-9)) hx hb dX7_findRow_16 (by decide) ?_
    refine lv_istore_n (lv' := [(2, .int (-9)), (0, .ref (ad 0)), (1, .int x1)]) hx hb dX7_findRow_18 rfl hl (by decide) rfl (fun ls hl => ?_)
    refine lv_iconst (v := 1) hx hb dX7_findRow_19 (by decide) ?_
    refine lv_istore_n (lv' := [(3, .int 1), (2, .int (-9)), (0, .ref (ad 0)), (1, .int x1)]) hx hb dX7_findRow_20 rfl hl (by decide) rfl (fun ls hl => ?_)
    exact jX7_findRow_21 C x1 1000 (-9) 1 τ19 _ _ _ h (lv_sub hl [2, 3, 1, 0] rfl) hf

-- ===== X7_quick: ButtonMatchModel.quick(I)I
theorem lkX7_quick_72 : Cond.fieldLink RX7 72 "ButtonMatchModel" "tubes" "I" ∈ wsX7_quick := by decide +kernel
theorem inX7_quick_X7 : ∀ w ∈ wsX70, w ∈ wsX7_quick := fun _ h => List.mem_cons_of_mem _ (List.mem_append_right _ h)
theorem lkX7_quick_52 : Cond.fieldLink RX7 52 "ButtonMatchModel" "found" "[I" ∈ wsX7_quick := by decide +kernel
def fX7_quick (x1 : Int32) (σ : Sg) : Option (Int32 × Sg) :=
  (if (-1) ≤ x1 then (if (σ 0 10) = 0 then some ((-3), σ) else ((fX7_findRow 1 σ).bind fun q4 => (if x1 = (-1) then some (q4.1, q4.2) else (if (fX7_isTube x1 q4.2) = 0 then some ((-9), q4.2) else (if gIn x1 6 then some ((q4.2 15 x1.toNatClampNeg), q4.2) else none))))) else some ((-1), σ))
set_option maxHeartbeats 4000000 in
set_option maxRecDepth 100000 in
theorem kX7_quick (l : Launch) (D : va_G) (κ : Kp) (ad : Nat → Nat) (x1 : Int32) (σ : Sg) {r : Int32} {τ : Sg} (hf : fX7_quick x1 σ = some (r, τ)) : Ci l D κ (wsM κ ad) yX7_quick wsX7_quick 5 113 [.ref (ad 0), .int x1] σ r τ := by
  refine Ci.of (cc := cX7_quick) (nL := 3) (ret := (some .int)) (by decide) rfl (Nat.le_of_ble_eq_true rfl) ?_
  intro p e s m below meth c A ls C h hl
  obtain ⟨hx, hb, hml, hr, hlk, hown, hts, hK, hA, hZ⟩ := id C
  have hl : lv_has ls 3 [(0, .ref (ad 0)), (1, .int x1)] := hl
  unfold fX7_quick at hf
  refine lv_iload_n hx hb dX7_quick_0 rfl (lv_at hl 1 rfl) ?_
  refine lv_iconst (v := (-1)) hx hb dX7_quick_1 (by decide) ?_
  refine lv_icmp_ge (tgt := 7) hx hb dX7_quick_2 (by decide) (fun c1 => ?_) (fun c1 => ?_)
  · have hf := tk_t c1 hf
    refine lv_aload_n hx hb dX7_quick_7 rfl (lv_at hl 0 rfl) ?_
    refine x_get (v := .int (σ 0 10)) C h (gM_Mo κ ad σ) rfl inX7_quick_X7 10 (by decide) (hts _ lkX7_quick_72) rfl dX7_quick_8 ?_
    refine lv_if_ne (tgt := 17) hx hb dX7_quick_11 (by decide) (fun c2 => ?_) (fun c2 => ?_)
    · have hf := tk_f c2 hf
      refine lv_aload_n hx hb dX7_quick_17 rfl (lv_at hl 0 rfl) ?_
      refine lv_iconst (v := 1) hx hb dX7_quick_18 (by decide) ?_
      obtain ⟨q4, hg3, hf⟩ := bd_ok hf
      refine x_vi (As := [.int 1]) (rest := []) C h (gM_Mo κ ad σ) rfl (kX7_findRow l D κ ad 1 σ (r := q4.1) (τ := q4.2) hg3) (fun hts => cwV 1 hts gX7_quick_X7_findRow rfl rfl rfl (by decide +kernel) ⟨Nat.le_of_ble_eq_true rfl, Nat.le_of_ble_eq_true rfl⟩) rfl hl.1 (Nat.le_of_ble_eq_true rfl) rfl dX7_quick_19 (fun H locs h => ?_)
      refine lv_istore_n (lv' := [(2, .int q4.1), (0, .ref (ad 0)), (1, .int x1)]) hx hb dX7_quick_22 rfl hl (by decide) rfl (fun ls hl => ?_)
      refine lv_iload_n hx hb dX7_quick_23 rfl (lv_at hl 2 rfl) ?_
      refine lv_iconst (v := (-1)) hx hb dX7_quick_24 (by decide) ?_
      refine lv_icmp_ne (tgt := 32) hx hb dX7_quick_25 (by decide) (fun c5 => ?_) (fun c5 => ?_)
      · have hf := tk_f c5 hf
        refine lv_aload_n hx hb dX7_quick_32 rfl (lv_at hl 1 rfl) ?_
        refine lv_iload_n hx hb dX7_quick_33 rfl (lv_at hl 2 rfl) ?_
        refine x_vi (As := [.int x1]) (rest := []) C h (gM_Mo κ ad q4.2) rfl (kX7_isTube l D κ ad x1 q4.2 (r := (fX7_isTube x1 q4.2)) rfl) (fun hts => cwV 1 hts gX7_quick_X7_isTube rfl rfl rfl (by decide +kernel) ⟨Nat.le_of_ble_eq_true rfl, Nat.le_of_ble_eq_true rfl⟩) rfl hl.1 (Nat.le_of_ble_eq_true rfl) rfl dX7_quick_34 (fun H locs h => ?_)
        refine lv_if_eq (tgt := 49) hx hb dX7_quick_37 (by decide) (fun c6 => ?_) (fun c6 => ?_)
        · have hf := tk_t c6 hf
          refine lv_bipush (v := (-9)) hx hb dX7_quick_49 (by decide) ?_
          obtain ⟨rfl, rfl⟩ := pr_ok hf
          exact x_iret C h dX7_quick_51
        · have hf := tk_f c6 hf
          refine lv_aload_n hx hb dX7_quick_40 rfl (lv_at hl 1 rfl) ?_
          refine x_get (v := .ref (ad 15)) C h (gM_Mo κ ad q4.2) rfl inX7_quick_X7 29 (by decide) (hts _ lkX7_quick_52) rfl dX7_quick_41 ?_
          refine lv_iload_n hx hb dX7_quick_44 rfl (lv_at hl 2 rfl) ?_
          obtain ⟨g7, hf⟩ := gd_ok hf
          refine x_iald (v := (q4.2 15 x1.toNatClampNeg)) C h (gM_m_found κ ad q4.2) g7 rfl dX7_quick_45 ?_
          refine lv_goto (tgt := 51) hx hb dX7_quick_46 (by decide) ?_
          obtain ⟨rfl, rfl⟩ := pr_ok hf
          exact x_iret C h dX7_quick_51
      · have hf := tk_t c5 hf
        refine lv_iload_n hx hb dX7_quick_28 rfl (lv_at hl 0 rfl) ?_
        refine lv_goto (tgt := 51) hx hb dX7_quick_29 (by decide) ?_
        obtain ⟨rfl, rfl⟩ := pr_ok hf
        exact x_iret C h dX7_quick_51
    · have hf := tk_t c2 hf
      refine lv_bipush (v := (-3)) hx hb dX7_quick_14 (by decide) ?_
      obtain ⟨rfl, rfl⟩ := pr_ok hf
      exact x_iret C h dX7_quick_16
  · have hf := tk_f c1 hf
    refine lv_iconst (v := (-1)) hx hb dX7_quick_5 (by decide) ?_
    obtain ⟨rfl, rfl⟩ := pr_ok hf
    exact x_iret C h dX7_quick_6

-- ===== X7_signs: ButtonMatchModel.signs(I)I
theorem lkX7_signs_72 : Cond.fieldLink RX7 72 "ButtonMatchModel" "tubes" "I" ∈ wsX7_signs := by decide +kernel
theorem inX7_signs_X7 : ∀ w ∈ wsX70, w ∈ wsX7_signs := fun _ h => List.mem_cons_of_mem _ (List.mem_append_right _ h)
theorem lkX7_signs_52 : Cond.fieldLink RX7 52 "ButtonMatchModel" "found" "[I" ∈ wsX7_signs := by decide +kernel
def fX7_signs (x1 : Int32) (σ : Sg) : Option (Int32 × Sg) :=
  (if (fX7_within x1 (-1) 2 σ) = 0 then some ((-2), σ) else (if (σ 0 10) = 0 then some ((-3), σ) else ((fX7_findRow 0 σ).bind fun q4 => (if x1 = (-1) then some (q4.1, q4.2) else (if gIn x1 6 then some ((q4.2 15 x1.toNatClampNeg), q4.2) else none)))))
set_option maxHeartbeats 4000000 in
set_option maxRecDepth 100000 in
theorem kX7_signs (l : Launch) (D : va_G) (κ : Kp) (ad : Nat → Nat) (x1 : Int32) (σ : Sg) {r : Int32} {τ : Sg} (hf : fX7_signs x1 σ = some (r, τ)) : Ci l D κ (wsM κ ad) yX7_signs wsX7_signs 5 113 [.ref (ad 0), .int x1] σ r τ := by
  refine Ci.of (cc := cX7_signs) (nL := 3) (ret := (some .int)) (by decide) rfl (Nat.le_of_ble_eq_true rfl) ?_
  intro p e s m below meth c A ls C h hl
  obtain ⟨hx, hb, hml, hr, hlk, hown, hts, hK, hA, hZ⟩ := id C
  have hl : lv_has ls 3 [(0, .ref (ad 0)), (1, .int x1)] := hl
  unfold fX7_signs at hf
  refine lv_iload_n hx hb dX7_signs_0 rfl (lv_at hl 1 rfl) ?_
  refine lv_iconst (v := (-1)) hx hb dX7_signs_1 (by decide) ?_
  refine lv_iconst (v := 2) hx hb dX7_signs_2 (by decide) ?_
  refine x_si (As := [.int x1, .int (-1), .int 2]) (rest := []) C h (kX7_within l D κ ad x1 (-1) 2 σ (r := (fX7_within x1 (-1) 2 σ)) rfl) (fun hts => va_cwS 3 hts gX7_signs_X7_within rfl rfl rfl (by decide +kernel) ⟨Nat.le_of_ble_eq_true rfl, Nat.le_of_ble_eq_true rfl⟩) rfl hl.1 (Nat.le_of_ble_eq_true rfl) rfl dX7_signs_3 (fun H locs h => ?_)
  refine lv_if_ne (tgt := 12) hx hb dX7_signs_6 (by decide) (fun c1 => ?_) (fun c1 => ?_)
  · have hf := tk_f c1 hf
    refine lv_aload_n hx hb dX7_signs_12 rfl (lv_at hl 0 rfl) ?_
    refine x_get (v := .int (σ 0 10)) C h (gM_Mo κ ad σ) rfl inX7_signs_X7 10 (by decide) (hts _ lkX7_signs_72) rfl dX7_signs_13 ?_
    refine lv_if_ne (tgt := 22) hx hb dX7_signs_16 (by decide) (fun c2 => ?_) (fun c2 => ?_)
    · have hf := tk_f c2 hf
      refine lv_aload_n hx hb dX7_signs_22 rfl (lv_at hl 0 rfl) ?_
      refine lv_iconst (v := 0) hx hb dX7_signs_23 (by decide) ?_
      obtain ⟨q4, hg3, hf⟩ := bd_ok hf
      refine x_vi (As := [.int 0]) (rest := []) C h (gM_Mo κ ad σ) rfl (kX7_findRow l D κ ad 0 σ (r := q4.1) (τ := q4.2) hg3) (fun hts => cwV 1 hts gX7_signs_X7_findRow rfl rfl rfl (by decide +kernel) ⟨Nat.le_of_ble_eq_true rfl, Nat.le_of_ble_eq_true rfl⟩) rfl hl.1 (Nat.le_of_ble_eq_true rfl) rfl dX7_signs_24 (fun H locs h => ?_)
      refine lv_istore_n (lv' := [(2, .int q4.1), (0, .ref (ad 0)), (1, .int x1)]) hx hb dX7_signs_27 rfl hl (by decide) rfl (fun ls hl => ?_)
      refine lv_iload_n hx hb dX7_signs_28 rfl (lv_at hl 2 rfl) ?_
      refine lv_iconst (v := (-1)) hx hb dX7_signs_29 (by decide) ?_
      refine lv_icmp_ne (tgt := 37) hx hb dX7_signs_30 (by decide) (fun c5 => ?_) (fun c5 => ?_)
      · have hf := tk_f c5 hf
        refine lv_aload_n hx hb dX7_signs_37 rfl (lv_at hl 1 rfl) ?_
        refine x_get (v := .ref (ad 15)) C h (gM_Mo κ ad q4.2) rfl inX7_signs_X7 29 (by decide) (hts _ lkX7_signs_52) rfl dX7_signs_38 ?_
        refine lv_iload_n hx hb dX7_signs_41 rfl (lv_at hl 2 rfl) ?_
        obtain ⟨g6, hf⟩ := gd_ok hf
        refine x_iald (v := (q4.2 15 x1.toNatClampNeg)) C h (gM_m_found κ ad q4.2) g6 rfl dX7_signs_42 ?_
        obtain ⟨rfl, rfl⟩ := pr_ok hf
        exact x_iret C h dX7_signs_43
      · have hf := tk_t c5 hf
        refine lv_iload_n hx hb dX7_signs_33 rfl (lv_at hl 0 rfl) ?_
        refine lv_goto (tgt := 43) hx hb dX7_signs_34 (by decide) ?_
        obtain ⟨rfl, rfl⟩ := pr_ok hf
        exact x_iret C h dX7_signs_43
    · have hf := tk_t c2 hf
      refine lv_bipush (v := (-3)) hx hb dX7_signs_19 (by decide) ?_
      obtain ⟨rfl, rfl⟩ := pr_ok hf
      exact x_iret C h dX7_signs_21
  · have hf := tk_t c1 hf
    refine lv_bipush (v := (-2)) hx hb dX7_signs_9 (by decide) ?_
    obtain ⟨rfl, rfl⟩ := pr_ok hf
    exact x_iret C h dX7_signs_11

-- ===== X7_sew: ButtonMatchModel.sew(II)I
theorem lkX7_sew_34 : Cond.fieldLink RX7 34 "ButtonMatchModel" "count" "[I" ∈ wsX7_sew := by decide +kernel
theorem inX7_sew_X7 : ∀ w ∈ wsX70, w ∈ wsX7_sew := fun _ h => List.mem_cons_of_mem _ (List.mem_append_right _ h)
theorem lkX7_sew_99 : Cond.fieldLink RX7 99 "ButtonMatchModel" "wantedColour" "I" ∈ wsX7_sew := by decide +kernel
theorem lkX7_sew_102 : Cond.fieldLink RX7 102 "ButtonMatchModel" "wantedSize" "I" ∈ wsX7_sew := by decide +kernel
theorem lkX7_sew_19 : Cond.fieldLink RX7 19 "ButtonMatchModel" "seenIn" "[I" ∈ wsX7_sew := by decide +kernel
theorem lkX7_sew_37 : Cond.fieldLink RX7 37 "ButtonMatchModel" "pence" "[I" ∈ wsX7_sew := by decide +kernel
theorem lkX7_sew_108 : Cond.fieldLink RX7 108 "ButtonMatchModel" "sewing" "I" ∈ wsX7_sew := by decide +kernel
theorem lkX7_sew_72 : Cond.fieldLink RX7 72 "ButtonMatchModel" "tubes" "I" ∈ wsX7_sew := by decide +kernel
def fX7_sew_135 (σ : Sg) (x1 : Int32) (x2 : Int32) (x6 : Int32) (K47 : Int32 → Int32 → Int32 → Int32 → Option (Int32)) (K59 : Int32 → Int32 → Int32 → Int32 → Option (Int32)) (x7 : Int32) (x8 : Int32) : Option (Int32) :=
  K59 x8 x6 x7 (x7 + 1)
set_option maxHeartbeats 4000000 in
set_option maxRecDepth 100000 in
theorem jX7_sew_135 {p : Program} {l : Launch} {e : Env} {s : State} {m : MethodId} {args : Array Value} {below : List Frame} {meth : Method} {c : Code} {D : va_G} {κ : Kp} {ad : Nat → Nat} {A : Nat → Prop} {r : Int32} (C : Mc p s m args meth c cX7_sew 9 (some .int) wsX7_sew RX7 D κ A) (σ : Sg) (x1 : Int32) (x2 : Int32) (x6 : Int32) (K47 : Int32 → Int32 → Int32 → Int32 → Option (Int32)) (hK47 : ∀ (x3 : Int32) (x4 : Int32) (x5 : Int32) (x6 : Int32) (H : Heap) (locs : List Loc) (ls : Array Slot), Wd D (wsM κ ad) A s.heap H locs σ → lv_has ls 9 [(0, .ref (ad 0)), (1, .int x1), (2, .int x2), (3, .int x3), (4, .int x4), (5, .int x5), (6, .int x6)] → K47 x3 x4 x5 x6 = some r → W p l e { frames := 2, cells := 0, slots := 0, locals := 45 } s m args below meth c H locs 0 0 (Qi below args s D (wsM κ ad) A r σ) (F0 m 47 ls [])) (K59 : Int32 → Int32 → Int32 → Int32 → Option (Int32)) (hK59 : ∀ (x3 : Int32) (x4 : Int32) (x5 : Int32) (x7 : Int32) (H : Heap) (locs : List Loc) (ls : Array Slot), Wd D (wsM κ ad) A s.heap H locs σ → lv_has ls 9 [(0, .ref (ad 0)), (1, .int x1), (2, .int x2), (3, .int x3), (4, .int x4), (5, .int x5), (6, .int x6), (7, .int x7)] → K59 x3 x4 x5 x7 = some r → W p l e { frames := 2, cells := 0, slots := 0, locals := 45 } s m args below meth c H locs 0 0 (Qi below args s D (wsM κ ad) A r σ) (F0 m 59 ls [])) (x7 : Int32) (x8 : Int32) (H : Heap) (locs : List Loc) (ls : Array Slot) (h : Wd D (wsM κ ad) A s.heap H locs σ) (hl : lv_has ls 9 [(0, .ref (ad 0)), (1, .int x1), (2, .int x2), (6, .int x6), (7, .int x7), (8, .int x8)]) (hf : fX7_sew_135 σ x1 x2 x6 K47 K59 x7 x8 = some r) : W p l e { frames := 2, cells := 0, slots := 0, locals := 45 } s m args below meth c H locs 0 0 (Qi below args s D (wsM κ ad) A r σ) (F0 m 135 ls []) := by
  obtain ⟨hx, hb, hml, hr, hlk, hown, hts, hK, hA, hZ⟩ := id C
  unfold fX7_sew_135 at hf
  refine lv_iload hx hb dX7_sew_135 (lv_at hl 5 rfl) ?_
  refine lv_istore_n (lv' := [(3, .int x8), (0, .ref (ad 0)), (1, .int x1), (2, .int x2), (6, .int x6), (7, .int x7), (8, .int x8)]) hx hb dX7_sew_137 rfl hl (by decide) rfl (fun ls hl => ?_)
  refine lv_iload hx hb dX7_sew_138 (lv_at hl 4 rfl) ?_
  refine lv_istore (lv' := [(4, .int x6), (3, .int x8), (0, .ref (ad 0)), (1, .int x1), (2, .int x2), (6, .int x6), (7, .int x7), (8, .int x8)]) hx hb dX7_sew_140 hl (by decide) rfl (fun ls hl => ?_)
  refine lv_iload hx hb dX7_sew_142 (lv_at hl 6 rfl) ?_
  refine lv_istore (lv' := [(5, .int x7), (4, .int x6), (3, .int x8), (0, .ref (ad 0)), (1, .int x1), (2, .int x2), (6, .int x6), (7, .int x7), (8, .int x8)]) hx hb dX7_sew_144 hl (by decide) rfl (fun ls hl => ?_)
  refine lv_iinc (v := (x7 + 1)) (lv' := [(7, .int (x7 + 1)), (5, .int x7), (4, .int x6), (3, .int x8), (0, .ref (ad 0)), (1, .int x1), (2, .int x2), (6, .int x6), (8, .int x8)]) hx hb dX7_sew_146 hl (k := 7) rfl rfl (by decide) rfl (fun ls hl => ?_)
  refine lv_goto (tgt := 59) hx hb dX7_sew_149 (by decide) ?_
  exact hK59 x8 x6 x7 (x7 + 1) _ _ _ h (lv_sub hl [4, 5, 6, 3, 2, 1, 7, 0] rfl) hf
def fX7_sew_120 (σ : Sg) (x1 : Int32) (x2 : Int32) (x6 : Int32) (K47 : Int32 → Int32 → Int32 → Int32 → Option (Int32)) (K59 : Int32 → Int32 → Int32 → Int32 → Option (Int32)) (x3 : Int32) (x4 : Int32) (x5 : Int32) (x7 : Int32) (z0 : Int32) (z1 : Int32) : Option (Int32) :=
  (if x3 = (-9) then fX7_sew_135 σ x1 x2 x6 K47 K59 x7 (z1 + z0) else (if x3 ≤ (z1 + z0) then K59 x3 x4 x5 (x7 + 1) else fX7_sew_135 σ x1 x2 x6 K47 K59 x7 (z1 + z0)))
set_option maxHeartbeats 4000000 in
set_option maxRecDepth 100000 in
theorem jX7_sew_120 {p : Program} {l : Launch} {e : Env} {s : State} {m : MethodId} {args : Array Value} {below : List Frame} {meth : Method} {c : Code} {D : va_G} {κ : Kp} {ad : Nat → Nat} {A : Nat → Prop} {r : Int32} (C : Mc p s m args meth c cX7_sew 9 (some .int) wsX7_sew RX7 D κ A) (σ : Sg) (x1 : Int32) (x2 : Int32) (x6 : Int32) (K47 : Int32 → Int32 → Int32 → Int32 → Option (Int32)) (hK47 : ∀ (x3 : Int32) (x4 : Int32) (x5 : Int32) (x6 : Int32) (H : Heap) (locs : List Loc) (ls : Array Slot), Wd D (wsM κ ad) A s.heap H locs σ → lv_has ls 9 [(0, .ref (ad 0)), (1, .int x1), (2, .int x2), (3, .int x3), (4, .int x4), (5, .int x5), (6, .int x6)] → K47 x3 x4 x5 x6 = some r → W p l e { frames := 2, cells := 0, slots := 0, locals := 45 } s m args below meth c H locs 0 0 (Qi below args s D (wsM κ ad) A r σ) (F0 m 47 ls [])) (K59 : Int32 → Int32 → Int32 → Int32 → Option (Int32)) (hK59 : ∀ (x3 : Int32) (x4 : Int32) (x5 : Int32) (x7 : Int32) (H : Heap) (locs : List Loc) (ls : Array Slot), Wd D (wsM κ ad) A s.heap H locs σ → lv_has ls 9 [(0, .ref (ad 0)), (1, .int x1), (2, .int x2), (3, .int x3), (4, .int x4), (5, .int x5), (6, .int x6), (7, .int x7)] → K59 x3 x4 x5 x7 = some r → W p l e { frames := 2, cells := 0, slots := 0, locals := 45 } s m args below meth c H locs 0 0 (Qi below args s D (wsM κ ad) A r σ) (F0 m 59 ls [])) (x3 : Int32) (x4 : Int32) (x5 : Int32) (x7 : Int32) (z0 : Int32) (z1 : Int32) (H : Heap) (locs : List Loc) (ls : Array Slot) (h : Wd D (wsM κ ad) A s.heap H locs σ) (hl : lv_has ls 9 [(0, .ref (ad 0)), (1, .int x1), (2, .int x2), (3, .int x3), (4, .int x4), (5, .int x5), (6, .int x6), (7, .int x7)]) (hf : fX7_sew_120 σ x1 x2 x6 K47 K59 x3 x4 x5 x7 z0 z1 = some r) : W p l e { frames := 2, cells := 0, slots := 0, locals := 45 } s m args below meth c H locs 0 0 (Qi below args s D (wsM κ ad) A r σ) (F0 m 120 ls [.int z0, .int z1]) := by
  obtain ⟨hx, hb, hml, hr, hlk, hown, hts, hK, hA, hZ⟩ := id C
  unfold fX7_sew_120 at hf
  refine lv_iadd hx hb dX7_sew_120 ?_
  refine lv_istore (lv' := [(8, .int (z1 + z0)), (0, .ref (ad 0)), (1, .int x1), (2, .int x2), (3, .int x3), (4, .int x4), (5, .int x5), (6, .int x6), (7, .int x7)]) hx hb dX7_sew_121 hl (by decide) rfl (fun ls hl => ?_)
  refine lv_iload_n hx hb dX7_sew_123 rfl (lv_at hl 4 rfl) ?_
  refine lv_bipush (v := (-9)) hx hb dX7_sew_124 (by decide) ?_
  refine lv_icmp_eq (tgt := 135) hx hb dX7_sew_126 (by decide) (fun c1 => ?_) (fun c1 => ?_)
  · have hf := tk_t c1 hf
    exact jX7_sew_135 C σ x1 x2 x6 K47 hK47 K59 hK59 x7 (z1 + z0) _ _ _ h (lv_sub hl [1, 2, 3, 7, 8, 0] rfl) hf
  · have hf := tk_f c1 hf
    refine lv_iload hx hb dX7_sew_129 (lv_at hl 0 rfl) ?_
    refine lv_iload_n hx hb dX7_sew_131 rfl (lv_at hl 4 rfl) ?_
    refine lv_icmp_ge (tgt := 146) hx hb dX7_sew_132 (by decide) (fun c2 => ?_) (fun c2 => ?_)
    · have hf := tk_t c2 hf
      refine lv_iinc (v := (x7 + 1)) (lv' := [(7, .int (x7 + 1)), (8, .int (z1 + z0)), (0, .ref (ad 0)), (1, .int x1), (2, .int x2), (3, .int x3), (4, .int x4), (5, .int x5), (6, .int x6)]) hx hb dX7_sew_146 hl (k := 8) rfl rfl (by decide) rfl (fun ls hl => ?_)
      refine lv_goto (tgt := 59) hx hb dX7_sew_149 (by decide) ?_
      exact hK59 x3 x4 x5 (x7 + 1) _ _ _ h (lv_sub hl [2, 3, 4, 5, 6, 7, 8, 0] rfl) hf
    · have hf := tk_f c2 hf
      exact jX7_sew_135 C σ x1 x2 x6 K47 hK47 K59 hK59 x7 (z1 + z0) _ _ _ h (lv_sub hl [1, 2, 3, 7, 8, 0] rfl) hf
def fX7_sew_59 (σ : Sg) (x1 : Int32) (x2 : Int32) (x6 : Int32) (K47 : Int32 → Int32 → Int32 → Int32 → Option (Int32)) : Nat → Int32 → Int32 → Int32 → Int32 → Option (Int32)
  | 0, _, _, _, _ => none
  | n + 1, x3, x4, x5, x7 => (if 6 ≤ x7 then K47 x3 x4 x5 (x6 + 1) else (if gIn x6 6 then (if (σ 9 x6.toNatClampNeg) ≤ 0 then K47 x3 x4 x5 (x6 + 1) else ((fX7_farFrom x6 (σ 0 5) (σ 0 6) σ).bind fun r7 => (if gIn x7 6 then (if x7 = x1 then fX7_sew_120 σ x1 x2 x6 K47 (fX7_sew_59 σ x1 x2 x6 K47 n) x3 x4 x5 x7 0 ((r7 * (σ 4 x7.toNatClampNeg)) + (σ 10 x6.toNatClampNeg)) else fX7_sew_120 σ x1 x2 x6 K47 (fX7_sew_59 σ x1 x2 x6 K47 n) x3 x4 x5 x7 (σ 0 8) ((r7 * (σ 4 x7.toNatClampNeg)) + (σ 10 x6.toNatClampNeg))) else none))) else none))
set_option maxHeartbeats 4000000 in
set_option maxRecDepth 100000 in
theorem jX7_sew_59 {p : Program} {l : Launch} {e : Env} {s : State} {m : MethodId} {args : Array Value} {below : List Frame} {meth : Method} {c : Code} {D : va_G} {κ : Kp} {ad : Nat → Nat} {A : Nat → Prop} {r : Int32} (C : Mc p s m args meth c cX7_sew 9 (some .int) wsX7_sew RX7 D κ A) (σ : Sg) (x1 : Int32) (x2 : Int32) (x6 : Int32) (K47 : Int32 → Int32 → Int32 → Int32 → Option (Int32)) (hK47 : ∀ (x3 : Int32) (x4 : Int32) (x5 : Int32) (x6 : Int32) (H : Heap) (locs : List Loc) (ls : Array Slot), Wd D (wsM κ ad) A s.heap H locs σ → lv_has ls 9 [(0, .ref (ad 0)), (1, .int x1), (2, .int x2), (3, .int x3), (4, .int x4), (5, .int x5), (6, .int x6)] → K47 x3 x4 x5 x6 = some r → W p l e { frames := 2, cells := 0, slots := 0, locals := 45 } s m args below meth c H locs 0 0 (Qi below args s D (wsM κ ad) A r σ) (F0 m 47 ls [])) : ∀ (n : Nat) (x3 : Int32) (x4 : Int32) (x5 : Int32) (x7 : Int32) (H : Heap) (locs : List Loc) (ls : Array Slot), Wd D (wsM κ ad) A s.heap H locs σ → lv_has ls 9 [(0, .ref (ad 0)), (1, .int x1), (2, .int x2), (3, .int x3), (4, .int x4), (5, .int x5), (6, .int x6), (7, .int x7)] → fX7_sew_59 σ x1 x2 x6 K47 n x3 x4 x5 x7 = some r → W p l e { frames := 2, cells := 0, slots := 0, locals := 45 } s m args below meth c H locs 0 0 (Qi below args s D (wsM κ ad) A r σ) (F0 m 59 ls []) := by
  obtain ⟨hx, hb, hml, hr, hlk, hown, hts, hK, hA, hZ⟩ := id C
  intro n
  induction n with
  | zero =>
    intro x3 x4 x5 x7 H locs ls h hl hf
    rw [fX7_sew_59] at hf
    cases hf
  | succ n ih =>
    intro x3 x4 x5 x7 H locs ls h hl hf
    rw [fX7_sew_59] at hf
    refine lv_iload hx hb dX7_sew_59 (lv_at hl 7 rfl) ?_
    refine lv_bipush (v := 6) hx hb dX7_sew_61 (by decide) ?_
    refine lv_icmp_ge (tgt := 152) hx hb dX7_sew_63 (by decide) (fun c3 => ?_) (fun c3 => ?_)
    · have hf := tk_t c3 hf
      refine lv_iinc (v := (x6 + 1)) (lv' := [(6, .int (x6 + 1)), (0, .ref (ad 0)), (1, .int x1), (2, .int x2), (3, .int x3), (4, .int x4), (5, .int x5), (7, .int x7)]) hx hb dX7_sew_152 hl (k := 6) rfl rfl (by decide) rfl (fun ls hl => ?_)
      refine lv_goto (tgt := 47) hx hb dX7_sew_155 (by decide) ?_
      exact hK47 x3 x4 x5 (x6 + 1) _ _ _ h (lv_sub hl [1, 2, 3, 4, 5, 6, 0] rfl) hf
    · have hf := tk_f c3 hf
      refine lv_aload_n hx hb dX7_sew_66 rfl (lv_at hl 0 rfl) ?_
      refine x_get (v := .ref (ad 9)) C h (gM_Mo κ ad σ) rfl inX7_sew_X7 15 (by decide) (hts _ lkX7_sew_34) rfl dX7_sew_67 ?_
      refine lv_iload hx hb dX7_sew_70 (lv_at hl 6 rfl) ?_
      obtain ⟨g4, hf⟩ := gd_ok hf
      refine x_iald (v := (σ 9 x6.toNatClampNeg)) C h (gM_m_count κ ad σ) g4 rfl dX7_sew_72 ?_
      refine lv_if_le (tgt := 152) hx hb dX7_sew_73 (by decide) (fun c5 => ?_) (fun c5 => ?_)
      · have hf := tk_t c5 hf
        refine lv_iinc (v := (x6 + 1)) (lv' := [(6, .int (x6 + 1)), (0, .ref (ad 0)), (1, .int x1), (2, .int x2), (3, .int x3), (4, .int x4), (5, .int x5), (7, .int x7)]) hx hb dX7_sew_152 hl (k := 6) rfl rfl (by decide) rfl (fun ls hl => ?_)
        refine lv_goto (tgt := 47) hx hb dX7_sew_155 (by decide) ?_
        exact hK47 x3 x4 x5 (x6 + 1) _ _ _ h (lv_sub hl [1, 2, 3, 4, 5, 6, 0] rfl) hf
      · have hf := tk_f c5 hf
        refine lv_aload_n hx hb dX7_sew_76 rfl (lv_at hl 0 rfl) ?_
        refine lv_iload hx hb dX7_sew_77 (lv_at hl 6 rfl) ?_
        refine lv_aload_n hx hb dX7_sew_79 rfl (lv_at hl 0 rfl) ?_
        refine x_get (v := .int (σ 0 5)) C h (gM_Mo κ ad σ) rfl inX7_sew_X7 5 (by decide) (hts _ lkX7_sew_99) rfl dX7_sew_80 ?_
        refine lv_aload_n hx hb dX7_sew_83 rfl (lv_at hl 0 rfl) ?_
        refine x_get (v := .int (σ 0 6)) C h (gM_Mo κ ad σ) rfl inX7_sew_X7 6 (by decide) (hts _ lkX7_sew_102) rfl dX7_sew_84 ?_
        obtain ⟨r7, hg6, hf⟩ := bd_ok hf
        refine x_vi (As := [.int x6, .int (σ 0 5), .int (σ 0 6)]) (rest := []) C h (gM_Mo κ ad σ) rfl (kX7_farFrom l D κ ad x6 (σ 0 5) (σ 0 6) σ (r := r7) hg6) (fun hts => cwV 3 hts gX7_sew_X7_farFrom rfl rfl rfl (by decide +kernel) ⟨Nat.le_of_ble_eq_true rfl, Nat.le_of_ble_eq_true rfl⟩) rfl hl.1 (Nat.le_of_ble_eq_true rfl) rfl dX7_sew_87 (fun H locs h => ?_)
        refine lv_aload_n hx hb dX7_sew_90 rfl (lv_at hl 0 rfl) ?_
        refine x_get (v := .ref (ad 4)) C h (gM_Mo κ ad σ) rfl inX7_sew_X7 9 (by decide) (hts _ lkX7_sew_19) rfl dX7_sew_91 ?_
        refine lv_iload hx hb dX7_sew_94 (lv_at hl 7 rfl) ?_
        obtain ⟨g8, hf⟩ := gd_ok hf
        refine x_iald (v := (σ 4 x7.toNatClampNeg)) C h (gM_m_seenIn κ ad σ) g8 rfl dX7_sew_96 ?_
        refine lv_imul hx hb dX7_sew_97 ?_
        refine lv_aload_n hx hb dX7_sew_98 rfl (lv_at hl 0 rfl) ?_
        refine x_get (v := .ref (ad 10)) C h (gM_Mo κ ad σ) rfl inX7_sew_X7 16 (by decide) (hts _ lkX7_sew_37) rfl dX7_sew_99 ?_
        refine lv_iload hx hb dX7_sew_102 (lv_at hl 6 rfl) ?_
        refine x_iald (v := (σ 10 x6.toNatClampNeg)) C h (gM_m_pence κ ad σ) g4 rfl dX7_sew_104 ?_
        refine lv_iadd hx hb dX7_sew_105 ?_
        refine lv_iload hx hb dX7_sew_106 (lv_at hl 7 rfl) ?_
        refine lv_iload_n hx hb dX7_sew_108 rfl (lv_at hl 1 rfl) ?_
        refine lv_icmp_ne (tgt := 116) hx hb dX7_sew_109 (by decide) (fun c9 => ?_) (fun c9 => ?_)
        · have hf := tk_f c9 hf
          refine lv_aload_n hx hb dX7_sew_116 rfl (lv_at hl 0 rfl) ?_
          refine x_get (v := .int (σ 0 8)) C h (gM_Mo κ ad σ) rfl inX7_sew_X7 8 (by decide) (hts _ lkX7_sew_108) rfl dX7_sew_117 ?_
          exact jX7_sew_120 C σ x1 x2 x6 K47 hK47 (fX7_sew_59 σ x1 x2 x6 K47 n) ih x3 x4 x5 x7 (σ 0 8) ((r7 * (σ 4 x7.toNatClampNeg)) + (σ 10 x6.toNatClampNeg)) _ _ _ h (lv_sub hl [0, 1, 2, 3, 4, 5, 6, 7] rfl) hf
        · have hf := tk_t c9 hf
          refine lv_iconst (v := 0) hx hb dX7_sew_112 (by decide) ?_
          refine lv_goto (tgt := 120) hx hb dX7_sew_113 (by decide) ?_
          exact jX7_sew_120 C σ x1 x2 x6 K47 hK47 (fX7_sew_59 σ x1 x2 x6 K47 n) ih x3 x4 x5 x7 0 ((r7 * (σ 4 x7.toNatClampNeg)) + (σ 10 x6.toNatClampNeg)) _ _ _ h (lv_sub hl [0, 1, 2, 3, 4, 5, 6, 7] rfl) hf
def fX7_sew_47 (σ : Sg) (x1 : Int32) (x2 : Int32) : Nat → Int32 → Int32 → Int32 → Int32 → Option (Int32)
  | 0, _, _, _, _ => none
  | n + 1, x3, x4, x5, x6 => (if (σ 0 10) ≤ x6 then (if x2 = 0 then some x3 else (if x2 = 1 then some x4 else some x5)) else fX7_sew_59 σ x1 x2 x6 (fX7_sew_47 σ x1 x2 n) 1000 x3 x4 x5 0)
set_option maxHeartbeats 4000000 in
set_option maxRecDepth 100000 in
theorem jX7_sew_47 {p : Program} {l : Launch} {e : Env} {s : State} {m : MethodId} {args : Array Value} {below : List Frame} {meth : Method} {c : Code} {D : va_G} {κ : Kp} {ad : Nat → Nat} {A : Nat → Prop} {r : Int32} (C : Mc p s m args meth c cX7_sew 9 (some .int) wsX7_sew RX7 D κ A) (σ : Sg) (x1 : Int32) (x2 : Int32) : ∀ (n : Nat) (x3 : Int32) (x4 : Int32) (x5 : Int32) (x6 : Int32) (H : Heap) (locs : List Loc) (ls : Array Slot), Wd D (wsM κ ad) A s.heap H locs σ → lv_has ls 9 [(0, .ref (ad 0)), (1, .int x1), (2, .int x2), (3, .int x3), (4, .int x4), (5, .int x5), (6, .int x6)] → fX7_sew_47 σ x1 x2 n x3 x4 x5 x6 = some r → W p l e { frames := 2, cells := 0, slots := 0, locals := 45 } s m args below meth c H locs 0 0 (Qi below args s D (wsM κ ad) A r σ) (F0 m 47 ls []) := by
  obtain ⟨hx, hb, hml, hr, hlk, hown, hts, hK, hA, hZ⟩ := id C
  intro n
  induction n with
  | zero =>
    intro x3 x4 x5 x6 H locs ls h hl hf
    rw [fX7_sew_47] at hf
    cases hf
  | succ n ih =>
    intro x3 x4 x5 x6 H locs ls h hl hf
    rw [fX7_sew_47] at hf
    refine lv_iload hx hb dX7_sew_47 (lv_at hl 6 rfl) ?_
    refine lv_aload_n hx hb dX7_sew_49 rfl (lv_at hl 0 rfl) ?_
    refine x_get (v := .int (σ 0 10)) C h (gM_Mo κ ad σ) rfl inX7_sew_X7 10 (by decide) (hts _ lkX7_sew_72) rfl dX7_sew_50 ?_
    refine lv_icmp_ge (tgt := 158) hx hb dX7_sew_53 (by decide) (fun c10 => ?_) (fun c10 => ?_)
    · have hf := tk_t c10 hf
      refine lv_iload_n hx hb dX7_sew_158 rfl (lv_at hl 2 rfl) ?_
      refine lv_if_ne (tgt := 166) hx hb dX7_sew_159 (by decide) (fun c11 => ?_) (fun c11 => ?_)
      · have hf := tk_f c11 hf
        refine lv_iload_n hx hb dX7_sew_166 rfl (lv_at hl 2 rfl) ?_
        refine lv_iconst (v := 1) hx hb dX7_sew_167 (by decide) ?_
        refine lv_icmp_ne (tgt := 176) hx hb dX7_sew_168 (by decide) (fun c12 => ?_) (fun c12 => ?_)
        · have hf := tk_f c12 hf
          refine lv_iload hx hb dX7_sew_176 (lv_at hl 5 rfl) ?_
          obtain rfl := so_ok hf
          exact x_iret C h dX7_sew_178
        · have hf := tk_t c12 hf
          refine lv_iload hx hb dX7_sew_171 (lv_at hl 4 rfl) ?_
          refine lv_goto (tgt := 178) hx hb dX7_sew_173 (by decide) ?_
          obtain rfl := so_ok hf
          exact x_iret C h dX7_sew_178
      · have hf := tk_t c11 hf
        refine lv_iload_n hx hb dX7_sew_162 rfl (lv_at hl 3 rfl) ?_
        refine lv_goto (tgt := 178) hx hb dX7_sew_163 (by decide) ?_
        obtain rfl := so_ok hf
        exact x_iret C h dX7_sew_178
    · have hf := tk_f c10 hf
      refine lv_iconst (v := 0) hx hb dX7_sew_56 (by decide) ?_
      refine lv_istore (lv' := [(7, .int 0), (0, .ref (ad 0)), (1, .int x1), (2, .int x2), (3, .int x3), (4, .int x4), (5, .int x5), (6, .int x6)]) hx hb dX7_sew_57 hl (by decide) rfl (fun ls hl => ?_)
      exact jX7_sew_59 C σ x1 x2 x6 (fX7_sew_47 σ x1 x2 n) ih 1000 x3 x4 x5 0 _ _ _ h (lv_sub hl [1, 2, 3, 4, 5, 6, 7, 0] rfl) hf
def fX7_sew (x1 : Int32) (x2 : Int32) (σ : Sg) : Option (Int32) :=
  (if (fX7_within x1 0 5 σ) = 0 then some (-1) else (if (fX7_within x2 0 2 σ) = 0 then some (-2) else (if (σ 0 10) = 0 then some (-3) else fX7_sew_47 σ x1 x2 1000 (-9) (-9) (-9) 0)))
set_option maxHeartbeats 4000000 in
set_option maxRecDepth 100000 in
theorem kX7_sew (l : Launch) (D : va_G) (κ : Kp) (ad : Nat → Nat) (x1 : Int32) (x2 : Int32) (σ : Sg) {r : Int32} (hf : fX7_sew x1 x2 σ = some r) : Ci l D κ (wsM κ ad) yX7_sew wsX7_sew 2 45 [.ref (ad 0), .int x1, .int x2] σ r σ := by
  refine Ci.of (cc := cX7_sew) (nL := 9) (ret := (some .int)) (by decide) rfl (Nat.le_of_ble_eq_true rfl) ?_
  intro p e s m below meth c A ls C h hl
  obtain ⟨hx, hb, hml, hr, hlk, hown, hts, hK, hA, hZ⟩ := id C
  have hl : lv_has ls 9 [(0, .ref (ad 0)), (1, .int x1), (2, .int x2)] := hl
  unfold fX7_sew at hf
  refine lv_iload_n hx hb dX7_sew_0 rfl (lv_at hl 1 rfl) ?_
  refine lv_iconst (v := 0) hx hb dX7_sew_1 (by decide) ?_
  refine lv_iconst (v := 5) hx hb dX7_sew_2 (by decide) ?_
  refine x_si (As := [.int x1, .int 0, .int 5]) (rest := []) C h (kX7_within l D κ ad x1 0 5 σ (r := (fX7_within x1 0 5 σ)) rfl) (fun hts => va_cwS 3 hts gX7_sew_X7_within rfl rfl rfl (by decide +kernel) ⟨Nat.le_of_ble_eq_true rfl, Nat.le_of_ble_eq_true rfl⟩) rfl hl.1 (Nat.le_of_ble_eq_true rfl) rfl dX7_sew_3 (fun H locs h => ?_)
  refine lv_if_ne (tgt := 11) hx hb dX7_sew_6 (by decide) (fun c13 => ?_) (fun c13 => ?_)
  · have hf := tk_f c13 hf
    refine lv_iload_n hx hb dX7_sew_11 rfl (lv_at hl 2 rfl) ?_
    refine lv_iconst (v := 0) hx hb dX7_sew_12 (by decide) ?_
    refine lv_iconst (v := 2) hx hb dX7_sew_13 (by decide) ?_
    refine x_si (As := [.int x2, .int 0, .int 2]) (rest := []) C h (kX7_within l D κ ad x2 0 2 σ (r := (fX7_within x2 0 2 σ)) rfl) (fun hts => va_cwS 3 hts gX7_sew_X7_within rfl rfl rfl (by decide +kernel) ⟨Nat.le_of_ble_eq_true rfl, Nat.le_of_ble_eq_true rfl⟩) rfl hl.1 (Nat.le_of_ble_eq_true rfl) rfl dX7_sew_14 (fun H locs h => ?_)
    refine lv_if_ne (tgt := 23) hx hb dX7_sew_17 (by decide) (fun c14 => ?_) (fun c14 => ?_)
    · have hf := tk_f c14 hf
      refine lv_aload_n hx hb dX7_sew_23 rfl (lv_at hl 0 rfl) ?_
      refine x_get (v := .int (σ 0 10)) C h (gM_Mo κ ad σ) rfl inX7_sew_X7 10 (by decide) (hts _ lkX7_sew_72) rfl dX7_sew_24 ?_
      refine lv_if_ne (tgt := 33) hx hb dX7_sew_27 (by decide) (fun c15 => ?_) (fun c15 => ?_)
      · have hf := tk_f c15 hf
        refine lv_bipush (v := (-9)) hx hb dX7_sew_33 (by decide) ?_
        refine lv_istore_n (lv' := [(3, .int (-9)), (0, .ref (ad 0)), (1, .int x1), (2, .int x2)]) hx hb dX7_sew_35 rfl hl (by decide) rfl (fun ls hl => ?_)
        refine lv_bipush (v := (-9)) hx hb dX7_sew_36 (by decide) ?_
        refine lv_istore (lv' := [(4, .int (-9)), (3, .int (-9)), (0, .ref (ad 0)), (1, .int x1), (2, .int x2)]) hx hb dX7_sew_38 hl (by decide) rfl (fun ls hl => ?_)
        refine lv_bipush (v := (-9)) hx hb dX7_sew_40 (by decide) ?_
        refine lv_istore (lv' := [(5, .int (-9)), (4, .int (-9)), (3, .int (-9)), (0, .ref (ad 0)), (1, .int x1), (2, .int x2)]) hx hb dX7_sew_42 hl (by decide) rfl (fun ls hl => ?_)
        refine lv_iconst (v := 0) hx hb dX7_sew_44 (by decide) ?_
        refine lv_istore (lv' := [(6, .int 0), (5, .int (-9)), (4, .int (-9)), (3, .int (-9)), (0, .ref (ad 0)), (1, .int x1), (2, .int x2)]) hx hb dX7_sew_45 hl (by decide) rfl (fun ls hl => ?_)
        exact jX7_sew_47 C σ x1 x2 1000 (-9) (-9) (-9) 0 _ _ _ h (lv_sub hl [4, 5, 6, 3, 2, 1, 0] rfl) hf
      · have hf := tk_t c15 hf
        refine lv_bipush (v := (-3)) hx hb dX7_sew_30 (by decide) ?_
        obtain rfl := so_ok hf
        exact x_iret C h dX7_sew_32
    · have hf := tk_t c14 hf
      refine lv_bipush (v := (-2)) hx hb dX7_sew_20 (by decide) ?_
      obtain rfl := so_ok hf
      exact x_iret C h dX7_sew_22
  · have hf := tk_t c13 hf
    refine lv_iconst (v := (-1)) hx hb dX7_sew_9 (by decide) ?_
    obtain rfl := so_ok hf
    exact x_iret C h dX7_sew_10

-- ===== X7_set: ButtonMatchModel.set(I)I
theorem lkX7_set_37 : Cond.fieldLink RX7 37 "ButtonMatchModel" "pence" "[I" ∈ wsX7_set := by decide +kernel
theorem inX7_set_X7 : ∀ w ∈ wsX70, w ∈ wsX7_set := fun _ h => List.mem_cons_of_mem _ (List.mem_append_right _ h)
theorem lkX7_set_72 : Cond.fieldLink RX7 72 "ButtonMatchModel" "tubes" "I" ∈ wsX7_set := by decide +kernel
theorem lkX7_set_34 : Cond.fieldLink RX7 34 "ButtonMatchModel" "count" "[I" ∈ wsX7_set := by decide +kernel
def fX7_set_64 (σ : Sg) (x1 : Int32) (K28 : Int32 → Int32 → Option (Int32)) (x3 : Int32) : Option (Int32) :=
  (if gIn x3 6 then K28 (x1 * (σ 10 x3.toNatClampNeg)) (x3 + 1) else none)
set_option maxHeartbeats 4000000 in
set_option maxRecDepth 100000 in
theorem jX7_set_64 {p : Program} {l : Launch} {e : Env} {s : State} {m : MethodId} {args : Array Value} {below : List Frame} {meth : Method} {c : Code} {D : va_G} {κ : Kp} {ad : Nat → Nat} {A : Nat → Prop} {r : Int32} (C : Mc p s m args meth c cX7_set 4 (some .int) wsX7_set RX7 D κ A) (σ : Sg) (x1 : Int32) (K28 : Int32 → Int32 → Option (Int32)) (hK28 : ∀ (x2 : Int32) (x3 : Int32) (H : Heap) (locs : List Loc) (ls : Array Slot), Wd D (wsM κ ad) A s.heap H locs σ → lv_has ls 4 [(0, .ref (ad 0)), (1, .int x1), (2, .int x2), (3, .int x3)] → K28 x2 x3 = some r → W p l e { frames := 1, cells := 0, slots := 0, locals := 22 } s m args below meth c H locs 0 0 (Qi below args s D (wsM κ ad) A r σ) (F0 m 28 ls [])) (x3 : Int32) (H : Heap) (locs : List Loc) (ls : Array Slot) (h : Wd D (wsM κ ad) A s.heap H locs σ) (hl : lv_has ls 4 [(0, .ref (ad 0)), (1, .int x1), (3, .int x3)]) (hf : fX7_set_64 σ x1 K28 x3 = some r) : W p l e { frames := 1, cells := 0, slots := 0, locals := 22 } s m args below meth c H locs 0 0 (Qi below args s D (wsM κ ad) A r σ) (F0 m 64 ls []) := by
  obtain ⟨hx, hb, hml, hr, hlk, hown, hts, hK, hA, hZ⟩ := id C
  unfold fX7_set_64 at hf
  refine lv_iload_n hx hb dX7_set_64 rfl (lv_at hl 1 rfl) ?_
  refine lv_aload_n hx hb dX7_set_65 rfl (lv_at hl 0 rfl) ?_
  refine x_get (v := .ref (ad 10)) C h (gM_Mo κ ad σ) rfl inX7_set_X7 16 (by decide) (hts _ lkX7_set_37) rfl dX7_set_66 ?_
  refine lv_iload_n hx hb dX7_set_69 rfl (lv_at hl 2 rfl) ?_
  obtain ⟨g1, hf⟩ := gd_ok hf
  refine x_iald (v := (σ 10 x3.toNatClampNeg)) C h (gM_m_pence κ ad σ) g1 rfl dX7_set_70 ?_
  refine lv_imul hx hb dX7_set_71 ?_
  refine lv_istore_n (lv' := [(2, .int (x1 * (σ 10 x3.toNatClampNeg))), (0, .ref (ad 0)), (1, .int x1), (3, .int x3)]) hx hb dX7_set_72 rfl hl (by decide) rfl (fun ls hl => ?_)
  refine lv_iinc (v := (x3 + 1)) (lv' := [(3, .int (x3 + 1)), (2, .int (x1 * (σ 10 x3.toNatClampNeg))), (0, .ref (ad 0)), (1, .int x1)]) hx hb dX7_set_73 hl (k := 3) rfl rfl (by decide) rfl (fun ls hl => ?_)
  refine lv_goto (tgt := 28) hx hb dX7_set_76 (by decide) ?_
  exact hK28 (x1 * (σ 10 x3.toNatClampNeg)) (x3 + 1) _ _ _ h (lv_sub hl [2, 3, 1, 0] rfl) hf
def fX7_set_28 (σ : Sg) (x1 : Int32) : Nat → Int32 → Int32 → Option (Int32)
  | 0, _, _ => none
  | n + 1, x2, x3 => (if (σ 0 10) ≤ x3 then some x2 else (if gIn x3 6 then (if (σ 9 x3.toNatClampNeg) < x1 then fX7_set_28 σ x1 n x2 (x3 + 1) else (if x2 = (-9) then fX7_set_64 σ x1 (fX7_set_28 σ x1 n) x3 else (if x2 ≤ (x1 * (σ 10 x3.toNatClampNeg)) then fX7_set_28 σ x1 n x2 (x3 + 1) else fX7_set_64 σ x1 (fX7_set_28 σ x1 n) x3))) else none))
set_option maxHeartbeats 4000000 in
set_option maxRecDepth 100000 in
theorem jX7_set_28 {p : Program} {l : Launch} {e : Env} {s : State} {m : MethodId} {args : Array Value} {below : List Frame} {meth : Method} {c : Code} {D : va_G} {κ : Kp} {ad : Nat → Nat} {A : Nat → Prop} {r : Int32} (C : Mc p s m args meth c cX7_set 4 (some .int) wsX7_set RX7 D κ A) (σ : Sg) (x1 : Int32) : ∀ (n : Nat) (x2 : Int32) (x3 : Int32) (H : Heap) (locs : List Loc) (ls : Array Slot), Wd D (wsM κ ad) A s.heap H locs σ → lv_has ls 4 [(0, .ref (ad 0)), (1, .int x1), (2, .int x2), (3, .int x3)] → fX7_set_28 σ x1 n x2 x3 = some r → W p l e { frames := 1, cells := 0, slots := 0, locals := 22 } s m args below meth c H locs 0 0 (Qi below args s D (wsM κ ad) A r σ) (F0 m 28 ls []) := by
  obtain ⟨hx, hb, hml, hr, hlk, hown, hts, hK, hA, hZ⟩ := id C
  intro n
  induction n with
  | zero =>
    intro x2 x3 H locs ls h hl hf
    rw [fX7_set_28] at hf
    cases hf
  | succ n ih =>
    intro x2 x3 H locs ls h hl hf
    rw [fX7_set_28] at hf
    refine lv_iload_n hx hb dX7_set_28 rfl (lv_at hl 3 rfl) ?_
    refine lv_aload_n hx hb dX7_set_29 rfl (lv_at hl 0 rfl) ?_
    refine x_get (v := .int (σ 0 10)) C h (gM_Mo κ ad σ) rfl inX7_set_X7 10 (by decide) (hts _ lkX7_set_72) rfl dX7_set_30 ?_
    refine lv_icmp_ge (tgt := 79) hx hb dX7_set_33 (by decide) (fun c2 => ?_) (fun c2 => ?_)
    · have hf := tk_t c2 hf
      refine lv_iload_n hx hb dX7_set_79 rfl (lv_at hl 2 rfl) ?_
      obtain rfl := so_ok hf
      exact x_iret C h dX7_set_80
    · have hf := tk_f c2 hf
      refine lv_aload_n hx hb dX7_set_36 rfl (lv_at hl 0 rfl) ?_
      refine x_get (v := .ref (ad 9)) C h (gM_Mo κ ad σ) rfl inX7_set_X7 15 (by decide) (hts _ lkX7_set_34) rfl dX7_set_37 ?_
      refine lv_iload_n hx hb dX7_set_40 rfl (lv_at hl 3 rfl) ?_
      obtain ⟨g3, hf⟩ := gd_ok hf
      refine x_iald (v := (σ 9 x3.toNatClampNeg)) C h (gM_m_count κ ad σ) g3 rfl dX7_set_41 ?_
      refine lv_iload_n hx hb dX7_set_42 rfl (lv_at hl 1 rfl) ?_
      refine lv_icmp_lt (tgt := 73) hx hb dX7_set_43 (by decide) (fun c4 => ?_) (fun c4 => ?_)
      · have hf := tk_t c4 hf
        refine lv_iinc (v := (x3 + 1)) (lv' := [(3, .int (x3 + 1)), (0, .ref (ad 0)), (1, .int x1), (2, .int x2)]) hx hb dX7_set_73 hl (k := 3) rfl rfl (by decide) rfl (fun ls hl => ?_)
        refine lv_goto (tgt := 28) hx hb dX7_set_76 (by decide) ?_
        exact ih x2 (x3 + 1) _ _ _ h (lv_sub hl [1, 2, 3, 0] rfl) hf
      · have hf := tk_f c4 hf
        refine lv_iload_n hx hb dX7_set_46 rfl (lv_at hl 2 rfl) ?_
        refine lv_bipush (v := (-9)) hx hb dX7_set_47 (by decide) ?_
        refine lv_icmp_eq (tgt := 64) hx hb dX7_set_49 (by decide) (fun c5 => ?_) (fun c5 => ?_)
        · have hf := tk_t c5 hf
          exact jX7_set_64 C σ x1 (fX7_set_28 σ x1 n) ih x3 _ _ _ h (lv_sub hl [0, 1, 3] rfl) hf
        · have hf := tk_f c5 hf
          refine lv_iload_n hx hb dX7_set_52 rfl (lv_at hl 1 rfl) ?_
          refine lv_aload_n hx hb dX7_set_53 rfl (lv_at hl 0 rfl) ?_
          refine x_get (v := .ref (ad 10)) C h (gM_Mo κ ad σ) rfl inX7_set_X7 16 (by decide) (hts _ lkX7_set_37) rfl dX7_set_54 ?_
          refine lv_iload_n hx hb dX7_set_57 rfl (lv_at hl 3 rfl) ?_
          refine x_iald (v := (σ 10 x3.toNatClampNeg)) C h (gM_m_pence κ ad σ) g3 rfl dX7_set_58 ?_
          refine lv_imul hx hb dX7_set_59 ?_
          refine lv_iload_n hx hb dX7_set_60 rfl (lv_at hl 2 rfl) ?_
          refine lv_icmp_ge (tgt := 73) hx hb dX7_set_61 (by decide) (fun c6 => ?_) (fun c6 => ?_)
          · have hf := tk_t c6 hf
            refine lv_iinc (v := (x3 + 1)) (lv' := [(3, .int (x3 + 1)), (0, .ref (ad 0)), (1, .int x1), (2, .int x2)]) hx hb dX7_set_73 hl (k := 3) rfl rfl (by decide) rfl (fun ls hl => ?_)
            refine lv_goto (tgt := 28) hx hb dX7_set_76 (by decide) ?_
            exact ih x2 (x3 + 1) _ _ _ h (lv_sub hl [1, 2, 3, 0] rfl) hf
          · have hf := tk_f c6 hf
            exact jX7_set_64 C σ x1 (fX7_set_28 σ x1 n) ih x3 _ _ _ h (lv_sub hl [0, 1, 3] rfl) hf
def fX7_set (x1 : Int32) (σ : Sg) : Option (Int32) :=
  (if (fX7_within x1 1 9 σ) = 0 then some (-2) else (if (σ 0 10) = 0 then some (-3) else fX7_set_28 σ x1 1000 (-9) 0))
set_option maxHeartbeats 4000000 in
set_option maxRecDepth 100000 in
theorem kX7_set (l : Launch) (D : va_G) (κ : Kp) (ad : Nat → Nat) (x1 : Int32) (σ : Sg) {r : Int32} (hf : fX7_set x1 σ = some r) : Ci l D κ (wsM κ ad) yX7_set wsX7_set 1 22 [.ref (ad 0), .int x1] σ r σ := by
  refine Ci.of (cc := cX7_set) (nL := 4) (ret := (some .int)) (by decide) rfl (Nat.le_of_ble_eq_true rfl) ?_
  intro p e s m below meth c A ls C h hl
  obtain ⟨hx, hb, hml, hr, hlk, hown, hts, hK, hA, hZ⟩ := id C
  have hl : lv_has ls 4 [(0, .ref (ad 0)), (1, .int x1)] := hl
  unfold fX7_set at hf
  refine lv_iload_n hx hb dX7_set_0 rfl (lv_at hl 1 rfl) ?_
  refine lv_iconst (v := 1) hx hb dX7_set_1 (by decide) ?_
  refine lv_bipush (v := 9) hx hb dX7_set_2 (by decide) ?_
  refine x_si (As := [.int x1, .int 1, .int 9]) (rest := []) C h (kX7_within l D κ ad x1 1 9 σ (r := (fX7_within x1 1 9 σ)) rfl) (fun hts => va_cwS 3 hts gX7_set_X7_within rfl rfl rfl (by decide +kernel) ⟨Nat.le_of_ble_eq_true rfl, Nat.le_of_ble_eq_true rfl⟩) rfl hl.1 (Nat.le_of_ble_eq_true rfl) rfl dX7_set_4 (fun H locs h => ?_)
  refine lv_if_ne (tgt := 13) hx hb dX7_set_7 (by decide) (fun c7 => ?_) (fun c7 => ?_)
  · have hf := tk_f c7 hf
    refine lv_aload_n hx hb dX7_set_13 rfl (lv_at hl 0 rfl) ?_
    refine x_get (v := .int (σ 0 10)) C h (gM_Mo κ ad σ) rfl inX7_set_X7 10 (by decide) (hts _ lkX7_set_72) rfl dX7_set_14 ?_
    refine lv_if_ne (tgt := 23) hx hb dX7_set_17 (by decide) (fun c8 => ?_) (fun c8 => ?_)
    · have hf := tk_f c8 hf
      refine lv_bipush (v := (-9)) hx hb dX7_set_23 (by decide) ?_
      refine lv_istore_n (lv' := [(2, .int (-9)), (0, .ref (ad 0)), (1, .int x1)]) hx hb dX7_set_25 rfl hl (by decide) rfl (fun ls hl => ?_)
      refine lv_iconst (v := 0) hx hb dX7_set_26 (by decide) ?_
      refine lv_istore_n (lv' := [(3, .int 0), (2, .int (-9)), (0, .ref (ad 0)), (1, .int x1)]) hx hb dX7_set_27 rfl hl (by decide) rfl (fun ls hl => ?_)
      exact jX7_set_28 C σ x1 1000 (-9) 0 _ _ _ h (lv_sub hl [2, 3, 1, 0] rfl) hf
    · have hf := tk_t c8 hf
      refine lv_bipush (v := (-3)) hx hb dX7_set_20 (by decide) ?_
      obtain rfl := so_ok hf
      exact x_iret C h dX7_set_22
  · have hf := tk_t c7 hf
    refine lv_bipush (v := (-2)) hx hb dX7_set_10 (by decide) ?_
    obtain rfl := so_ok hf
    exact x_iret C h dX7_set_12

-- ===== X7_allButtons: ButtonMatchModel.allButtons()I
theorem lkX7_allButtons_72 : Cond.fieldLink RX7 72 "ButtonMatchModel" "tubes" "I" ∈ wsX7_allButtons := by decide +kernel
theorem inX7_allButtons_X7 : ∀ w ∈ wsX70, w ∈ wsX7_allButtons := fun _ h => List.mem_cons_of_mem _ (List.mem_append_right _ h)
theorem lkX7_allButtons_34 : Cond.fieldLink RX7 34 "ButtonMatchModel" "count" "[I" ∈ wsX7_allButtons := by decide +kernel
def fX7_allButtons_4 (σ : Sg) : Nat → Int32 → Int32 → Option (Int32)
  | 0, _, _ => none
  | n + 1, x1, x2 => (if (σ 0 10) ≤ x2 then some x1 else (if gIn x2 6 then fX7_allButtons_4 σ n (x1 + (σ 9 x2.toNatClampNeg)) (x2 + 1) else none))
set_option maxHeartbeats 4000000 in
set_option maxRecDepth 100000 in
theorem jX7_allButtons_4 {p : Program} {l : Launch} {e : Env} {s : State} {m : MethodId} {args : Array Value} {below : List Frame} {meth : Method} {c : Code} {D : va_G} {κ : Kp} {ad : Nat → Nat} {A : Nat → Prop} {r : Int32} (C : Mc p s m args meth c cX7_allButtons 3 (some .int) wsX7_allButtons RX7 D κ A) (σ : Sg) : ∀ (n : Nat) (x1 : Int32) (x2 : Int32) (H : Heap) (locs : List Loc) (ls : Array Slot), Wd D (wsM κ ad) A s.heap H locs σ → lv_has ls 3 [(0, .ref (ad 0)), (1, .int x1), (2, .int x2)] → fX7_allButtons_4 σ n x1 x2 = some r → W p l e { frames := 0, cells := 0, slots := 0, locals := 0 } s m args below meth c H locs 0 0 (Qi below args s D (wsM κ ad) A r σ) (F0 m 4 ls []) := by
  obtain ⟨hx, hb, hml, hr, hlk, hown, hts, hK, hA, hZ⟩ := id C
  intro n
  induction n with
  | zero =>
    intro x1 x2 H locs ls h hl hf
    rw [fX7_allButtons_4] at hf
    cases hf
  | succ n ih =>
    intro x1 x2 H locs ls h hl hf
    rw [fX7_allButtons_4] at hf
    refine lv_iload_n hx hb dX7_allButtons_4 rfl (lv_at hl 2 rfl) ?_
    refine lv_aload_n hx hb dX7_allButtons_5 rfl (lv_at hl 0 rfl) ?_
    refine x_get (v := .int (σ 0 10)) C h (gM_Mo κ ad σ) rfl inX7_allButtons_X7 10 (by decide) (hts _ lkX7_allButtons_72) rfl dX7_allButtons_6 ?_
    refine lv_icmp_ge (tgt := 27) hx hb dX7_allButtons_9 (by decide) (fun c1 => ?_) (fun c1 => ?_)
    · have hf := tk_t c1 hf
      refine lv_iload_n hx hb dX7_allButtons_27 rfl (lv_at hl 1 rfl) ?_
      obtain rfl := so_ok hf
      exact x_iret C h dX7_allButtons_28
    · have hf := tk_f c1 hf
      refine lv_iload_n hx hb dX7_allButtons_12 rfl (lv_at hl 1 rfl) ?_
      refine lv_aload_n hx hb dX7_allButtons_13 rfl (lv_at hl 0 rfl) ?_
      refine x_get (v := .ref (ad 9)) C h (gM_Mo κ ad σ) rfl inX7_allButtons_X7 15 (by decide) (hts _ lkX7_allButtons_34) rfl dX7_allButtons_14 ?_
      refine lv_iload_n hx hb dX7_allButtons_17 rfl (lv_at hl 2 rfl) ?_
      obtain ⟨g2, hf⟩ := gd_ok hf
      refine x_iald (v := (σ 9 x2.toNatClampNeg)) C h (gM_m_count κ ad σ) g2 rfl dX7_allButtons_18 ?_
      refine lv_iadd hx hb dX7_allButtons_19 ?_
      refine lv_istore_n (lv' := [(1, .int (x1 + (σ 9 x2.toNatClampNeg))), (0, .ref (ad 0)), (2, .int x2)]) hx hb dX7_allButtons_20 rfl hl (by decide) rfl (fun ls hl => ?_)
      refine lv_iinc (v := (x2 + 1)) (lv' := [(2, .int (x2 + 1)), (1, .int (x1 + (σ 9 x2.toNatClampNeg))), (0, .ref (ad 0))]) hx hb dX7_allButtons_21 hl (k := 2) rfl rfl (by decide) rfl (fun ls hl => ?_)
      refine lv_goto (tgt := 4) hx hb dX7_allButtons_24 (by decide) ?_
      exact ih (x1 + (σ 9 x2.toNatClampNeg)) (x2 + 1) _ _ _ h (lv_sub hl [2, 1, 0] rfl) hf
def fX7_allButtons (σ : Sg) : Option (Int32) :=
  fX7_allButtons_4 σ 1000 0 0
set_option maxHeartbeats 4000000 in
set_option maxRecDepth 100000 in
theorem kX7_allButtons (l : Launch) (D : va_G) (κ : Kp) (ad : Nat → Nat) (σ : Sg) {r : Int32} (hf : fX7_allButtons σ = some r) : Ci l D κ (wsM κ ad) yX7_allButtons wsX7_allButtons 0 0 [.ref (ad 0)] σ r σ := by
  refine Ci.of (cc := cX7_allButtons) (nL := 3) (ret := (some .int)) (by decide) rfl (Nat.le_of_ble_eq_true rfl) ?_
  intro p e s m below meth c A ls C h hl
  obtain ⟨hx, hb, hml, hr, hlk, hown, hts, hK, hA, hZ⟩ := id C
  have hl : lv_has ls 3 [(0, .ref (ad 0))] := hl
  unfold fX7_allButtons at hf
  refine lv_iconst (v := 0) hx hb dX7_allButtons_0 (by decide) ?_
  refine lv_istore_n (lv' := [(1, .int 0), (0, .ref (ad 0))]) hx hb dX7_allButtons_1 rfl hl (by decide) rfl (fun ls hl => ?_)
  refine lv_iconst (v := 0) hx hb dX7_allButtons_2 (by decide) ?_
  refine lv_istore_n (lv' := [(2, .int 0), (1, .int 0), (0, .ref (ad 0))]) hx hb dX7_allButtons_3 rfl hl (by decide) rfl (fun ls hl => ?_)
  exact jX7_allButtons_4 C σ 1000 0 0 _ _ _ h (lv_sub hl [2, 1, 0] rfl) hf

-- ===== X7_falling: ButtonMatchModel.falling(II)J
def fX7_falling_5 (σ : Sg) (x0 : Int32) (x1 : Int32) : Nat → Int64 → Int32 → Option (Int64)
  | 0, _, _ => none
  | n + 1, x2, x4 => (if x1 ≤ x4 then some x2 else (if (x0 - x4) ≤ 0 then fX7_falling_5 σ x0 x1 n (x2 * 0) (x4 + 1) else fX7_falling_5 σ x0 x1 n (x2 * ((x0 - x4).toInt64)) (x4 + 1)))
set_option maxHeartbeats 4000000 in
set_option maxRecDepth 100000 in
theorem jX7_falling_5 {p : Program} {l : Launch} {e : Env} {s : State} {m : MethodId} {args : Array Value} {below : List Frame} {meth : Method} {c : Code} {D : va_G} {κ : Kp} {ad : Nat → Nat} {A : Nat → Prop} {r : Int64} (C : Mc p s m args meth c cX7_falling 5 (some .long) wsX7_falling RX7 D κ A) (σ : Sg) (x0 : Int32) (x1 : Int32) : ∀ (n : Nat) (x2 : Int64) (x4 : Int32) (H : Heap) (locs : List Loc) (ls : Array Slot), Wd D (wsM κ ad) A s.heap H locs σ → lv_has ls 5 [(0, .int x0), (1, .int x1), (2, .long x2), (4, .int x4)] → fX7_falling_5 σ x0 x1 n x2 x4 = some r → W p l e { frames := 0, cells := 0, slots := 0, locals := 0 } s m args below meth c H locs 0 0 (Ql below args s D (wsM κ ad) A r σ) (F0 m 5 ls []) := by
  obtain ⟨hx, hb, hml, hr, hlk, hown, hts, hK, hA, hZ⟩ := id C
  intro n
  induction n with
  | zero =>
    intro x2 x4 H locs ls h hl hf
    rw [fX7_falling_5] at hf
    cases hf
  | succ n ih =>
    intro x2 x4 H locs ls h hl hf
    rw [fX7_falling_5] at hf
    refine lv_iload hx hb dX7_falling_5 (lv_at hl 3 rfl) ?_
    refine lv_iload_n hx hb dX7_falling_7 rfl (lv_at hl 1 rfl) ?_
    refine lv_icmp_ge (tgt := 36) hx hb dX7_falling_8 (by decide) (fun c1 => ?_) (fun c1 => ?_)
    · have hf := tk_t c1 hf
      refine lv_lload_n hx hb dX7_falling_36 rfl (lv_at hl 2 rfl) ?_
      obtain rfl := so_ok hf
      exact x_lret C h dX7_falling_37
    · have hf := tk_f c1 hf
      refine lv_lload_n hx hb dX7_falling_11 rfl (lv_at hl 2 rfl) ?_
      refine lv_iload_n hx hb dX7_falling_12 rfl (lv_at hl 0 rfl) ?_
      refine lv_iload hx hb dX7_falling_13 (lv_at hl 3 rfl) ?_
      refine lv_isub hx hb dX7_falling_15 ?_
      refine lv_if_le (tgt := 27) hx hb dX7_falling_16 (by decide) (fun c2 => ?_) (fun c2 => ?_)
      · have hf := tk_t c2 hf
        refine lv_lconst (v := 0) hx hb dX7_falling_27 (by decide) ?_
        refine lv_lmul hx hb dX7_falling_28 ?_
        refine lv_lstore_n (lv' := [(2, .long (x2 * 0)), (0, .int x0), (1, .int x1), (4, .int x4)]) hx hb dX7_falling_29 rfl hl (by decide) rfl (fun ls hl => ?_)
        refine lv_iinc (v := (x4 + 1)) (lv' := [(4, .int (x4 + 1)), (2, .long (x2 * 0)), (0, .int x0), (1, .int x1)]) hx hb dX7_falling_30 hl (k := 3) rfl rfl (by decide) rfl (fun ls hl => ?_)
        refine lv_goto (tgt := 5) hx hb dX7_falling_33 (by decide) ?_
        exact ih (x2 * 0) (x4 + 1) _ _ _ h (lv_sub hl [2, 3, 1, 0] rfl) hf
      · have hf := tk_f c2 hf
        refine lv_iload_n hx hb dX7_falling_19 rfl (lv_at hl 0 rfl) ?_
        refine lv_iload hx hb dX7_falling_20 (lv_at hl 3 rfl) ?_
        refine lv_isub hx hb dX7_falling_22 ?_
        refine lv_i2l (v := (x0 - x4).toInt64) hx hb dX7_falling_23 rfl ?_
        refine lv_goto (tgt := 28) hx hb dX7_falling_24 (by decide) ?_
        refine lv_lmul hx hb dX7_falling_28 ?_
        refine lv_lstore_n (lv' := [(2, .long (x2 * ((x0 - x4).toInt64))), (0, .int x0), (1, .int x1), (4, .int x4)]) hx hb dX7_falling_29 rfl hl (by decide) rfl (fun ls hl => ?_)
        refine lv_iinc (v := (x4 + 1)) (lv' := [(4, .int (x4 + 1)), (2, .long (x2 * ((x0 - x4).toInt64))), (0, .int x0), (1, .int x1)]) hx hb dX7_falling_30 hl (k := 3) rfl rfl (by decide) rfl (fun ls hl => ?_)
        refine lv_goto (tgt := 5) hx hb dX7_falling_33 (by decide) ?_
        exact ih (x2 * ((x0 - x4).toInt64)) (x4 + 1) _ _ _ h (lv_sub hl [2, 3, 1, 0] rfl) hf
def fX7_falling (x0 : Int32) (x1 : Int32) (σ : Sg) : Option (Int64) :=
  fX7_falling_5 σ x0 x1 1000 1 0
set_option maxHeartbeats 4000000 in
set_option maxRecDepth 100000 in
theorem kX7_falling (l : Launch) (D : va_G) (κ : Kp) (ad : Nat → Nat) (x0 : Int32) (x1 : Int32) (σ : Sg) {r : Int64} (hf : fX7_falling x0 x1 σ = some r) : Cl l D κ (wsM κ ad) yX7_falling wsX7_falling 0 0 [.int x0, .int x1] σ r σ := by
  refine Cl.of (cc := cX7_falling) (nL := 5) (ret := (some .long)) (by decide) rfl (Nat.le_of_ble_eq_true rfl) ?_
  intro p e s m below meth c A ls C h hl
  obtain ⟨hx, hb, hml, hr, hlk, hown, hts, hK, hA, hZ⟩ := id C
  have hl : lv_has ls 5 [(0, .int x0), (1, .int x1)] := hl
  unfold fX7_falling at hf
  refine lv_lconst (v := 1) hx hb dX7_falling_0 (by decide) ?_
  refine lv_lstore_n (lv' := [(2, .long 1), (0, .int x0), (1, .int x1)]) hx hb dX7_falling_1 rfl hl (by decide) rfl (fun ls hl => ?_)
  refine lv_iconst (v := 0) hx hb dX7_falling_2 (by decide) ?_
  refine lv_istore (lv' := [(4, .int 0), (2, .long 1), (0, .int x0), (1, .int x1)]) hx hb dX7_falling_3 hl (by decide) rfl (fun ls hl => ?_)
  exact jX7_falling_5 C σ x0 x1 1000 1 0 _ _ _ h (lv_sub hl [2, 3, 1, 0] rfl) hf

-- ===== X7_alikeButtons: ButtonMatchModel.alikeButtons()I
theorem lkX7_alikeButtons_72 : Cond.fieldLink RX7 72 "ButtonMatchModel" "tubes" "I" ∈ wsX7_alikeButtons := by decide +kernel
theorem inX7_alikeButtons_X7 : ∀ w ∈ wsX70, w ∈ wsX7_alikeButtons := fun _ h => List.mem_cons_of_mem _ (List.mem_append_right _ h)
theorem lkX7_alikeButtons_34 : Cond.fieldLink RX7 34 "ButtonMatchModel" "count" "[I" ∈ wsX7_alikeButtons := by decide +kernel
def fX7_alikeButtons_4 (σ : Sg) : Nat → Int32 → Int32 → Option (Int32)
  | 0, _, _ => none
  | n + 1, x1, x2 => (if (σ 0 10) ≤ x2 then some x1 else ((fX7_isAlike x2 σ).bind fun r3 => (if r3 = 0 then fX7_alikeButtons_4 σ n (x1 + 0) (x2 + 1) else (if gIn x2 6 then fX7_alikeButtons_4 σ n (x1 + (σ 9 x2.toNatClampNeg)) (x2 + 1) else none))))
set_option maxHeartbeats 4000000 in
set_option maxRecDepth 100000 in
theorem jX7_alikeButtons_4 {p : Program} {l : Launch} {e : Env} {s : State} {m : MethodId} {args : Array Value} {below : List Frame} {meth : Method} {c : Code} {D : va_G} {κ : Kp} {ad : Nat → Nat} {A : Nat → Prop} {r : Int32} (C : Mc p s m args meth c cX7_alikeButtons 3 (some .int) wsX7_alikeButtons RX7 D κ A) (σ : Sg) : ∀ (n : Nat) (x1 : Int32) (x2 : Int32) (H : Heap) (locs : List Loc) (ls : Array Slot), Wd D (wsM κ ad) A s.heap H locs σ → lv_has ls 3 [(0, .ref (ad 0)), (1, .int x1), (2, .int x2)] → fX7_alikeButtons_4 σ n x1 x2 = some r → W p l e { frames := 4, cells := 0, slots := 0, locals := 87 } s m args below meth c H locs 0 0 (Qi below args s D (wsM κ ad) A r σ) (F0 m 4 ls []) := by
  obtain ⟨hx, hb, hml, hr, hlk, hown, hts, hK, hA, hZ⟩ := id C
  intro n
  induction n with
  | zero =>
    intro x1 x2 H locs ls h hl hf
    rw [fX7_alikeButtons_4] at hf
    cases hf
  | succ n ih =>
    intro x1 x2 H locs ls h hl hf
    rw [fX7_alikeButtons_4] at hf
    refine lv_iload_n hx hb dX7_alikeButtons_4 rfl (lv_at hl 2 rfl) ?_
    refine lv_aload_n hx hb dX7_alikeButtons_5 rfl (lv_at hl 0 rfl) ?_
    refine x_get (v := .int (σ 0 10)) C h (gM_Mo κ ad σ) rfl inX7_alikeButtons_X7 10 (by decide) (hts _ lkX7_alikeButtons_72) rfl dX7_alikeButtons_6 ?_
    refine lv_icmp_ge (tgt := 39) hx hb dX7_alikeButtons_9 (by decide) (fun c1 => ?_) (fun c1 => ?_)
    · have hf := tk_t c1 hf
      refine lv_iload_n hx hb dX7_alikeButtons_39 rfl (lv_at hl 1 rfl) ?_
      obtain rfl := so_ok hf
      exact x_iret C h dX7_alikeButtons_40
    · have hf := tk_f c1 hf
      refine lv_iload_n hx hb dX7_alikeButtons_12 rfl (lv_at hl 1 rfl) ?_
      refine lv_aload_n hx hb dX7_alikeButtons_13 rfl (lv_at hl 0 rfl) ?_
      refine lv_iload_n hx hb dX7_alikeButtons_14 rfl (lv_at hl 2 rfl) ?_
      obtain ⟨r3, hg2, hf⟩ := bd_ok hf
      refine x_vi (As := [.int x2]) (rest := [.int x1]) C h (gM_Mo κ ad σ) rfl (kX7_isAlike l D κ ad x2 σ (r := r3) hg2) (fun hts => cwV 1 hts gX7_alikeButtons_X7_isAlike rfl rfl rfl (by decide +kernel) ⟨Nat.le_of_ble_eq_true rfl, Nat.le_of_ble_eq_true rfl⟩) rfl hl.1 (Nat.le_of_ble_eq_true rfl) rfl dX7_alikeButtons_15 (fun H locs h => ?_)
      refine lv_if_eq (tgt := 30) hx hb dX7_alikeButtons_18 (by decide) (fun c4 => ?_) (fun c4 => ?_)
      · have hf := tk_t c4 hf
        refine lv_iconst (v := 0) hx hb dX7_alikeButtons_30 (by decide) ?_
        refine lv_iadd hx hb dX7_alikeButtons_31 ?_
        refine lv_istore_n (lv' := [(1, .int (x1 + 0)), (0, .ref (ad 0)), (2, .int x2)]) hx hb dX7_alikeButtons_32 rfl hl (by decide) rfl (fun ls hl => ?_)
        refine lv_iinc (v := (x2 + 1)) (lv' := [(2, .int (x2 + 1)), (1, .int (x1 + 0)), (0, .ref (ad 0))]) hx hb dX7_alikeButtons_33 hl (k := 2) rfl rfl (by decide) rfl (fun ls hl => ?_)
        refine lv_goto (tgt := 4) hx hb dX7_alikeButtons_36 (by decide) ?_
        exact ih (x1 + 0) (x2 + 1) _ _ _ h (lv_sub hl [2, 1, 0] rfl) hf
      · have hf := tk_f c4 hf
        refine lv_aload_n hx hb dX7_alikeButtons_21 rfl (lv_at hl 0 rfl) ?_
        refine x_get (v := .ref (ad 9)) C h (gM_Mo κ ad σ) rfl inX7_alikeButtons_X7 15 (by decide) (hts _ lkX7_alikeButtons_34) rfl dX7_alikeButtons_22 ?_
        refine lv_iload_n hx hb dX7_alikeButtons_25 rfl (lv_at hl 2 rfl) ?_
        obtain ⟨g5, hf⟩ := gd_ok hf
        refine x_iald (v := (σ 9 x2.toNatClampNeg)) C h (gM_m_count κ ad σ) g5 rfl dX7_alikeButtons_26 ?_
        refine lv_goto (tgt := 31) hx hb dX7_alikeButtons_27 (by decide) ?_
        refine lv_iadd hx hb dX7_alikeButtons_31 ?_
        refine lv_istore_n (lv' := [(1, .int (x1 + (σ 9 x2.toNatClampNeg))), (0, .ref (ad 0)), (2, .int x2)]) hx hb dX7_alikeButtons_32 rfl hl (by decide) rfl (fun ls hl => ?_)
        refine lv_iinc (v := (x2 + 1)) (lv' := [(2, .int (x2 + 1)), (1, .int (x1 + (σ 9 x2.toNatClampNeg))), (0, .ref (ad 0))]) hx hb dX7_alikeButtons_33 hl (k := 2) rfl rfl (by decide) rfl (fun ls hl => ?_)
        refine lv_goto (tgt := 4) hx hb dX7_alikeButtons_36 (by decide) ?_
        exact ih (x1 + (σ 9 x2.toNatClampNeg)) (x2 + 1) _ _ _ h (lv_sub hl [2, 1, 0] rfl) hf
def fX7_alikeButtons (σ : Sg) : Option (Int32) :=
  fX7_alikeButtons_4 σ 1000 0 0
set_option maxHeartbeats 4000000 in
set_option maxRecDepth 100000 in
theorem kX7_alikeButtons (l : Launch) (D : va_G) (κ : Kp) (ad : Nat → Nat) (σ : Sg) {r : Int32} (hf : fX7_alikeButtons σ = some r) : Ci l D κ (wsM κ ad) yX7_alikeButtons wsX7_alikeButtons 4 87 [.ref (ad 0)] σ r σ := by
  refine Ci.of (cc := cX7_alikeButtons) (nL := 3) (ret := (some .int)) (by decide) rfl (Nat.le_of_ble_eq_true rfl) ?_
  intro p e s m below meth c A ls C h hl
  obtain ⟨hx, hb, hml, hr, hlk, hown, hts, hK, hA, hZ⟩ := id C
  have hl : lv_has ls 3 [(0, .ref (ad 0))] := hl
  unfold fX7_alikeButtons at hf
  refine lv_iconst (v := 0) hx hb dX7_alikeButtons_0 (by decide) ?_
  refine lv_istore_n (lv' := [(1, .int 0), (0, .ref (ad 0))]) hx hb dX7_alikeButtons_1 rfl hl (by decide) rfl (fun ls hl => ?_)
  refine lv_iconst (v := 0) hx hb dX7_alikeButtons_2 (by decide) ?_
  refine lv_istore_n (lv' := [(2, .int 0), (1, .int 0), (0, .ref (ad 0))]) hx hb dX7_alikeButtons_3 rfl hl (by decide) rfl (fun ls hl => ?_)
  exact jX7_alikeButtons_4 C σ 1000 0 0 _ _ _ h (lv_sub hl [2, 1, 0] rfl) hf

-- ===== X7_inLeastTerms: ButtonMatchModel.inLeastTerms(JJI)J
def fX7_inLeastTerms_6 (σ : Sg) (x0 : Int64) (x2 : Int64) (x4 : Int32) : Nat → Int64 → Int64 → Option (Int64)
  | 0, _, _ => none
  | n + 1, x5, x7 => (if (lg_cmp x7 0) = 0 then (if x4 = 0 then (if ¬ x5 = 0 then some (x0 / x5) else none) else (if ¬ x5 = 0 then some (x2 / x5) else none)) else (if ¬ x7 = 0 then fX7_inLeastTerms_6 σ x0 x2 x4 n x7 (x5 - x5 / x7 * x7) else none))
set_option maxHeartbeats 4000000 in
set_option maxRecDepth 100000 in
theorem jX7_inLeastTerms_6 {p : Program} {l : Launch} {e : Env} {s : State} {m : MethodId} {args : Array Value} {below : List Frame} {meth : Method} {c : Code} {D : va_G} {κ : Kp} {ad : Nat → Nat} {A : Nat → Prop} {r : Int64} (C : Mc p s m args meth c cX7_inLeastTerms 11 (some .long) wsX7_inLeastTerms RX7 D κ A) (σ : Sg) (x0 : Int64) (x2 : Int64) (x4 : Int32) : ∀ (n : Nat) (x5 : Int64) (x7 : Int64) (H : Heap) (locs : List Loc) (ls : Array Slot), Wd D (wsM κ ad) A s.heap H locs σ → lv_has ls 11 [(0, .long x0), (2, .long x2), (4, .int x4), (5, .long x5), (7, .long x7)] → fX7_inLeastTerms_6 σ x0 x2 x4 n x5 x7 = some r → W p l e { frames := 0, cells := 0, slots := 0, locals := 0 } s m args below meth c H locs 0 0 (Ql below args s D (wsM κ ad) A r σ) (F0 m 6 ls []) := by
  obtain ⟨hx, hb, hml, hr, hlk, hown, hts, hK, hA, hZ⟩ := id C
  intro n
  induction n with
  | zero =>
    intro x5 x7 H locs ls h hl hf
    rw [fX7_inLeastTerms_6] at hf
    cases hf
  | succ n ih =>
    intro x5 x7 H locs ls h hl hf
    rw [fX7_inLeastTerms_6] at hf
    refine lv_lload hx hb dX7_inLeastTerms_6 (lv_at hl 4 rfl) ?_
    refine lv_lconst (v := 0) hx hb dX7_inLeastTerms_8 (by decide) ?_
    refine W.lcmp hx hb dX7_inLeastTerms_9 ?_
    refine lv_if_eq (tgt := 31) hx hb dX7_inLeastTerms_10 (by decide) (fun c1 => ?_) (fun c1 => ?_)
    · have hf := tk_t c1 hf
      refine lv_iload hx hb dX7_inLeastTerms_31 (lv_at hl 2 rfl) ?_
      refine lv_if_ne (tgt := 43) hx hb dX7_inLeastTerms_33 (by decide) (fun c2 => ?_) (fun c2 => ?_)
      · have hf := tk_f c2 hf
        refine lv_lload_n hx hb dX7_inLeastTerms_43 rfl (lv_at hl 1 rfl) ?_
        refine lv_lload hx hb dX7_inLeastTerms_44 (lv_at hl 3 rfl) ?_
        obtain ⟨g3, hf⟩ := gd_ok hf
        refine lv_ldiv hx hb dX7_inLeastTerms_46 g3 ?_
        obtain rfl := so_ok hf
        exact x_lret C h dX7_inLeastTerms_47
      · have hf := tk_t c2 hf
        refine lv_lload_n hx hb dX7_inLeastTerms_36 rfl (lv_at hl 0 rfl) ?_
        refine lv_lload hx hb dX7_inLeastTerms_37 (lv_at hl 3 rfl) ?_
        obtain ⟨g4, hf⟩ := gd_ok hf
        refine lv_ldiv hx hb dX7_inLeastTerms_39 g4 ?_
        refine lv_goto (tgt := 47) hx hb dX7_inLeastTerms_40 (by decide) ?_
        obtain rfl := so_ok hf
        exact x_lret C h dX7_inLeastTerms_47
    · have hf := tk_f c1 hf
      refine lv_lload hx hb dX7_inLeastTerms_13 (lv_at hl 3 rfl) ?_
      refine lv_lload hx hb dX7_inLeastTerms_15 (lv_at hl 4 rfl) ?_
      obtain ⟨g5, hf⟩ := gd_ok hf
      refine lv_lrem hx hb dX7_inLeastTerms_17 g5 ?_
      refine lv_lstore (lv' := [(9, .long (x5 - x5 / x7 * x7)), (0, .long x0), (2, .long x2), (4, .int x4), (5, .long x5), (7, .long x7)]) hx hb dX7_inLeastTerms_18 hl (by decide) rfl (fun ls hl => ?_)
      refine lv_lload hx hb dX7_inLeastTerms_20 (lv_at hl 5 rfl) ?_
      refine lv_lstore (lv' := [(5, .long x7), (9, .long (x5 - x5 / x7 * x7)), (0, .long x0), (2, .long x2), (4, .int x4), (7, .long x7)]) hx hb dX7_inLeastTerms_22 hl (by decide) rfl (fun ls hl => ?_)
      refine lv_lload hx hb dX7_inLeastTerms_24 (lv_at hl 1 rfl) ?_
      refine lv_lstore (lv' := [(7, .long (x5 - x5 / x7 * x7)), (5, .long x7), (9, .long (x5 - x5 / x7 * x7)), (0, .long x0), (2, .long x2), (4, .int x4)]) hx hb dX7_inLeastTerms_26 hl (by decide) rfl (fun ls hl => ?_)
      refine lv_goto (tgt := 6) hx hb dX7_inLeastTerms_28 (by decide) ?_
      exact ih x7 (x5 - x5 / x7 * x7) _ _ _ h (lv_sub hl [3, 4, 5, 1, 0] rfl) hf
def fX7_inLeastTerms (x0 : Int64) (x2 : Int64) (x4 : Int32) (σ : Sg) : Option (Int64) :=
  fX7_inLeastTerms_6 σ x0 x2 x4 1000 x0 x2
set_option maxHeartbeats 4000000 in
set_option maxRecDepth 100000 in
theorem kX7_inLeastTerms (l : Launch) (D : va_G) (κ : Kp) (ad : Nat → Nat) (x0 : Int64) (x2 : Int64) (x4 : Int32) (σ : Sg) {r : Int64} (hf : fX7_inLeastTerms x0 x2 x4 σ = some r) : Cl l D κ (wsM κ ad) yX7_inLeastTerms wsX7_inLeastTerms 0 0 [.long x0, .long x2, .int x4] σ r σ := by
  refine Cl.of (cc := cX7_inLeastTerms) (nL := 11) (ret := (some .long)) (by decide) rfl (Nat.le_of_ble_eq_true rfl) ?_
  intro p e s m below meth c A ls C h hl
  obtain ⟨hx, hb, hml, hr, hlk, hown, hts, hK, hA, hZ⟩ := id C
  have hl : lv_has ls 11 [(0, .long x0), (2, .long x2), (4, .int x4)] := hl
  unfold fX7_inLeastTerms at hf
  refine lv_lload_n hx hb dX7_inLeastTerms_0 rfl (lv_at hl 0 rfl) ?_
  refine lv_lstore (lv' := [(5, .long x0), (0, .long x0), (2, .long x2), (4, .int x4)]) hx hb dX7_inLeastTerms_1 hl (by decide) rfl (fun ls hl => ?_)
  refine lv_lload_n hx hb dX7_inLeastTerms_3 rfl (lv_at hl 2 rfl) ?_
  refine lv_lstore (lv' := [(7, .long x2), (5, .long x0), (0, .long x0), (2, .long x2), (4, .int x4)]) hx hb dX7_inLeastTerms_4 hl (by decide) rfl (fun ls hl => ?_)
  exact jX7_inLeastTerms_6 C σ x0 x2 x4 1000 x0 x2 _ _ _ h (lv_sub hl [2, 3, 4, 1, 0] rfl) hf

-- ===== X7_tin: ButtonMatchModel.tin(II)J
theorem lkX7_tin_66 : Cond.constantLong RX7 66 (-9223372036854775808) ∈ wsX7_tin := by decide +kernel
theorem lkX7_tin_72 : Cond.fieldLink RX7 72 "ButtonMatchModel" "tubes" "I" ∈ wsX7_tin := by decide +kernel
theorem inX7_tin_X7 : ∀ w ∈ wsX70, w ∈ wsX7_tin := fun _ h => List.mem_cons_of_mem _ (List.mem_append_right _ h)
def fX7_tin_45 (σ : Sg) (x2 : Int32) (x3 : Int32) (z0 : Int32) : Option (Int64) :=
  ((fX7_falling x3 z0 σ).bind fun r2 => ((fX7_alikeButtons σ).bind fun r4 => ((fX7_falling (x3 - r4) z0 σ).bind fun r6 => ((fX7_inLeastTerms (r2 - r6) r2 x2 σ).bind fun r8 => some r8))))
set_option maxHeartbeats 4000000 in
set_option maxRecDepth 100000 in
theorem jX7_tin_45 {p : Program} {l : Launch} {e : Env} {s : State} {m : MethodId} {args : Array Value} {below : List Frame} {meth : Method} {c : Code} {D : va_G} {κ : Kp} {ad : Nat → Nat} {A : Nat → Prop} {r : Int64} (C : Mc p s m args meth c cX7_tin 7 (some .long) wsX7_tin RX7 D κ A) (σ : Sg) (x2 : Int32) (x3 : Int32) (z0 : Int32) (H : Heap) (locs : List Loc) (ls : Array Slot) (h : Wd D (wsM κ ad) A s.heap H locs σ) (hl : lv_has ls 7 [(0, .ref (ad 0)), (2, .int x2), (3, .int x3)]) (hf : fX7_tin_45 σ x2 x3 z0 = some r) : W p l e { frames := 5, cells := 0, slots := 0, locals := 109 } s m args below meth c H locs 0 0 (Ql below args s D (wsM κ ad) A r σ) (F0 m 45 ls [.int z0]) := by
  obtain ⟨hx, hb, hml, hr, hlk, hown, hts, hK, hA, hZ⟩ := id C
  unfold fX7_tin_45 at hf
  refine lv_istore (lv' := [(4, .int z0), (0, .ref (ad 0)), (2, .int x2), (3, .int x3)]) hx hb dX7_tin_45 hl (by decide) rfl (fun ls hl => ?_)
  refine lv_iload_n hx hb dX7_tin_47 rfl (lv_at hl 3 rfl) ?_
  refine lv_iload hx hb dX7_tin_48 (lv_at hl 0 rfl) ?_
  obtain ⟨r2, hg1, hf⟩ := bd_ok hf
  refine x_sl (As := [.int x3, .int z0]) (rest := []) C h (kX7_falling l D κ ad x3 z0 σ (r := r2) hg1) (fun hts => va_cwS 2 hts gX7_tin_X7_falling rfl rfl rfl (by decide +kernel) ⟨Nat.le_of_ble_eq_true rfl, Nat.le_of_ble_eq_true rfl⟩) rfl hl.1 (Nat.le_of_ble_eq_true rfl) rfl dX7_tin_50 (fun H locs h => ?_)
  refine lv_lstore (lv' := [(5, .long r2), (4, .int z0), (0, .ref (ad 0)), (2, .int x2), (3, .int x3)]) hx hb dX7_tin_53 hl (by decide) rfl (fun ls hl => ?_)
  refine lv_lload hx hb dX7_tin_55 (lv_at hl 0 rfl) ?_
  refine lv_iload_n hx hb dX7_tin_57 rfl (lv_at hl 4 rfl) ?_
  refine lv_aload_n hx hb dX7_tin_58 rfl (lv_at hl 2 rfl) ?_
  obtain ⟨r4, hg3, hf⟩ := bd_ok hf
  refine x_vi (As := []) (rest := [.int x3, .long r2]) C h (gM_Mo κ ad σ) rfl (kX7_alikeButtons l D κ ad σ (r := r4) hg3) (fun hts => cwV 0 hts gX7_tin_X7_alikeButtons rfl rfl rfl (by decide +kernel) ⟨Nat.le_of_ble_eq_true rfl, Nat.le_of_ble_eq_true rfl⟩) rfl hl.1 (Nat.le_of_ble_eq_true rfl) rfl dX7_tin_59 (fun H locs h => ?_)
  refine lv_isub hx hb dX7_tin_62 ?_
  refine lv_iload hx hb dX7_tin_63 (lv_at hl 1 rfl) ?_
  obtain ⟨r6, hg5, hf⟩ := bd_ok hf
  refine x_sl (As := [.int (x3 - r4), .int z0]) (rest := [.long r2]) C h (kX7_falling l D κ ad (x3 - r4) z0 σ (r := r6) hg5) (fun hts => va_cwS 2 hts gX7_tin_X7_falling rfl rfl rfl (by decide +kernel) ⟨Nat.le_of_ble_eq_true rfl, Nat.le_of_ble_eq_true rfl⟩) rfl hl.1 (Nat.le_of_ble_eq_true rfl) rfl dX7_tin_65 (fun H locs h => ?_)
  refine lv_lsub hx hb dX7_tin_68 ?_
  refine lv_lload hx hb dX7_tin_69 (lv_at hl 0 rfl) ?_
  refine lv_iload_n hx hb dX7_tin_71 rfl (lv_at hl 3 rfl) ?_
  obtain ⟨r8, hg7, hf⟩ := bd_ok hf
  refine x_sl (As := [.long (r2 - r6), .long r2, .int x2]) (rest := []) C h (kX7_inLeastTerms l D κ ad (r2 - r6) r2 x2 σ (r := r8) hg7) (fun hts => va_cwS 3 hts gX7_tin_X7_inLeastTerms rfl rfl rfl (by decide +kernel) ⟨Nat.le_of_ble_eq_true rfl, Nat.le_of_ble_eq_true rfl⟩) rfl hl.1 (Nat.le_of_ble_eq_true rfl) rfl dX7_tin_72 (fun H locs h => ?_)
  obtain rfl := so_ok hf
  exact x_lret C h dX7_tin_75
def fX7_tin (x1 : Int32) (x2 : Int32) (σ : Sg) : Option (Int64) :=
  (if (fX7_within x1 0 9 σ) = 0 then some (-9223372036854775808) else (if (fX7_within x2 0 1 σ) = 0 then some (-9223372036854775808) else (if (σ 0 10) = 0 then some (-9223372036854775808) else ((fX7_allButtons σ).bind fun r13 => (if r13 ≤ x1 then fX7_tin_45 σ x2 r13 r13 else fX7_tin_45 σ x2 r13 x1)))))
set_option maxHeartbeats 4000000 in
set_option maxRecDepth 100000 in
theorem kX7_tin (l : Launch) (D : va_G) (κ : Kp) (ad : Nat → Nat) (x1 : Int32) (x2 : Int32) (σ : Sg) {r : Int64} (hf : fX7_tin x1 x2 σ = some r) : Cl l D κ (wsM κ ad) yX7_tin wsX7_tin 5 109 [.ref (ad 0), .int x1, .int x2] σ r σ := by
  refine Cl.of (cc := cX7_tin) (nL := 7) (ret := (some .long)) (by decide) rfl (Nat.le_of_ble_eq_true rfl) ?_
  intro p e s m below meth c A ls C h hl
  obtain ⟨hx, hb, hml, hr, hlk, hown, hts, hK, hA, hZ⟩ := id C
  have hl : lv_has ls 7 [(0, .ref (ad 0)), (1, .int x1), (2, .int x2)] := hl
  unfold fX7_tin at hf
  refine lv_iload_n hx hb dX7_tin_0 rfl (lv_at hl 1 rfl) ?_
  refine lv_iconst (v := 0) hx hb dX7_tin_1 (by decide) ?_
  refine lv_bipush (v := 9) hx hb dX7_tin_2 (by decide) ?_
  refine x_si (As := [.int x1, .int 0, .int 9]) (rest := []) C h (kX7_within l D κ ad x1 0 9 σ (r := (fX7_within x1 0 9 σ)) rfl) (fun hts => va_cwS 3 hts gX7_tin_X7_within rfl rfl rfl (by decide +kernel) ⟨Nat.le_of_ble_eq_true rfl, Nat.le_of_ble_eq_true rfl⟩) rfl hl.1 (Nat.le_of_ble_eq_true rfl) rfl dX7_tin_4 (fun H locs h => ?_)
  refine lv_if_eq (tgt := 26) hx hb dX7_tin_7 (by decide) (fun c9 => ?_) (fun c9 => ?_)
  · have hf := tk_t c9 hf
    refine lv_ldc2 (v := (-9223372036854775808)) hx hb hown (hts _ lkX7_tin_66) dX7_tin_26 ?_
    obtain rfl := so_ok hf
    exact x_lret C h dX7_tin_29
  · have hf := tk_f c9 hf
    refine lv_iload_n hx hb dX7_tin_10 rfl (lv_at hl 2 rfl) ?_
    refine lv_iconst (v := 0) hx hb dX7_tin_11 (by decide) ?_
    refine lv_iconst (v := 1) hx hb dX7_tin_12 (by decide) ?_
    refine x_si (As := [.int x2, .int 0, .int 1]) (rest := []) C h (kX7_within l D κ ad x2 0 1 σ (r := (fX7_within x2 0 1 σ)) rfl) (fun hts => va_cwS 3 hts gX7_tin_X7_within rfl rfl rfl (by decide +kernel) ⟨Nat.le_of_ble_eq_true rfl, Nat.le_of_ble_eq_true rfl⟩) rfl hl.1 (Nat.le_of_ble_eq_true rfl) rfl dX7_tin_13 (fun H locs h => ?_)
    refine lv_if_eq (tgt := 26) hx hb dX7_tin_16 (by decide) (fun c10 => ?_) (fun c10 => ?_)
    · have hf := tk_t c10 hf
      refine lv_ldc2 (v := (-9223372036854775808)) hx hb hown (hts _ lkX7_tin_66) dX7_tin_26 ?_
      obtain rfl := so_ok hf
      exact x_lret C h dX7_tin_29
    · have hf := tk_f c10 hf
      refine lv_aload_n hx hb dX7_tin_19 rfl (lv_at hl 0 rfl) ?_
      refine x_get (v := .int (σ 0 10)) C h (gM_Mo κ ad σ) rfl inX7_tin_X7 10 (by decide) (hts _ lkX7_tin_72) rfl dX7_tin_20 ?_
      refine lv_if_ne (tgt := 30) hx hb dX7_tin_23 (by decide) (fun c11 => ?_) (fun c11 => ?_)
      · have hf := tk_f c11 hf
        refine lv_aload_n hx hb dX7_tin_30 rfl (lv_at hl 0 rfl) ?_
        obtain ⟨r13, hg12, hf⟩ := bd_ok hf
        refine x_vi (As := []) (rest := []) C h (gM_Mo κ ad σ) rfl (kX7_allButtons l D κ ad σ (r := r13) hg12) (fun hts => cwV 0 hts gX7_tin_X7_allButtons rfl rfl rfl (by decide +kernel) ⟨Nat.le_of_ble_eq_true rfl, Nat.le_of_ble_eq_true rfl⟩) rfl hl.1 (Nat.le_of_ble_eq_true rfl) rfl dX7_tin_31 (fun H locs h => ?_)
        refine lv_istore_n (lv' := [(3, .int r13), (0, .ref (ad 0)), (1, .int x1), (2, .int x2)]) hx hb dX7_tin_34 rfl hl (by decide) rfl (fun ls hl => ?_)
        refine lv_iload_n hx hb dX7_tin_35 rfl (lv_at hl 2 rfl) ?_
        refine lv_iload_n hx hb dX7_tin_36 rfl (lv_at hl 0 rfl) ?_
        refine lv_icmp_ge (tgt := 44) hx hb dX7_tin_37 (by decide) (fun c14 => ?_) (fun c14 => ?_)
        · have hf := tk_t c14 hf
          refine lv_iload_n hx hb dX7_tin_44 rfl (lv_at hl 0 rfl) ?_
          exact jX7_tin_45 C σ x2 r13 r13 _ _ _ h (lv_sub hl [1, 3, 0] rfl) hf
        · have hf := tk_f c14 hf
          refine lv_iload_n hx hb dX7_tin_40 rfl (lv_at hl 2 rfl) ?_
          refine lv_goto (tgt := 45) hx hb dX7_tin_41 (by decide) ?_
          exact jX7_tin_45 C σ x2 r13 x1 _ _ _ h (lv_sub hl [1, 3, 0] rfl) hf
      · have hf := tk_t c11 hf
        refine lv_ldc2 (v := (-9223372036854775808)) hx hb hown (hts _ lkX7_tin_66) dX7_tin_26 ?_
        obtain rfl := so_ok hf
        exact x_lret C h dX7_tin_29

-- ===== X7_isHalf: ButtonMatchModel.isHalf(III)Z
theorem lkX7_isHalf_226 : Cond.constantLong RX7 226 (2) ∈ wsX7_isHalf := by decide +kernel
def fX7_isHalf_26 (σ : Sg) (x1 : Int32) (x4 : Int32) (z0 : Int32) : Option (Int32) :=
  ((fX7_falling z0 x4 σ).bind fun r2 => ((fX7_falling x1 x4 σ).bind fun r4 => (if 0 < (lg_cmp (2 * r2) r4) then some 0 else some 1)))
set_option maxHeartbeats 4000000 in
set_option maxRecDepth 100000 in
theorem jX7_isHalf_26 {p : Program} {l : Launch} {e : Env} {s : State} {m : MethodId} {args : Array Value} {below : List Frame} {meth : Method} {c : Code} {D : va_G} {κ : Kp} {ad : Nat → Nat} {A : Nat → Prop} {r : Int32} (C : Mc p s m args meth c cX7_isHalf 6 (some .boolean) wsX7_isHalf RX7 D κ A) (σ : Sg) (x1 : Int32) (x4 : Int32) (z0 : Int32) (H : Heap) (locs : List Loc) (ls : Array Slot) (h : Wd D (wsM κ ad) A s.heap H locs σ) (hl : lv_has ls 6 [(1, .int x1), (4, .int x4)]) (hf : fX7_isHalf_26 σ x1 x4 z0 = some r) : W p l e { frames := 1, cells := 0, slots := 0, locals := 24 } s m args below meth c H locs 0 0 (Qi below args s D (wsM κ ad) A r σ) (F0 m 26 ls [.int z0]) := by
  obtain ⟨hx, hb, hml, hr, hlk, hown, hts, hK, hA, hZ⟩ := id C
  unfold fX7_isHalf_26 at hf
  refine lv_istore (lv' := [(5, .int z0), (1, .int x1), (4, .int x4)]) hx hb dX7_isHalf_26 hl (by decide) rfl (fun ls hl => ?_)
  refine lv_ldc2 (v := 2) hx hb hown (hts _ lkX7_isHalf_226) dX7_isHalf_28 ?_
  refine lv_iload hx hb dX7_isHalf_31 (lv_at hl 0 rfl) ?_
  refine lv_iload hx hb dX7_isHalf_33 (lv_at hl 2 rfl) ?_
  obtain ⟨r2, hg1, hf⟩ := bd_ok hf
  refine x_sl (As := [.int z0, .int x4]) (rest := [.long 2]) C h (kX7_falling l D κ ad z0 x4 σ (r := r2) hg1) (fun hts => va_cwS 2 hts gX7_isHalf_X7_falling rfl rfl rfl (by decide +kernel) ⟨Nat.le_of_ble_eq_true rfl, Nat.le_of_ble_eq_true rfl⟩) rfl hl.1 (Nat.le_of_ble_eq_true rfl) rfl dX7_isHalf_35 (fun H locs h => ?_)
  refine lv_lmul hx hb dX7_isHalf_38 ?_
  refine lv_iload_n hx hb dX7_isHalf_39 rfl (lv_at hl 1 rfl) ?_
  refine lv_iload hx hb dX7_isHalf_40 (lv_at hl 2 rfl) ?_
  obtain ⟨r4, hg3, hf⟩ := bd_ok hf
  refine x_sl (As := [.int x1, .int x4]) (rest := [.long (2 * r2)]) C h (kX7_falling l D κ ad x1 x4 σ (r := r4) hg3) (fun hts => va_cwS 2 hts gX7_isHalf_X7_falling rfl rfl rfl (by decide +kernel) ⟨Nat.le_of_ble_eq_true rfl, Nat.le_of_ble_eq_true rfl⟩) rfl hl.1 (Nat.le_of_ble_eq_true rfl) rfl dX7_isHalf_42 (fun H locs h => ?_)
  refine W.lcmp hx hb dX7_isHalf_45 ?_
  refine lv_if_gt (tgt := 53) hx hb dX7_isHalf_46 (by decide) (fun c5 => ?_) (fun c5 => ?_)
  · have hf := tk_t c5 hf
    refine lv_iconst (v := 0) hx hb dX7_isHalf_53 (by decide) ?_
    obtain rfl := so_ok hf
    exact x_zret C rfl h dX7_isHalf_54
  · have hf := tk_f c5 hf
    refine lv_iconst (v := 1) hx hb dX7_isHalf_49 (by decide) ?_
    refine lv_goto (tgt := 54) hx hb dX7_isHalf_50 (by decide) ?_
    obtain rfl := so_ok hf
    exact x_zret C rfl h dX7_isHalf_54
def fX7_isHalf_10 (σ : Sg) (x1 : Int32) (x2 : Int32) (x3 : Int32) (z0 : Int32) : Option (Int32) :=
  (if x2 ≤ x3 then fX7_isHalf_26 σ x1 z0 (x1 - x3) else fX7_isHalf_26 σ x1 z0 (x1 - x2))
set_option maxHeartbeats 4000000 in
set_option maxRecDepth 100000 in
theorem jX7_isHalf_10 {p : Program} {l : Launch} {e : Env} {s : State} {m : MethodId} {args : Array Value} {below : List Frame} {meth : Method} {c : Code} {D : va_G} {κ : Kp} {ad : Nat → Nat} {A : Nat → Prop} {r : Int32} (C : Mc p s m args meth c cX7_isHalf 6 (some .boolean) wsX7_isHalf RX7 D κ A) (σ : Sg) (x1 : Int32) (x2 : Int32) (x3 : Int32) (z0 : Int32) (H : Heap) (locs : List Loc) (ls : Array Slot) (h : Wd D (wsM κ ad) A s.heap H locs σ) (hl : lv_has ls 6 [(1, .int x1), (2, .int x2), (3, .int x3)]) (hf : fX7_isHalf_10 σ x1 x2 x3 z0 = some r) : W p l e { frames := 1, cells := 0, slots := 0, locals := 24 } s m args below meth c H locs 0 0 (Qi below args s D (wsM κ ad) A r σ) (F0 m 10 ls [.int z0]) := by
  obtain ⟨hx, hb, hml, hr, hlk, hown, hts, hK, hA, hZ⟩ := id C
  unfold fX7_isHalf_10 at hf
  refine lv_istore (lv' := [(4, .int z0), (1, .int x1), (2, .int x2), (3, .int x3)]) hx hb dX7_isHalf_10 hl (by decide) rfl (fun ls hl => ?_)
  refine lv_iload_n hx hb dX7_isHalf_12 rfl (lv_at hl 3 rfl) ?_
  refine lv_iload_n hx hb dX7_isHalf_13 rfl (lv_at hl 2 rfl) ?_
  refine lv_icmp_ge (tgt := 23) hx hb dX7_isHalf_14 (by decide) (fun c6 => ?_) (fun c6 => ?_)
  · have hf := tk_t c6 hf
    refine lv_iload_n hx hb dX7_isHalf_23 rfl (lv_at hl 1 rfl) ?_
    refine lv_iload_n hx hb dX7_isHalf_24 rfl (lv_at hl 3 rfl) ?_
    refine lv_isub hx hb dX7_isHalf_25 ?_
    exact jX7_isHalf_26 C σ x1 z0 (x1 - x3) _ _ _ h (lv_sub hl [1, 0] rfl) hf
  · have hf := tk_f c6 hf
    refine lv_iload_n hx hb dX7_isHalf_17 rfl (lv_at hl 1 rfl) ?_
    refine lv_iload_n hx hb dX7_isHalf_18 rfl (lv_at hl 2 rfl) ?_
    refine lv_isub hx hb dX7_isHalf_19 ?_
    refine lv_goto (tgt := 26) hx hb dX7_isHalf_20 (by decide) ?_
    exact jX7_isHalf_26 C σ x1 z0 (x1 - x2) _ _ _ h (lv_sub hl [1, 0] rfl) hf
def fX7_isHalf (x1 : Int32) (x2 : Int32) (x3 : Int32) (σ : Sg) : Option (Int32) :=
  (if x2 ≤ x3 then fX7_isHalf_10 σ x1 x2 x3 x2 else fX7_isHalf_10 σ x1 x2 x3 x3)
set_option maxHeartbeats 4000000 in
set_option maxRecDepth 100000 in
theorem kX7_isHalf (l : Launch) (D : va_G) (κ : Kp) (ad : Nat → Nat) (x1 : Int32) (x2 : Int32) (x3 : Int32) (σ : Sg) {r : Int32} (hf : fX7_isHalf x1 x2 x3 σ = some r) : Ci l D κ (wsM κ ad) yX7_isHalf wsX7_isHalf 1 24 [.ref (ad 0), .int x1, .int x2, .int x3] σ r σ := by
  refine Ci.of (cc := cX7_isHalf) (nL := 6) (ret := (some .boolean)) (by decide) rfl (Nat.le_of_ble_eq_true rfl) ?_
  intro p e s m below meth c A ls C h hl
  obtain ⟨hx, hb, hml, hr, hlk, hown, hts, hK, hA, hZ⟩ := id C
  have hl : lv_has ls 6 [(0, .ref (ad 0)), (1, .int x1), (2, .int x2), (3, .int x3)] := hl
  unfold fX7_isHalf at hf
  refine lv_iload_n hx hb dX7_isHalf_0 rfl (lv_at hl 3 rfl) ?_
  refine lv_iload_n hx hb dX7_isHalf_1 rfl (lv_at hl 2 rfl) ?_
  refine lv_icmp_ge (tgt := 9) hx hb dX7_isHalf_2 (by decide) (fun c7 => ?_) (fun c7 => ?_)
  · have hf := tk_t c7 hf
    refine lv_iload_n hx hb dX7_isHalf_9 rfl (lv_at hl 2 rfl) ?_
    exact jX7_isHalf_10 C σ x1 x2 x3 x2 _ _ _ h (lv_sub hl [1, 2, 3] rfl) hf
  · have hf := tk_f c7 hf
    refine lv_iload_n hx hb dX7_isHalf_5 rfl (lv_at hl 3 rfl) ?_
    refine lv_goto (tgt := 10) hx hb dX7_isHalf_6 (by decide) ?_
    exact jX7_isHalf_10 C σ x1 x2 x3 x3 _ _ _ h (lv_sub hl [1, 2, 3] rfl) hf

-- ===== X7_half: ButtonMatchModel.half()I
theorem lkX7_half_72 : Cond.fieldLink RX7 72 "ButtonMatchModel" "tubes" "I" ∈ wsX7_half := by decide +kernel
theorem inX7_half_X7 : ∀ w ∈ wsX70, w ∈ wsX7_half := fun _ h => List.mem_cons_of_mem _ (List.mem_append_right _ h)
def fX7_half_22 (σ : Sg) (x1 : Int32) (x2 : Int32) : Nat → Int32 → Option (Int32)
  | 0, _ => none
  | n + 1, x3 => (if x1 < x3 then some (-9) else (if x2 ≤ 0 then some (-9) else ((fX7_isHalf x1 x2 x3 σ).bind fun r4 => (if r4 = 0 then fX7_half_22 σ x1 x2 n (x3 + 1) else some x3))))
set_option maxHeartbeats 4000000 in
set_option maxRecDepth 100000 in
theorem jX7_half_22 {p : Program} {l : Launch} {e : Env} {s : State} {m : MethodId} {args : Array Value} {below : List Frame} {meth : Method} {c : Code} {D : va_G} {κ : Kp} {ad : Nat → Nat} {A : Nat → Prop} {r : Int32} (C : Mc p s m args meth c cX7_half 4 (some .int) wsX7_half RX7 D κ A) (σ : Sg) (x1 : Int32) (x2 : Int32) : ∀ (n : Nat) (x3 : Int32) (H : Heap) (locs : List Loc) (ls : Array Slot), Wd D (wsM κ ad) A s.heap H locs σ → lv_has ls 4 [(0, .ref (ad 0)), (1, .int x1), (2, .int x2), (3, .int x3)] → fX7_half_22 σ x1 x2 n x3 = some r → W p l e { frames := 5, cells := 0, slots := 0, locals := 109 } s m args below meth c H locs 0 0 (Qi below args s D (wsM κ ad) A r σ) (F0 m 22 ls []) := by
  obtain ⟨hx, hb, hml, hr, hlk, hown, hts, hK, hA, hZ⟩ := id C
  intro n
  induction n with
  | zero =>
    intro x3 H locs ls h hl hf
    rw [fX7_half_22] at hf
    cases hf
  | succ n ih =>
    intro x3 H locs ls h hl hf
    rw [fX7_half_22] at hf
    refine lv_iload_n hx hb dX7_half_22 rfl (lv_at hl 3 rfl) ?_
    refine lv_iload_n hx hb dX7_half_23 rfl (lv_at hl 1 rfl) ?_
    refine lv_icmp_gt (tgt := 49) hx hb dX7_half_24 (by decide) (fun c1 => ?_) (fun c1 => ?_)
    · have hf := tk_t c1 hf
      refine lv_bipush (v := (-9)) hx hb dX7_half_49 (by decide) ?_
      obtain rfl := so_ok hf
      exact x_iret C h dX7_half_51
    · have hf := tk_f c1 hf
      refine lv_iload_n hx hb dX7_half_27 rfl (lv_at hl 2 rfl) ?_
      refine lv_if_le (tgt := 49) hx hb dX7_half_28 (by decide) (fun c2 => ?_) (fun c2 => ?_)
      · have hf := tk_t c2 hf
        refine lv_bipush (v := (-9)) hx hb dX7_half_49 (by decide) ?_
        obtain rfl := so_ok hf
        exact x_iret C h dX7_half_51
      · have hf := tk_f c2 hf
        refine lv_aload_n hx hb dX7_half_31 rfl (lv_at hl 0 rfl) ?_
        refine lv_iload_n hx hb dX7_half_32 rfl (lv_at hl 1 rfl) ?_
        refine lv_iload_n hx hb dX7_half_33 rfl (lv_at hl 2 rfl) ?_
        refine lv_iload_n hx hb dX7_half_34 rfl (lv_at hl 3 rfl) ?_
        obtain ⟨r4, hg3, hf⟩ := bd_ok hf
        refine x_vi (As := [.int x1, .int x2, .int x3]) (rest := []) C h (gM_Mo κ ad σ) rfl (kX7_isHalf l D κ ad x1 x2 x3 σ (r := r4) hg3) (fun hts => cwV 3 hts gX7_half_X7_isHalf rfl rfl rfl (by decide +kernel) ⟨Nat.le_of_ble_eq_true rfl, Nat.le_of_ble_eq_true rfl⟩) rfl hl.1 (Nat.le_of_ble_eq_true rfl) rfl dX7_half_35 (fun H locs h => ?_)
        refine lv_if_eq (tgt := 43) hx hb dX7_half_38 (by decide) (fun c5 => ?_) (fun c5 => ?_)
        · have hf := tk_t c5 hf
          refine lv_iinc (v := (x3 + 1)) (lv' := [(3, .int (x3 + 1)), (0, .ref (ad 0)), (1, .int x1), (2, .int x2)]) hx hb dX7_half_43 hl (k := 3) rfl rfl (by decide) rfl (fun ls hl => ?_)
          refine lv_goto (tgt := 22) hx hb dX7_half_46 (by decide) ?_
          exact ih (x3 + 1) _ _ _ h (lv_sub hl [1, 2, 3, 0] rfl) hf
        · have hf := tk_f c5 hf
          refine lv_iload_n hx hb dX7_half_41 rfl (lv_at hl 3 rfl) ?_
          obtain rfl := so_ok hf
          exact x_iret C h dX7_half_42
def fX7_half (σ : Sg) : Option (Int32) :=
  (if (σ 0 10) = 0 then some (-3) else ((fX7_allButtons σ).bind fun r8 => ((fX7_alikeButtons σ).bind fun r10 => fX7_half_22 σ r8 r10 1000 0)))
set_option maxHeartbeats 4000000 in
set_option maxRecDepth 100000 in
theorem kX7_half (l : Launch) (D : va_G) (κ : Kp) (ad : Nat → Nat) (σ : Sg) {r : Int32} (hf : fX7_half σ = some r) : Ci l D κ (wsM κ ad) yX7_half wsX7_half 5 109 [.ref (ad 0)] σ r σ := by
  refine Ci.of (cc := cX7_half) (nL := 4) (ret := (some .int)) (by decide) rfl (Nat.le_of_ble_eq_true rfl) ?_
  intro p e s m below meth c A ls C h hl
  obtain ⟨hx, hb, hml, hr, hlk, hown, hts, hK, hA, hZ⟩ := id C
  have hl : lv_has ls 4 [(0, .ref (ad 0))] := hl
  unfold fX7_half at hf
  refine lv_aload_n hx hb dX7_half_0 rfl (lv_at hl 0 rfl) ?_
  refine x_get (v := .int (σ 0 10)) C h (gM_Mo κ ad σ) rfl inX7_half_X7 10 (by decide) (hts _ lkX7_half_72) rfl dX7_half_1 ?_
  refine lv_if_ne (tgt := 10) hx hb dX7_half_4 (by decide) (fun c6 => ?_) (fun c6 => ?_)
  · have hf := tk_f c6 hf
    refine lv_aload_n hx hb dX7_half_10 rfl (lv_at hl 0 rfl) ?_
    obtain ⟨r8, hg7, hf⟩ := bd_ok hf
    refine x_vi (As := []) (rest := []) C h (gM_Mo κ ad σ) rfl (kX7_allButtons l D κ ad σ (r := r8) hg7) (fun hts => cwV 0 hts gX7_half_X7_allButtons rfl rfl rfl (by decide +kernel) ⟨Nat.le_of_ble_eq_true rfl, Nat.le_of_ble_eq_true rfl⟩) rfl hl.1 (Nat.le_of_ble_eq_true rfl) rfl dX7_half_11 (fun H locs h => ?_)
    refine lv_istore_n (lv' := [(1, .int r8), (0, .ref (ad 0))]) hx hb dX7_half_14 rfl hl (by decide) rfl (fun ls hl => ?_)
    refine lv_aload_n hx hb dX7_half_15 rfl (lv_at hl 1 rfl) ?_
    obtain ⟨r10, hg9, hf⟩ := bd_ok hf
    refine x_vi (As := []) (rest := []) C h (gM_Mo κ ad σ) rfl (kX7_alikeButtons l D κ ad σ (r := r10) hg9) (fun hts => cwV 0 hts gX7_half_X7_alikeButtons rfl rfl rfl (by decide +kernel) ⟨Nat.le_of_ble_eq_true rfl, Nat.le_of_ble_eq_true rfl⟩) rfl hl.1 (Nat.le_of_ble_eq_true rfl) rfl dX7_half_16 (fun H locs h => ?_)
    refine lv_istore_n (lv' := [(2, .int r10), (1, .int r8), (0, .ref (ad 0))]) hx hb dX7_half_19 rfl hl (by decide) rfl (fun ls hl => ?_)
    refine lv_iconst (v := 0) hx hb dX7_half_20 (by decide) ?_
    refine lv_istore_n (lv' := [(3, .int 0), (2, .int r10), (1, .int r8), (0, .ref (ad 0))]) hx hb dX7_half_21 rfl hl (by decide) rfl (fun ls hl => ?_)
    exact jX7_half_22 C σ r8 r10 1000 0 _ _ _ h (lv_sub hl [3, 2, 1, 0] rfl) hf
  · have hf := tk_t c6 hf
    refine lv_bipush (v := (-3)) hx hb dX7_half_7 (by decide) ?_
    obtain rfl := so_ok hf
    exact x_iret C h dX7_half_9

-- ===== X7_reading: ButtonMatchModel.reading(IZ)I
theorem lkX7_reading_123 : Cond.fieldLink RX7 123 "ButtonMatchModel" "readings" "I" ∈ wsX7_reading := by decide +kernel
theorem inX7_reading_X7 : ∀ w ∈ wsX70, w ∈ wsX7_reading := fun _ h => List.mem_cons_of_mem _ (List.mem_append_right _ h)
theorem lkX7_reading_55 : Cond.fieldLink RX7 55 "ButtonMatchModel" "readTubeOf" "[I" ∈ wsX7_reading := by decide +kernel
theorem lkX7_reading_58 : Cond.fieldLink RX7 58 "ButtonMatchModel" "readAlike" "[Z" ∈ wsX7_reading := by decide +kernel
def fX7_reading (x1 : Int32) (x2 : Int32) (σ : Sg) : Option (Int32 × Sg) :=
  (if (fX7_isTube x1 σ) = 0 then some ((-1), σ) else (if (σ 0 30) = 8 then some ((-4), σ) else (if gIn (σ 0 30) 8 then some ((((σ 0 30) + 1) - 1), (up2 (up2 (up2 σ 16 ((σ 0 30).toNatClampNeg) x1) 17 ((σ 0 30).toNatClampNeg) (vp_nar .boolean x2)) 0 30 ((σ 0 30) + 1))) else none)))
set_option maxHeartbeats 4000000 in
set_option maxRecDepth 100000 in
theorem kX7_reading (l : Launch) (D : va_G) (κ : Kp) (ad : Nat → Nat) (x1 : Int32) (x2 : Int32) (σ : Sg) {r : Int32} {τ : Sg} (hf : fX7_reading x1 x2 σ = some (r, τ)) : Ci l D κ (wsM κ ad) yX7_reading wsX7_reading 1 21 [.ref (ad 0), .int x1, .int x2] σ r τ := by
  refine Ci.of (cc := cX7_reading) (nL := 3) (ret := (some .int)) (by decide) rfl (Nat.le_of_ble_eq_true rfl) ?_
  intro p e s m below meth c A ls C h hl
  obtain ⟨hx, hb, hml, hr, hlk, hown, hts, hK, hA, hZ⟩ := id C
  have hl : lv_has ls 3 [(0, .ref (ad 0)), (1, .int x1), (2, .int x2)] := hl
  unfold fX7_reading at hf
  refine lv_aload_n hx hb dX7_reading_0 rfl (lv_at hl 0 rfl) ?_
  refine lv_iload_n hx hb dX7_reading_1 rfl (lv_at hl 1 rfl) ?_
  refine x_vi (As := [.int x1]) (rest := []) C h (gM_Mo κ ad σ) rfl (kX7_isTube l D κ ad x1 σ (r := (fX7_isTube x1 σ)) rfl) (fun hts => cwV 1 hts gX7_reading_X7_isTube rfl rfl rfl (by decide +kernel) ⟨Nat.le_of_ble_eq_true rfl, Nat.le_of_ble_eq_true rfl⟩) rfl hl.1 (Nat.le_of_ble_eq_true rfl) rfl dX7_reading_2 (fun H locs h => ?_)
  refine lv_if_ne (tgt := 10) hx hb dX7_reading_5 (by decide) (fun c1 => ?_) (fun c1 => ?_)
  · have hf := tk_f c1 hf
    refine lv_aload_n hx hb dX7_reading_10 rfl (lv_at hl 0 rfl) ?_
    refine x_get (v := .int (σ 0 30)) C h (gM_Mo κ ad σ) rfl inX7_reading_X7 30 (by decide) (hts _ lkX7_reading_123) rfl dX7_reading_11 ?_
    refine lv_bipush (v := 8) hx hb dX7_reading_14 (by decide) ?_
    refine lv_icmp_ne (tgt := 22) hx hb dX7_reading_16 (by decide) (fun c2 => ?_) (fun c2 => ?_)
    · have hf := tk_f c2 hf
      refine lv_aload_n hx hb dX7_reading_22 rfl (lv_at hl 0 rfl) ?_
      refine x_get (v := .ref (ad 16)) C h (gM_Mo κ ad σ) rfl inX7_reading_X7 31 (by decide) (hts _ lkX7_reading_55) rfl dX7_reading_23 ?_
      refine lv_aload_n hx hb dX7_reading_26 rfl (lv_at hl 0 rfl) ?_
      refine x_get (v := .int (σ 0 30)) C h (gM_Mo κ ad σ) rfl inX7_reading_X7 30 (by decide) (hts _ lkX7_reading_123) rfl dX7_reading_27 ?_
      refine lv_iload_n hx hb dX7_reading_30 rfl (lv_at hl 1 rfl) ?_
      obtain ⟨g3, hf⟩ := gd_ok hf
      refine x_iast C h (gM_m_readTubeOf κ ad σ) (sM_m_readTubeOf κ ad σ ((σ 0 30).toNatClampNeg) x1) g3 dX7_reading_31 (fun H locs h => ?_)
      refine lv_aload_n hx hb dX7_reading_32 rfl (lv_at hl 0 rfl) ?_
      refine x_get (v := .ref (ad 17)) C h (gM_Mo κ ad (up2 σ 16 ((σ 0 30).toNatClampNeg) x1)) rfl inX7_reading_X7 32 (by decide) (hts _ lkX7_reading_58) rfl dX7_reading_33 ?_
      refine lv_aload_n hx hb dX7_reading_36 rfl (lv_at hl 0 rfl) ?_
      refine x_get (v := .int (σ 0 30)) C h (gM_Mo κ ad (up2 σ 16 ((σ 0 30).toNatClampNeg) x1)) rfl inX7_reading_X7 30 (by decide) (hts _ lkX7_reading_123) rfl dX7_reading_37 ?_
      refine lv_iload_n hx hb dX7_reading_40 rfl (lv_at hl 2 rfl) ?_
      refine x_zast C h (gM_m_readAlike κ ad (up2 σ 16 ((σ 0 30).toNatClampNeg) x1)) (sM_m_readAlike κ ad (up2 σ 16 ((σ 0 30).toNatClampNeg) x1) ((σ 0 30).toNatClampNeg) (vp_nar .boolean x2)) g3 dX7_reading_41 (fun H locs h => ?_)
      refine lv_aload_n hx hb dX7_reading_42 rfl (lv_at hl 0 rfl) ?_
      refine lv_dup hx hb dX7_reading_43 rfl ?_
      refine x_get (v := .int (σ 0 30)) C h (gM_Mo κ ad (up2 (up2 σ 16 ((σ 0 30).toNatClampNeg) x1) 17 ((σ 0 30).toNatClampNeg) (vp_nar .boolean x2))) rfl inX7_reading_X7 30 (by decide) (hts _ lkX7_reading_123) rfl dX7_reading_44 ?_
      refine lv_iconst (v := 1) hx hb dX7_reading_47 (by decide) ?_
      refine lv_iadd hx hb dX7_reading_48 ?_
      refine x_put C h (gM_Mo κ ad (up2 (up2 σ 16 ((σ 0 30).toNatClampNeg) x1) 17 ((σ 0 30).toNatClampNeg) (vp_nar .boolean x2))) rfl inX7_reading_X7 tyX7 tyX7_ok nmX7 30 (by decide) (hts _ lkX7_reading_123) rfl (tyX7_ok 30 (by decide)) (Nat.le_of_ble_eq_true rfl) (sM_Mo_30 κ ad (up2 (up2 σ 16 ((σ 0 30).toNatClampNeg) x1) 17 ((σ 0 30).toNatClampNeg) (vp_nar .boolean x2)) ((σ 0 30) + 1)) dX7_reading_49 (fun H locs h => ?_)
      refine lv_aload_n hx hb dX7_reading_52 rfl (lv_at hl 0 rfl) ?_
      refine x_get (v := .int ((σ 0 30) + 1)) C h (gM_Mo κ ad (up2 (up2 (up2 σ 16 ((σ 0 30).toNatClampNeg) x1) 17 ((σ 0 30).toNatClampNeg) (vp_nar .boolean x2)) 0 30 ((σ 0 30) + 1))) rfl inX7_reading_X7 30 (by decide) (hts _ lkX7_reading_123) rfl dX7_reading_53 ?_
      refine lv_iconst (v := 1) hx hb dX7_reading_56 (by decide) ?_
      refine lv_isub hx hb dX7_reading_57 ?_
      obtain ⟨rfl, rfl⟩ := pr_ok hf
      exact x_iret C h dX7_reading_58
    · have hf := tk_t c2 hf
      refine lv_bipush (v := (-4)) hx hb dX7_reading_19 (by decide) ?_
      obtain ⟨rfl, rfl⟩ := pr_ok hf
      exact x_iret C h dX7_reading_21
  · have hf := tk_t c1 hf
    refine lv_iconst (v := (-1)) hx hb dX7_reading_8 (by decide) ?_
    obtain ⟨rfl, rfl⟩ := pr_ok hf
    exact x_iret C h dX7_reading_9

-- ===== X7_back: ButtonMatchModel.back(I)I
theorem lkX7_back_123 : Cond.fieldLink RX7 123 "ButtonMatchModel" "readings" "I" ∈ wsX7_back := by decide +kernel
theorem inX7_back_X7 : ∀ w ∈ wsX70, w ∈ wsX7_back := fun _ h => List.mem_cons_of_mem _ (List.mem_append_right _ h)
def fX7_back (x1 : Int32) (σ : Sg) : Int32 × Sg :=
  (if (fX7_within x1 0 (σ 0 30) σ) = 0 then ((-2), σ) else (((σ 0 30) - x1), (up2 σ 0 30 ((σ 0 30) - x1))))
set_option maxHeartbeats 4000000 in
set_option maxRecDepth 100000 in
theorem kX7_back (l : Launch) (D : va_G) (κ : Kp) (ad : Nat → Nat) (x1 : Int32) (σ : Sg) {r : Int32} {τ : Sg} (hf : fX7_back x1 σ = (r, τ)) : Ci l D κ (wsM κ ad) yX7_back wsX7_back 1 22 [.ref (ad 0), .int x1] σ r τ := by
  refine Ci.of (cc := cX7_back) (nL := 2) (ret := (some .int)) (by decide) rfl (Nat.le_of_ble_eq_true rfl) ?_
  intro p e s m below meth c A ls C h hl
  obtain ⟨hx, hb, hml, hr, hlk, hown, hts, hK, hA, hZ⟩ := id C
  have hl : lv_has ls 2 [(0, .ref (ad 0)), (1, .int x1)] := hl
  unfold fX7_back at hf
  refine lv_iload_n hx hb dX7_back_0 rfl (lv_at hl 1 rfl) ?_
  refine lv_iconst (v := 0) hx hb dX7_back_1 (by decide) ?_
  refine lv_aload_n hx hb dX7_back_2 rfl (lv_at hl 0 rfl) ?_
  refine x_get (v := .int (σ 0 30)) C h (gM_Mo κ ad σ) rfl inX7_back_X7 30 (by decide) (hts _ lkX7_back_123) rfl dX7_back_3 ?_
  refine x_si (As := [.int x1, .int 0, .int (σ 0 30)]) (rest := []) C h (kX7_within l D κ ad x1 0 (σ 0 30) σ (r := (fX7_within x1 0 (σ 0 30) σ)) rfl) (fun hts => va_cwS 3 hts gX7_back_X7_within rfl rfl rfl (by decide +kernel) ⟨Nat.le_of_ble_eq_true rfl, Nat.le_of_ble_eq_true rfl⟩) rfl hl.1 (Nat.le_of_ble_eq_true rfl) rfl dX7_back_6 (fun H locs h => ?_)
  refine lv_if_ne (tgt := 15) hx hb dX7_back_9 (by decide) (fun c1 => ?_) (fun c1 => ?_)
  · have hf := tk_f c1 hf
    refine lv_aload_n hx hb dX7_back_15 rfl (lv_at hl 0 rfl) ?_
    refine lv_dup hx hb dX7_back_16 rfl ?_
    refine x_get (v := .int (σ 0 30)) C h (gM_Mo κ ad σ) rfl inX7_back_X7 30 (by decide) (hts _ lkX7_back_123) rfl dX7_back_17 ?_
    refine lv_iload_n hx hb dX7_back_20 rfl (lv_at hl 1 rfl) ?_
    refine lv_isub hx hb dX7_back_21 ?_
    refine x_put C h (gM_Mo κ ad σ) rfl inX7_back_X7 tyX7 tyX7_ok nmX7 30 (by decide) (hts _ lkX7_back_123) rfl (tyX7_ok 30 (by decide)) (Nat.le_of_ble_eq_true rfl) (sM_Mo_30 κ ad σ ((σ 0 30) - x1)) dX7_back_22 (fun H locs h => ?_)
    refine lv_aload_n hx hb dX7_back_25 rfl (lv_at hl 0 rfl) ?_
    refine x_get (v := .int ((σ 0 30) - x1)) C h (gM_Mo κ ad (up2 σ 0 30 ((σ 0 30) - x1))) rfl inX7_back_X7 30 (by decide) (hts _ lkX7_back_123) rfl dX7_back_26 ?_
    obtain ⟨rfl, rfl⟩ := pr_tot hf
    exact x_iret C h dX7_back_29
  · have hf := tk_t c1 hf
    refine lv_bipush (v := (-2)) hx hb dX7_back_12 (by decide) ?_
    obtain ⟨rfl, rfl⟩ := pr_tot hf
    exact x_iret C h dX7_back_14

-- ===== X7_areSo: ButtonMatchModel.areSo()Z
theorem lkX7_areSo_123 : Cond.fieldLink RX7 123 "ButtonMatchModel" "readings" "I" ∈ wsX7_areSo := by decide +kernel
theorem inX7_areSo_X7 : ∀ w ∈ wsX70, w ∈ wsX7_areSo := fun _ h => List.mem_cons_of_mem _ (List.mem_append_right _ h)
theorem lkX7_areSo_55 : Cond.fieldLink RX7 55 "ButtonMatchModel" "readTubeOf" "[I" ∈ wsX7_areSo := by decide +kernel
theorem lkX7_areSo_58 : Cond.fieldLink RX7 58 "ButtonMatchModel" "readAlike" "[Z" ∈ wsX7_areSo := by decide +kernel
def fX7_areSo_2 (σ : Sg) : Nat → Int32 → Option (Int32)
  | 0, _ => none
  | n + 1, x1 => (if (σ 0 30) ≤ x1 then some 1 else (if gIn x1 8 then ((fX7_isAlike (σ 16 x1.toNatClampNeg) σ).bind fun r4 => (if r4 = (σ 17 x1.toNatClampNeg) then fX7_areSo_2 σ n (x1 + 1) else some 0)) else none))
set_option maxHeartbeats 4000000 in
set_option maxRecDepth 100000 in
theorem jX7_areSo_2 {p : Program} {l : Launch} {e : Env} {s : State} {m : MethodId} {args : Array Value} {below : List Frame} {meth : Method} {c : Code} {D : va_G} {κ : Kp} {ad : Nat → Nat} {A : Nat → Prop} {r : Int32} (C : Mc p s m args meth c cX7_areSo 2 (some .boolean) wsX7_areSo RX7 D κ A) (σ : Sg) : ∀ (n : Nat) (x1 : Int32) (H : Heap) (locs : List Loc) (ls : Array Slot), Wd D (wsM κ ad) A s.heap H locs σ → lv_has ls 2 [(0, .ref (ad 0)), (1, .int x1)] → fX7_areSo_2 σ n x1 = some r → W p l e { frames := 4, cells := 0, slots := 0, locals := 87 } s m args below meth c H locs 0 0 (Qi below args s D (wsM κ ad) A r σ) (F0 m 2 ls []) := by
  obtain ⟨hx, hb, hml, hr, hlk, hown, hts, hK, hA, hZ⟩ := id C
  intro n
  induction n with
  | zero =>
    intro x1 H locs ls h hl hf
    rw [fX7_areSo_2] at hf
    cases hf
  | succ n ih =>
    intro x1 H locs ls h hl hf
    rw [fX7_areSo_2] at hf
    refine lv_iload_n hx hb dX7_areSo_2 rfl (lv_at hl 1 rfl) ?_
    refine lv_aload_n hx hb dX7_areSo_3 rfl (lv_at hl 0 rfl) ?_
    refine x_get (v := .int (σ 0 30)) C h (gM_Mo κ ad σ) rfl inX7_areSo_X7 30 (by decide) (hts _ lkX7_areSo_123) rfl dX7_areSo_4 ?_
    refine lv_icmp_ge (tgt := 37) hx hb dX7_areSo_7 (by decide) (fun c1 => ?_) (fun c1 => ?_)
    · have hf := tk_t c1 hf
      refine lv_iconst (v := 1) hx hb dX7_areSo_37 (by decide) ?_
      obtain rfl := so_ok hf
      exact x_zret C rfl h dX7_areSo_38
    · have hf := tk_f c1 hf
      refine lv_aload_n hx hb dX7_areSo_10 rfl (lv_at hl 0 rfl) ?_
      refine lv_aload_n hx hb dX7_areSo_11 rfl (lv_at hl 0 rfl) ?_
      refine x_get (v := .ref (ad 16)) C h (gM_Mo κ ad σ) rfl inX7_areSo_X7 31 (by decide) (hts _ lkX7_areSo_55) rfl dX7_areSo_12 ?_
      refine lv_iload_n hx hb dX7_areSo_15 rfl (lv_at hl 1 rfl) ?_
      obtain ⟨g2, hf⟩ := gd_ok hf
      refine x_iald (v := (σ 16 x1.toNatClampNeg)) C h (gM_m_readTubeOf κ ad σ) g2 rfl dX7_areSo_16 ?_
      obtain ⟨r4, hg3, hf⟩ := bd_ok hf
      refine x_vi (As := [.int (σ 16 x1.toNatClampNeg)]) (rest := []) C h (gM_Mo κ ad σ) rfl (kX7_isAlike l D κ ad (σ 16 x1.toNatClampNeg) σ (r := r4) hg3) (fun hts => cwV 1 hts gX7_areSo_X7_isAlike rfl rfl rfl (by decide +kernel) ⟨Nat.le_of_ble_eq_true rfl, Nat.le_of_ble_eq_true rfl⟩) rfl hl.1 (Nat.le_of_ble_eq_true rfl) rfl dX7_areSo_17 (fun H locs h => ?_)
      refine lv_aload_n hx hb dX7_areSo_20 rfl (lv_at hl 0 rfl) ?_
      refine x_get (v := .ref (ad 17)) C h (gM_Mo κ ad σ) rfl inX7_areSo_X7 32 (by decide) (hts _ lkX7_areSo_58) rfl dX7_areSo_21 ?_
      refine lv_iload_n hx hb dX7_areSo_24 rfl (lv_at hl 1 rfl) ?_
      refine x_zald (v := (σ 17 x1.toNatClampNeg)) C h (gM_m_readAlike κ ad σ) g2 rfl dX7_areSo_25 ?_
      refine lv_icmp_eq (tgt := 31) hx hb dX7_areSo_26 (by decide) (fun c5 => ?_) (fun c5 => ?_)
      · have hf := tk_t c5 hf
        refine lv_iinc (v := (x1 + 1)) (lv' := [(1, .int (x1 + 1)), (0, .ref (ad 0))]) hx hb dX7_areSo_31 hl (k := 1) rfl rfl (by decide) rfl (fun ls hl => ?_)
        refine lv_goto (tgt := 2) hx hb dX7_areSo_34 (by decide) ?_
        exact ih (x1 + 1) _ _ _ h (lv_sub hl [1, 0] rfl) hf
      · have hf := tk_f c5 hf
        refine lv_iconst (v := 0) hx hb dX7_areSo_29 (by decide) ?_
        obtain rfl := so_ok hf
        exact x_zret C rfl h dX7_areSo_30
def fX7_areSo (σ : Sg) : Option (Int32) :=
  fX7_areSo_2 σ 1000 0
set_option maxHeartbeats 4000000 in
set_option maxRecDepth 100000 in
theorem kX7_areSo (l : Launch) (D : va_G) (κ : Kp) (ad : Nat → Nat) (σ : Sg) {r : Int32} (hf : fX7_areSo σ = some r) : Ci l D κ (wsM κ ad) yX7_areSo wsX7_areSo 4 87 [.ref (ad 0)] σ r σ := by
  refine Ci.of (cc := cX7_areSo) (nL := 2) (ret := (some .boolean)) (by decide) rfl (Nat.le_of_ble_eq_true rfl) ?_
  intro p e s m below meth c A ls C h hl
  obtain ⟨hx, hb, hml, hr, hlk, hown, hts, hK, hA, hZ⟩ := id C
  have hl : lv_has ls 2 [(0, .ref (ad 0))] := hl
  unfold fX7_areSo at hf
  refine lv_iconst (v := 0) hx hb dX7_areSo_0 (by decide) ?_
  refine lv_istore_n (lv' := [(1, .int 0), (0, .ref (ad 0))]) hx hb dX7_areSo_1 rfl hl (by decide) rfl (fun ls hl => ?_)
  exact jX7_areSo_2 C σ 1000 0 _ _ _ h (lv_sub hl [1, 0] rfl) hf

-- ===== X7_memories: ButtonMatchModel.memories(I)I
theorem lkX7_memories_114 : Cond.fieldLink RX7 114 "ButtonMatchModel" "redder" "I" ∈ wsX7_memories := by decide +kernel
theorem inX7_memories_X7 : ∀ w ∈ wsX70, w ∈ wsX7_memories := fun _ h => List.mem_cons_of_mem _ (List.mem_append_right _ h)
theorem lkX7_memories_117 : Cond.fieldLink RX7 117 "ButtonMatchModel" "larger" "I" ∈ wsX7_memories := by decide +kernel
theorem lkX7_memories_72 : Cond.fieldLink RX7 72 "ButtonMatchModel" "tubes" "I" ∈ wsX7_memories := by decide +kernel
def fX7_memories_42 (x1 : Int32) (x2 : Int32) (x3 : Int32) : Nat → Int32 → Int32 → Int32 → Sg → Option (Int32 × Sg)
  | 0, _, _, _, _ => none
  | n + 1, x4, x5, x6, σ => (if 16 ≤ x6 then (if x1 = 0 then some (x4, (up2 (up2 σ 0 17 x2) 0 18 x3)) else some (x5, (up2 (up2 σ 0 17 x2) 0 18 x3))) else ((fX7_areSo (up2 (up2 σ 0 17 (x6 / 4)) 0 18 (x6 - x6 / 4 * 4))).bind fun r4 => (if r4 = 0 then fX7_memories_42 x1 x2 x3 n x4 x5 (x6 + 1) (up2 (up2 σ 0 17 (x6 / 4)) 0 18 (x6 - x6 / 4 * 4)) else (if x4 = 0 then fX7_memories_42 x1 x2 x3 n (x4 + 1) ((10 * (x6 / 4)) + (x6 - x6 / 4 * 4)) (x6 + 1) (up2 (up2 σ 0 17 (x6 / 4)) 0 18 (x6 - x6 / 4 * 4)) else fX7_memories_42 x1 x2 x3 n (x4 + 1) x5 (x6 + 1) (up2 (up2 σ 0 17 (x6 / 4)) 0 18 (x6 - x6 / 4 * 4))))))
set_option maxHeartbeats 4000000 in
set_option maxRecDepth 100000 in
theorem jX7_memories_42 {p : Program} {l : Launch} {e : Env} {s : State} {m : MethodId} {args : Array Value} {below : List Frame} {meth : Method} {c : Code} {D : va_G} {κ : Kp} {ad : Nat → Nat} {A : Nat → Prop} {r : Int32} {τ : Sg} (C : Mc p s m args meth c cX7_memories 7 (some .int) wsX7_memories RX7 D κ A) (x1 : Int32) (x2 : Int32) (x3 : Int32) : ∀ (n : Nat) (x4 : Int32) (x5 : Int32) (x6 : Int32) (σ : Sg) (H : Heap) (locs : List Loc) (ls : Array Slot), Wd D (wsM κ ad) A s.heap H locs σ → lv_has ls 7 [(0, .ref (ad 0)), (1, .int x1), (2, .int x2), (3, .int x3), (4, .int x4), (5, .int x5), (6, .int x6)] → fX7_memories_42 x1 x2 x3 n x4 x5 x6 σ = some (r, τ) → W p l e { frames := 5, cells := 0, slots := 0, locals := 108 } s m args below meth c H locs 0 0 (Qi below args s D (wsM κ ad) A r τ) (F0 m 42 ls []) := by
  obtain ⟨hx, hb, hml, hr, hlk, hown, hts, hK, hA, hZ⟩ := id C
  intro n
  induction n with
  | zero =>
    intro x4 x5 x6 σ H locs ls h hl hf
    rw [fX7_memories_42] at hf
    cases hf
  | succ n ih =>
    intro x4 x5 x6 σ H locs ls h hl hf
    rw [fX7_memories_42] at hf
    refine lv_iload hx hb dX7_memories_42 (lv_at hl 6 rfl) ?_
    refine lv_bipush (v := 16) hx hb dX7_memories_44 (by decide) ?_
    refine lv_icmp_ge (tgt := 105) hx hb dX7_memories_46 (by decide) (fun c1 => ?_) (fun c1 => ?_)
    · have hf := tk_t c1 hf
      refine lv_aload_n hx hb dX7_memories_105 rfl (lv_at hl 0 rfl) ?_
      refine lv_iload_n hx hb dX7_memories_106 rfl (lv_at hl 2 rfl) ?_
      refine x_put C h (gM_Mo κ ad σ) rfl inX7_memories_X7 tyX7 tyX7_ok nmX7 17 (by decide) (hts _ lkX7_memories_114) rfl (tyX7_ok 17 (by decide)) (Nat.le_of_ble_eq_true rfl) (sM_Mo_17 κ ad σ x2) dX7_memories_107 (fun H locs h => ?_)
      refine lv_aload_n hx hb dX7_memories_110 rfl (lv_at hl 0 rfl) ?_
      refine lv_iload_n hx hb dX7_memories_111 rfl (lv_at hl 3 rfl) ?_
      refine x_put C h (gM_Mo κ ad (up2 σ 0 17 x2)) rfl inX7_memories_X7 tyX7 tyX7_ok nmX7 18 (by decide) (hts _ lkX7_memories_117) rfl (tyX7_ok 18 (by decide)) (Nat.le_of_ble_eq_true rfl) (sM_Mo_18 κ ad (up2 σ 0 17 x2) x3) dX7_memories_112 (fun H locs h => ?_)
      refine lv_iload_n hx hb dX7_memories_115 rfl (lv_at hl 1 rfl) ?_
      refine lv_if_ne (tgt := 124) hx hb dX7_memories_116 (by decide) (fun c2 => ?_) (fun c2 => ?_)
      · have hf := tk_f c2 hf
        refine lv_iload hx hb dX7_memories_124 (lv_at hl 5 rfl) ?_
        obtain ⟨rfl, rfl⟩ := pr_ok hf
        exact x_iret C h dX7_memories_126
      · have hf := tk_t c2 hf
        refine lv_iload hx hb dX7_memories_119 (lv_at hl 4 rfl) ?_
        refine lv_goto (tgt := 126) hx hb dX7_memories_121 (by decide) ?_
        obtain ⟨rfl, rfl⟩ := pr_ok hf
        exact x_iret C h dX7_memories_126
    · have hf := tk_f c1 hf
      refine lv_aload_n hx hb dX7_memories_49 rfl (lv_at hl 0 rfl) ?_
      refine lv_iload hx hb dX7_memories_50 (lv_at hl 6 rfl) ?_
      refine lv_iconst (v := 4) hx hb dX7_memories_52 (by decide) ?_
      refine lv_idiv hx hb dX7_memories_53 (by decide) ?_
      refine x_put C h (gM_Mo κ ad σ) rfl inX7_memories_X7 tyX7 tyX7_ok nmX7 17 (by decide) (hts _ lkX7_memories_114) rfl (tyX7_ok 17 (by decide)) (Nat.le_of_ble_eq_true rfl) (sM_Mo_17 κ ad σ (x6 / 4)) dX7_memories_54 (fun H locs h => ?_)
      refine lv_aload_n hx hb dX7_memories_57 rfl (lv_at hl 0 rfl) ?_
      refine lv_iload hx hb dX7_memories_58 (lv_at hl 6 rfl) ?_
      refine lv_iconst (v := 4) hx hb dX7_memories_60 (by decide) ?_
      refine lv_irem hx hb dX7_memories_61 (by decide) ?_
      refine x_put C h (gM_Mo κ ad (up2 σ 0 17 (x6 / 4))) rfl inX7_memories_X7 tyX7 tyX7_ok nmX7 18 (by decide) (hts _ lkX7_memories_117) rfl (tyX7_ok 18 (by decide)) (Nat.le_of_ble_eq_true rfl) (sM_Mo_18 κ ad (up2 σ 0 17 (x6 / 4)) (x6 - x6 / 4 * 4)) dX7_memories_62 (fun H locs h => ?_)
      refine lv_aload_n hx hb dX7_memories_65 rfl (lv_at hl 0 rfl) ?_
      obtain ⟨r4, hg3, hf⟩ := bd_ok hf
      refine x_vi (As := []) (rest := []) C h (gM_Mo κ ad (up2 (up2 σ 0 17 (x6 / 4)) 0 18 (x6 - x6 / 4 * 4))) rfl (kX7_areSo l D κ ad (up2 (up2 σ 0 17 (x6 / 4)) 0 18 (x6 - x6 / 4 * 4)) (r := r4) hg3) (fun hts => cwV 0 hts gX7_memories_X7_areSo rfl rfl rfl (by decide +kernel) ⟨Nat.le_of_ble_eq_true rfl, Nat.le_of_ble_eq_true rfl⟩) rfl hl.1 (Nat.le_of_ble_eq_true rfl) rfl dX7_memories_66 (fun H locs h => ?_)
      refine lv_if_eq (tgt := 99) hx hb dX7_memories_69 (by decide) (fun c5 => ?_) (fun c5 => ?_)
      · have hf := tk_t c5 hf
        refine lv_iinc (v := (x6 + 1)) (lv' := [(6, .int (x6 + 1)), (0, .ref (ad 0)), (1, .int x1), (2, .int x2), (3, .int x3), (4, .int x4), (5, .int x5)]) hx hb dX7_memories_99 hl (k := 6) rfl rfl (by decide) rfl (fun ls hl => ?_)
        refine lv_goto (tgt := 42) hx hb dX7_memories_102 (by decide) ?_
        exact ih x4 x5 (x6 + 1) (up2 (up2 σ 0 17 (x6 / 4)) 0 18 (x6 - x6 / 4 * 4)) _ _ _ h (lv_sub hl [1, 2, 3, 4, 5, 6, 0] rfl) hf
      · have hf := tk_f c5 hf
        refine lv_iload hx hb dX7_memories_72 (lv_at hl 4 rfl) ?_
        refine lv_if_ne (tgt := 92) hx hb dX7_memories_74 (by decide) (fun c6 => ?_) (fun c6 => ?_)
        · have hf := tk_f c6 hf
          refine lv_iload hx hb dX7_memories_92 (lv_at hl 5 rfl) ?_
          refine lv_istore (lv' := [(5, .int x5), (0, .ref (ad 0)), (1, .int x1), (2, .int x2), (3, .int x3), (4, .int x4), (6, .int x6)]) hx hb dX7_memories_94 hl (by decide) rfl (fun ls hl => ?_)
          refine lv_iinc (v := (x4 + 1)) (lv' := [(4, .int (x4 + 1)), (5, .int x5), (0, .ref (ad 0)), (1, .int x1), (2, .int x2), (3, .int x3), (6, .int x6)]) hx hb dX7_memories_96 hl (k := 5) rfl rfl (by decide) rfl (fun ls hl => ?_)
          refine lv_iinc (v := (x6 + 1)) (lv' := [(6, .int (x6 + 1)), (4, .int (x4 + 1)), (5, .int x5), (0, .ref (ad 0)), (1, .int x1), (2, .int x2), (3, .int x3)]) hx hb dX7_memories_99 hl (k := 6) rfl rfl (by decide) rfl (fun ls hl => ?_)
          refine lv_goto (tgt := 42) hx hb dX7_memories_102 (by decide) ?_
          exact ih (x4 + 1) x5 (x6 + 1) (up2 (up2 σ 0 17 (x6 / 4)) 0 18 (x6 - x6 / 4 * 4)) _ _ _ h (lv_sub hl [3, 4, 5, 6, 1, 2, 0] rfl) hf
        · have hf := tk_t c6 hf
          refine lv_bipush (v := 10) hx hb dX7_memories_77 (by decide) ?_
          refine lv_aload_n hx hb dX7_memories_79 rfl (lv_at hl 0 rfl) ?_
          refine x_get (v := .int (x6 / 4)) C h (gM_Mo κ ad (up2 (up2 σ 0 17 (x6 / 4)) 0 18 (x6 - x6 / 4 * 4))) rfl inX7_memories_X7 17 (by decide) (hts _ lkX7_memories_114) rfl dX7_memories_80 ?_
          refine lv_imul hx hb dX7_memories_83 ?_
          refine lv_aload_n hx hb dX7_memories_84 rfl (lv_at hl 0 rfl) ?_
          refine x_get (v := .int (x6 - x6 / 4 * 4)) C h (gM_Mo κ ad (up2 (up2 σ 0 17 (x6 / 4)) 0 18 (x6 - x6 / 4 * 4))) rfl inX7_memories_X7 18 (by decide) (hts _ lkX7_memories_117) rfl dX7_memories_85 ?_
          refine lv_iadd hx hb dX7_memories_88 ?_
          refine lv_goto (tgt := 94) hx hb dX7_memories_89 (by decide) ?_
          refine lv_istore (lv' := [(5, .int ((10 * (x6 / 4)) + (x6 - x6 / 4 * 4))), (0, .ref (ad 0)), (1, .int x1), (2, .int x2), (3, .int x3), (4, .int x4), (6, .int x6)]) hx hb dX7_memories_94 hl (by decide) rfl (fun ls hl => ?_)
          refine lv_iinc (v := (x4 + 1)) (lv' := [(4, .int (x4 + 1)), (5, .int ((10 * (x6 / 4)) + (x6 - x6 / 4 * 4))), (0, .ref (ad 0)), (1, .int x1), (2, .int x2), (3, .int x3), (6, .int x6)]) hx hb dX7_memories_96 hl (k := 5) rfl rfl (by decide) rfl (fun ls hl => ?_)
          refine lv_iinc (v := (x6 + 1)) (lv' := [(6, .int (x6 + 1)), (4, .int (x4 + 1)), (5, .int ((10 * (x6 / 4)) + (x6 - x6 / 4 * 4))), (0, .ref (ad 0)), (1, .int x1), (2, .int x2), (3, .int x3)]) hx hb dX7_memories_99 hl (k := 6) rfl rfl (by decide) rfl (fun ls hl => ?_)
          refine lv_goto (tgt := 42) hx hb dX7_memories_102 (by decide) ?_
          exact ih (x4 + 1) ((10 * (x6 / 4)) + (x6 - x6 / 4 * 4)) (x6 + 1) (up2 (up2 σ 0 17 (x6 / 4)) 0 18 (x6 - x6 / 4 * 4)) _ _ _ h (lv_sub hl [3, 4, 5, 6, 1, 2, 0] rfl) hf
def fX7_memories (x1 : Int32) (σ : Sg) : Option (Int32 × Sg) :=
  (if (fX7_within x1 0 1 σ) = 0 then some ((-2), σ) else (if (σ 0 10) = 0 then some ((-3), σ) else fX7_memories_42 x1 (σ 0 17) (σ 0 18) 1000 0 (-9) 0 σ))
set_option maxHeartbeats 4000000 in
set_option maxRecDepth 100000 in
theorem kX7_memories (l : Launch) (D : va_G) (κ : Kp) (ad : Nat → Nat) (x1 : Int32) (σ : Sg) {r : Int32} {τ : Sg} (hf : fX7_memories x1 σ = some (r, τ)) : Ci l D κ (wsM κ ad) yX7_memories wsX7_memories 5 108 [.ref (ad 0), .int x1] σ r τ := by
  refine Ci.of (cc := cX7_memories) (nL := 7) (ret := (some .int)) (by decide) rfl (Nat.le_of_ble_eq_true rfl) ?_
  intro p e s m below meth c A ls C h hl
  obtain ⟨hx, hb, hml, hr, hlk, hown, hts, hK, hA, hZ⟩ := id C
  have hl : lv_has ls 7 [(0, .ref (ad 0)), (1, .int x1)] := hl
  unfold fX7_memories at hf
  refine lv_iload_n hx hb dX7_memories_0 rfl (lv_at hl 1 rfl) ?_
  refine lv_iconst (v := 0) hx hb dX7_memories_1 (by decide) ?_
  refine lv_iconst (v := 1) hx hb dX7_memories_2 (by decide) ?_
  refine x_si (As := [.int x1, .int 0, .int 1]) (rest := []) C h (kX7_within l D κ ad x1 0 1 σ (r := (fX7_within x1 0 1 σ)) rfl) (fun hts => va_cwS 3 hts gX7_memories_X7_within rfl rfl rfl (by decide +kernel) ⟨Nat.le_of_ble_eq_true rfl, Nat.le_of_ble_eq_true rfl⟩) rfl hl.1 (Nat.le_of_ble_eq_true rfl) rfl dX7_memories_3 (fun H locs h => ?_)
  refine lv_if_ne (tgt := 12) hx hb dX7_memories_6 (by decide) (fun c7 => ?_) (fun c7 => ?_)
  · have hf := tk_f c7 hf
    refine lv_aload_n hx hb dX7_memories_12 rfl (lv_at hl 0 rfl) ?_
    refine x_get (v := .int (σ 0 10)) C h (gM_Mo κ ad σ) rfl inX7_memories_X7 10 (by decide) (hts _ lkX7_memories_72) rfl dX7_memories_13 ?_
    refine lv_if_ne (tgt := 22) hx hb dX7_memories_16 (by decide) (fun c8 => ?_) (fun c8 => ?_)
    · have hf := tk_f c8 hf
      refine lv_aload_n hx hb dX7_memories_22 rfl (lv_at hl 0 rfl) ?_
      refine x_get (v := .int (σ 0 17)) C h (gM_Mo κ ad σ) rfl inX7_memories_X7 17 (by decide) (hts _ lkX7_memories_114) rfl dX7_memories_23 ?_
      refine lv_istore_n (lv' := [(2, .int (σ 0 17)), (0, .ref (ad 0)), (1, .int x1)]) hx hb dX7_memories_26 rfl hl (by decide) rfl (fun ls hl => ?_)
      refine lv_aload_n hx hb dX7_memories_27 rfl (lv_at hl 1 rfl) ?_
      refine x_get (v := .int (σ 0 18)) C h (gM_Mo κ ad σ) rfl inX7_memories_X7 18 (by decide) (hts _ lkX7_memories_117) rfl dX7_memories_28 ?_
      refine lv_istore_n (lv' := [(3, .int (σ 0 18)), (2, .int (σ 0 17)), (0, .ref (ad 0)), (1, .int x1)]) hx hb dX7_memories_31 rfl hl (by decide) rfl (fun ls hl => ?_)
      refine lv_iconst (v := 0) hx hb dX7_memories_32 (by decide) ?_
      refine lv_istore (lv' := [(4, .int 0), (3, .int (σ 0 18)), (2, .int (σ 0 17)), (0, .ref (ad 0)), (1, .int x1)]) hx hb dX7_memories_33 hl (by decide) rfl (fun ls hl => ?_)
      refine lv_bipush (v := (-9)) hx hb dX7_memories_35 (by decide) ?_
      refine lv_istore (lv' := [(5, .int (-9)), (4, .int 0), (3, .int (σ 0 18)), (2, .int (σ 0 17)), (0, .ref (ad 0)), (1, .int x1)]) hx hb dX7_memories_37 hl (by decide) rfl (fun ls hl => ?_)
      refine lv_iconst (v := 0) hx hb dX7_memories_39 (by decide) ?_
      refine lv_istore (lv' := [(6, .int 0), (5, .int (-9)), (4, .int 0), (3, .int (σ 0 18)), (2, .int (σ 0 17)), (0, .ref (ad 0)), (1, .int x1)]) hx hb dX7_memories_40 hl (by decide) rfl (fun ls hl => ?_)
      exact jX7_memories_42 C x1 (σ 0 17) (σ 0 18) 1000 0 (-9) 0 σ _ _ _ h (lv_sub hl [5, 6, 4, 3, 2, 1, 0] rfl) hf
    · have hf := tk_t c8 hf
      refine lv_bipush (v := (-3)) hx hb dX7_memories_19 (by decide) ?_
      obtain ⟨rfl, rfl⟩ := pr_ok hf
      exact x_iret C h dX7_memories_21
  · have hf := tk_t c7 hf
    refine lv_bipush (v := (-2)) hx hb dX7_memories_9 (by decide) ?_
    obtain ⟨rfl, rfl⟩ := pr_ok hf
    exact x_iret C h dX7_memories_11

-- ===== X7_kinds: ButtonMatchModel.kinds(I)I
theorem lkX7_kinds_22 : Cond.fieldLink RX7 22 "ButtonMatchModel" "kind" "[I" ∈ wsX7_kinds := by decide +kernel
theorem inX7_kinds_X7 : ∀ w ∈ wsX70, w ∈ wsX7_kinds := fun _ h => List.mem_cons_of_mem _ (List.mem_append_right _ h)
def fX7_kinds_22 (x1 : Int32) (x2 : Int32) : Nat → Int32 → Int32 → Sg → Option (Int32 × Sg)
  | 0, _, _, _ => none
  | n + 1, x3, x4, σ => (if 3 ≤ x4 then (if gIn x1 6 then some (x3, (up2 σ 5 x1.toNatClampNeg x2)) else none) else (if gIn x1 6 then ((fX7_areSo (up2 σ 5 x1.toNatClampNeg x4)).bind fun r5 => (if r5 = 0 then fX7_kinds_22 x1 x2 n (x3 ||| 0) (x4 + 1) (up2 σ 5 x1.toNatClampNeg x4) else fX7_kinds_22 x1 x2 n (x3 ||| (1 <<< (x4 &&& 31))) (x4 + 1) (up2 σ 5 x1.toNatClampNeg x4))) else none))
set_option maxHeartbeats 4000000 in
set_option maxRecDepth 100000 in
theorem jX7_kinds_22 {p : Program} {l : Launch} {e : Env} {s : State} {m : MethodId} {args : Array Value} {below : List Frame} {meth : Method} {c : Code} {D : va_G} {κ : Kp} {ad : Nat → Nat} {A : Nat → Prop} {r : Int32} {τ : Sg} (C : Mc p s m args meth c cX7_kinds 5 (some .int) wsX7_kinds RX7 D κ A) (x1 : Int32) (x2 : Int32) : ∀ (n : Nat) (x3 : Int32) (x4 : Int32) (σ : Sg) (H : Heap) (locs : List Loc) (ls : Array Slot), Wd D (wsM κ ad) A s.heap H locs σ → lv_has ls 5 [(0, .ref (ad 0)), (1, .int x1), (2, .int x2), (3, .int x3), (4, .int x4)] → fX7_kinds_22 x1 x2 n x3 x4 σ = some (r, τ) → W p l e { frames := 5, cells := 0, slots := 0, locals := 108 } s m args below meth c H locs 0 0 (Qi below args s D (wsM κ ad) A r τ) (F0 m 22 ls []) := by
  obtain ⟨hx, hb, hml, hr, hlk, hown, hts, hK, hA, hZ⟩ := id C
  intro n
  induction n with
  | zero =>
    intro x3 x4 σ H locs ls h hl hf
    rw [fX7_kinds_22] at hf
    cases hf
  | succ n ih =>
    intro x3 x4 σ H locs ls h hl hf
    rw [fX7_kinds_22] at hf
    refine lv_iload hx hb dX7_kinds_22 (lv_at hl 4 rfl) ?_
    refine lv_iconst (v := 3) hx hb dX7_kinds_24 (by decide) ?_
    refine lv_icmp_ge (tgt := 60) hx hb dX7_kinds_25 (by decide) (fun c1 => ?_) (fun c1 => ?_)
    · have hf := tk_t c1 hf
      refine lv_aload_n hx hb dX7_kinds_60 rfl (lv_at hl 0 rfl) ?_
      refine x_get (v := .ref (ad 5)) C h (gM_Mo κ ad σ) rfl inX7_kinds_X7 11 (by decide) (hts _ lkX7_kinds_22) rfl dX7_kinds_61 ?_
      refine lv_iload_n hx hb dX7_kinds_64 rfl (lv_at hl 1 rfl) ?_
      refine lv_iload_n hx hb dX7_kinds_65 rfl (lv_at hl 2 rfl) ?_
      obtain ⟨g2, hf⟩ := gd_ok hf
      refine x_iast C h (gM_m_kind κ ad σ) (sM_m_kind κ ad σ x1.toNatClampNeg x2) g2 dX7_kinds_66 (fun H locs h => ?_)
      refine lv_iload_n hx hb dX7_kinds_67 rfl (lv_at hl 3 rfl) ?_
      obtain ⟨rfl, rfl⟩ := pr_ok hf
      exact x_iret C h dX7_kinds_68
    · have hf := tk_f c1 hf
      refine lv_aload_n hx hb dX7_kinds_28 rfl (lv_at hl 0 rfl) ?_
      refine x_get (v := .ref (ad 5)) C h (gM_Mo κ ad σ) rfl inX7_kinds_X7 11 (by decide) (hts _ lkX7_kinds_22) rfl dX7_kinds_29 ?_
      refine lv_iload_n hx hb dX7_kinds_32 rfl (lv_at hl 1 rfl) ?_
      refine lv_iload hx hb dX7_kinds_33 (lv_at hl 4 rfl) ?_
      obtain ⟨g3, hf⟩ := gd_ok hf
      refine x_iast C h (gM_m_kind κ ad σ) (sM_m_kind κ ad σ x1.toNatClampNeg x4) g3 dX7_kinds_35 (fun H locs h => ?_)
      refine lv_iload_n hx hb dX7_kinds_36 rfl (lv_at hl 3 rfl) ?_
      refine lv_aload_n hx hb dX7_kinds_37 rfl (lv_at hl 0 rfl) ?_
      obtain ⟨r5, hg4, hf⟩ := bd_ok hf
      refine x_vi (As := []) (rest := [.int x3]) C h (gM_Mo κ ad (up2 σ 5 x1.toNatClampNeg x4)) rfl (kX7_areSo l D κ ad (up2 σ 5 x1.toNatClampNeg x4) (r := r5) hg4) (fun hts => cwV 0 hts gX7_kinds_X7_areSo rfl rfl rfl (by decide +kernel) ⟨Nat.le_of_ble_eq_true rfl, Nat.le_of_ble_eq_true rfl⟩) rfl hl.1 (Nat.le_of_ble_eq_true rfl) rfl dX7_kinds_38 (fun H locs h => ?_)
      refine lv_if_eq (tgt := 51) hx hb dX7_kinds_41 (by decide) (fun c6 => ?_) (fun c6 => ?_)
      · have hf := tk_t c6 hf
        refine lv_iconst (v := 0) hx hb dX7_kinds_51 (by decide) ?_
        refine lv_ior hx hb dX7_kinds_52 ?_
        refine lv_istore_n (lv' := [(3, .int (x3 ||| 0)), (0, .ref (ad 0)), (1, .int x1), (2, .int x2), (4, .int x4)]) hx hb dX7_kinds_53 rfl hl (by decide) rfl (fun ls hl => ?_)
        refine lv_iinc (v := (x4 + 1)) (lv' := [(4, .int (x4 + 1)), (3, .int (x3 ||| 0)), (0, .ref (ad 0)), (1, .int x1), (2, .int x2)]) hx hb dX7_kinds_54 hl (k := 4) rfl rfl (by decide) rfl (fun ls hl => ?_)
        refine lv_goto (tgt := 22) hx hb dX7_kinds_57 (by decide) ?_
        exact ih (x3 ||| 0) (x4 + 1) (up2 σ 5 x1.toNatClampNeg x4) _ _ _ h (lv_sub hl [2, 3, 4, 1, 0] rfl) hf
      · have hf := tk_f c6 hf
        refine lv_iconst (v := 1) hx hb dX7_kinds_44 (by decide) ?_
        refine lv_iload hx hb dX7_kinds_45 (lv_at hl 4 rfl) ?_
        refine lv_ishl hx hb dX7_kinds_47 ?_
        refine lv_goto (tgt := 52) hx hb dX7_kinds_48 (by decide) ?_
        refine lv_ior hx hb dX7_kinds_52 ?_
        refine lv_istore_n (lv' := [(3, .int (x3 ||| (1 <<< (x4 &&& 31)))), (0, .ref (ad 0)), (1, .int x1), (2, .int x2), (4, .int x4)]) hx hb dX7_kinds_53 rfl hl (by decide) rfl (fun ls hl => ?_)
        refine lv_iinc (v := (x4 + 1)) (lv' := [(4, .int (x4 + 1)), (3, .int (x3 ||| (1 <<< (x4 &&& 31)))), (0, .ref (ad 0)), (1, .int x1), (2, .int x2)]) hx hb dX7_kinds_54 hl (k := 4) rfl rfl (by decide) rfl (fun ls hl => ?_)
        refine lv_goto (tgt := 22) hx hb dX7_kinds_57 (by decide) ?_
        exact ih (x3 ||| (1 <<< (x4 &&& 31))) (x4 + 1) (up2 σ 5 x1.toNatClampNeg x4) _ _ _ h (lv_sub hl [2, 3, 4, 1, 0] rfl) hf
def fX7_kinds (x1 : Int32) (σ : Sg) : Option (Int32 × Sg) :=
  (if (fX7_isTube x1 σ) = 0 then some ((-1), σ) else (if gIn x1 6 then fX7_kinds_22 x1 (σ 5 x1.toNatClampNeg) 1000 0 0 σ else none))
set_option maxHeartbeats 4000000 in
set_option maxRecDepth 100000 in
theorem kX7_kinds (l : Launch) (D : va_G) (κ : Kp) (ad : Nat → Nat) (x1 : Int32) (σ : Sg) {r : Int32} {τ : Sg} (hf : fX7_kinds x1 σ = some (r, τ)) : Ci l D κ (wsM κ ad) yX7_kinds wsX7_kinds 5 108 [.ref (ad 0), .int x1] σ r τ := by
  refine Ci.of (cc := cX7_kinds) (nL := 5) (ret := (some .int)) (by decide) rfl (Nat.le_of_ble_eq_true rfl) ?_
  intro p e s m below meth c A ls C h hl
  obtain ⟨hx, hb, hml, hr, hlk, hown, hts, hK, hA, hZ⟩ := id C
  have hl : lv_has ls 5 [(0, .ref (ad 0)), (1, .int x1)] := hl
  unfold fX7_kinds at hf
  refine lv_aload_n hx hb dX7_kinds_0 rfl (lv_at hl 0 rfl) ?_
  refine lv_iload_n hx hb dX7_kinds_1 rfl (lv_at hl 1 rfl) ?_
  refine x_vi (As := [.int x1]) (rest := []) C h (gM_Mo κ ad σ) rfl (kX7_isTube l D κ ad x1 σ (r := (fX7_isTube x1 σ)) rfl) (fun hts => cwV 1 hts gX7_kinds_X7_isTube rfl rfl rfl (by decide +kernel) ⟨Nat.le_of_ble_eq_true rfl, Nat.le_of_ble_eq_true rfl⟩) rfl hl.1 (Nat.le_of_ble_eq_true rfl) rfl dX7_kinds_2 (fun H locs h => ?_)
  refine lv_if_ne (tgt := 10) hx hb dX7_kinds_5 (by decide) (fun c7 => ?_) (fun c7 => ?_)
  · have hf := tk_f c7 hf
    refine lv_aload_n hx hb dX7_kinds_10 rfl (lv_at hl 0 rfl) ?_
    refine x_get (v := .ref (ad 5)) C h (gM_Mo κ ad σ) rfl inX7_kinds_X7 11 (by decide) (hts _ lkX7_kinds_22) rfl dX7_kinds_11 ?_
    refine lv_iload_n hx hb dX7_kinds_14 rfl (lv_at hl 1 rfl) ?_
    obtain ⟨g8, hf⟩ := gd_ok hf
    refine x_iald (v := (σ 5 x1.toNatClampNeg)) C h (gM_m_kind κ ad σ) g8 rfl dX7_kinds_15 ?_
    refine lv_istore_n (lv' := [(2, .int (σ 5 x1.toNatClampNeg)), (0, .ref (ad 0)), (1, .int x1)]) hx hb dX7_kinds_16 rfl hl (by decide) rfl (fun ls hl => ?_)
    refine lv_iconst (v := 0) hx hb dX7_kinds_17 (by decide) ?_
    refine lv_istore_n (lv' := [(3, .int 0), (2, .int (σ 5 x1.toNatClampNeg)), (0, .ref (ad 0)), (1, .int x1)]) hx hb dX7_kinds_18 rfl hl (by decide) rfl (fun ls hl => ?_)
    refine lv_iconst (v := 0) hx hb dX7_kinds_19 (by decide) ?_
    refine lv_istore (lv' := [(4, .int 0), (3, .int 0), (2, .int (σ 5 x1.toNatClampNeg)), (0, .ref (ad 0)), (1, .int x1)]) hx hb dX7_kinds_20 hl (by decide) rfl (fun ls hl => ?_)
    exact jX7_kinds_22 C x1 (σ 5 x1.toNatClampNeg) 1000 0 0 σ _ _ _ h (lv_sub hl [3, 4, 2, 1, 0] rfl) hf
  · have hf := tk_t c7 hf
    refine lv_iconst (v := (-1)) hx hb dX7_kinds_8 (by decide) ?_
    obtain ⟨rfl, rfl⟩ := pr_ok hf
    exact x_iret C h dX7_kinds_9

-- ===== X7_colours: ButtonMatchModel.colours(I)I
theorem lkX7_colours_25 : Cond.fieldLink RX7 25 "ButtonMatchModel" "colour" "[I" ∈ wsX7_colours := by decide +kernel
theorem inX7_colours_X7 : ∀ w ∈ wsX70, w ∈ wsX7_colours := fun _ h => List.mem_cons_of_mem _ (List.mem_append_right _ h)
def fX7_colours_22 (x1 : Int32) (x2 : Int32) : Nat → Int32 → Int32 → Sg → Option (Int32 × Sg)
  | 0, _, _, _ => none
  | n + 1, x3, x4, σ => (if 7 < x4 then (if gIn x1 6 then some (x3, (up2 σ 6 x1.toNatClampNeg x2)) else none) else (if gIn x1 6 then ((fX7_areSo (up2 σ 6 x1.toNatClampNeg x4)).bind fun r5 => (if r5 = 0 then fX7_colours_22 x1 x2 n (x3 ||| 0) (x4 + 1) (up2 σ 6 x1.toNatClampNeg x4) else fX7_colours_22 x1 x2 n (x3 ||| (1 <<< (x4 &&& 31))) (x4 + 1) (up2 σ 6 x1.toNatClampNeg x4))) else none))
set_option maxHeartbeats 4000000 in
set_option maxRecDepth 100000 in
theorem jX7_colours_22 {p : Program} {l : Launch} {e : Env} {s : State} {m : MethodId} {args : Array Value} {below : List Frame} {meth : Method} {c : Code} {D : va_G} {κ : Kp} {ad : Nat → Nat} {A : Nat → Prop} {r : Int32} {τ : Sg} (C : Mc p s m args meth c cX7_colours 5 (some .int) wsX7_colours RX7 D κ A) (x1 : Int32) (x2 : Int32) : ∀ (n : Nat) (x3 : Int32) (x4 : Int32) (σ : Sg) (H : Heap) (locs : List Loc) (ls : Array Slot), Wd D (wsM κ ad) A s.heap H locs σ → lv_has ls 5 [(0, .ref (ad 0)), (1, .int x1), (2, .int x2), (3, .int x3), (4, .int x4)] → fX7_colours_22 x1 x2 n x3 x4 σ = some (r, τ) → W p l e { frames := 5, cells := 0, slots := 0, locals := 108 } s m args below meth c H locs 0 0 (Qi below args s D (wsM κ ad) A r τ) (F0 m 22 ls []) := by
  obtain ⟨hx, hb, hml, hr, hlk, hown, hts, hK, hA, hZ⟩ := id C
  intro n
  induction n with
  | zero =>
    intro x3 x4 σ H locs ls h hl hf
    rw [fX7_colours_22] at hf
    cases hf
  | succ n ih =>
    intro x3 x4 σ H locs ls h hl hf
    rw [fX7_colours_22] at hf
    refine lv_iload hx hb dX7_colours_22 (lv_at hl 4 rfl) ?_
    refine lv_bipush (v := 7) hx hb dX7_colours_24 (by decide) ?_
    refine lv_icmp_gt (tgt := 61) hx hb dX7_colours_26 (by decide) (fun c1 => ?_) (fun c1 => ?_)
    · have hf := tk_t c1 hf
      refine lv_aload_n hx hb dX7_colours_61 rfl (lv_at hl 0 rfl) ?_
      refine x_get (v := .ref (ad 6)) C h (gM_Mo κ ad σ) rfl inX7_colours_X7 12 (by decide) (hts _ lkX7_colours_25) rfl dX7_colours_62 ?_
      refine lv_iload_n hx hb dX7_colours_65 rfl (lv_at hl 1 rfl) ?_
      refine lv_iload_n hx hb dX7_colours_66 rfl (lv_at hl 2 rfl) ?_
      obtain ⟨g2, hf⟩ := gd_ok hf
      refine x_iast C h (gM_m_colour κ ad σ) (sM_m_colour κ ad σ x1.toNatClampNeg x2) g2 dX7_colours_67 (fun H locs h => ?_)
      refine lv_iload_n hx hb dX7_colours_68 rfl (lv_at hl 3 rfl) ?_
      obtain ⟨rfl, rfl⟩ := pr_ok hf
      exact x_iret C h dX7_colours_69
    · have hf := tk_f c1 hf
      refine lv_aload_n hx hb dX7_colours_29 rfl (lv_at hl 0 rfl) ?_
      refine x_get (v := .ref (ad 6)) C h (gM_Mo κ ad σ) rfl inX7_colours_X7 12 (by decide) (hts _ lkX7_colours_25) rfl dX7_colours_30 ?_
      refine lv_iload_n hx hb dX7_colours_33 rfl (lv_at hl 1 rfl) ?_
      refine lv_iload hx hb dX7_colours_34 (lv_at hl 4 rfl) ?_
      obtain ⟨g3, hf⟩ := gd_ok hf
      refine x_iast C h (gM_m_colour κ ad σ) (sM_m_colour κ ad σ x1.toNatClampNeg x4) g3 dX7_colours_36 (fun H locs h => ?_)
      refine lv_iload_n hx hb dX7_colours_37 rfl (lv_at hl 3 rfl) ?_
      refine lv_aload_n hx hb dX7_colours_38 rfl (lv_at hl 0 rfl) ?_
      obtain ⟨r5, hg4, hf⟩ := bd_ok hf
      refine x_vi (As := []) (rest := [.int x3]) C h (gM_Mo κ ad (up2 σ 6 x1.toNatClampNeg x4)) rfl (kX7_areSo l D κ ad (up2 σ 6 x1.toNatClampNeg x4) (r := r5) hg4) (fun hts => cwV 0 hts gX7_colours_X7_areSo rfl rfl rfl (by decide +kernel) ⟨Nat.le_of_ble_eq_true rfl, Nat.le_of_ble_eq_true rfl⟩) rfl hl.1 (Nat.le_of_ble_eq_true rfl) rfl dX7_colours_39 (fun H locs h => ?_)
      refine lv_if_eq (tgt := 52) hx hb dX7_colours_42 (by decide) (fun c6 => ?_) (fun c6 => ?_)
      · have hf := tk_t c6 hf
        refine lv_iconst (v := 0) hx hb dX7_colours_52 (by decide) ?_
        refine lv_ior hx hb dX7_colours_53 ?_
        refine lv_istore_n (lv' := [(3, .int (x3 ||| 0)), (0, .ref (ad 0)), (1, .int x1), (2, .int x2), (4, .int x4)]) hx hb dX7_colours_54 rfl hl (by decide) rfl (fun ls hl => ?_)
        refine lv_iinc (v := (x4 + 1)) (lv' := [(4, .int (x4 + 1)), (3, .int (x3 ||| 0)), (0, .ref (ad 0)), (1, .int x1), (2, .int x2)]) hx hb dX7_colours_55 hl (k := 4) rfl rfl (by decide) rfl (fun ls hl => ?_)
        refine lv_goto (tgt := 22) hx hb dX7_colours_58 (by decide) ?_
        exact ih (x3 ||| 0) (x4 + 1) (up2 σ 6 x1.toNatClampNeg x4) _ _ _ h (lv_sub hl [2, 3, 4, 1, 0] rfl) hf
      · have hf := tk_f c6 hf
        refine lv_iconst (v := 1) hx hb dX7_colours_45 (by decide) ?_
        refine lv_iload hx hb dX7_colours_46 (lv_at hl 4 rfl) ?_
        refine lv_ishl hx hb dX7_colours_48 ?_
        refine lv_goto (tgt := 53) hx hb dX7_colours_49 (by decide) ?_
        refine lv_ior hx hb dX7_colours_53 ?_
        refine lv_istore_n (lv' := [(3, .int (x3 ||| (1 <<< (x4 &&& 31)))), (0, .ref (ad 0)), (1, .int x1), (2, .int x2), (4, .int x4)]) hx hb dX7_colours_54 rfl hl (by decide) rfl (fun ls hl => ?_)
        refine lv_iinc (v := (x4 + 1)) (lv' := [(4, .int (x4 + 1)), (3, .int (x3 ||| (1 <<< (x4 &&& 31)))), (0, .ref (ad 0)), (1, .int x1), (2, .int x2)]) hx hb dX7_colours_55 hl (k := 4) rfl rfl (by decide) rfl (fun ls hl => ?_)
        refine lv_goto (tgt := 22) hx hb dX7_colours_58 (by decide) ?_
        exact ih (x3 ||| (1 <<< (x4 &&& 31))) (x4 + 1) (up2 σ 6 x1.toNatClampNeg x4) _ _ _ h (lv_sub hl [2, 3, 4, 1, 0] rfl) hf
def fX7_colours (x1 : Int32) (σ : Sg) : Option (Int32 × Sg) :=
  (if (fX7_isTube x1 σ) = 0 then some ((-1), σ) else (if gIn x1 6 then fX7_colours_22 x1 (σ 6 x1.toNatClampNeg) 1000 0 0 σ else none))
set_option maxHeartbeats 4000000 in
set_option maxRecDepth 100000 in
theorem kX7_colours (l : Launch) (D : va_G) (κ : Kp) (ad : Nat → Nat) (x1 : Int32) (σ : Sg) {r : Int32} {τ : Sg} (hf : fX7_colours x1 σ = some (r, τ)) : Ci l D κ (wsM κ ad) yX7_colours wsX7_colours 5 108 [.ref (ad 0), .int x1] σ r τ := by
  refine Ci.of (cc := cX7_colours) (nL := 5) (ret := (some .int)) (by decide) rfl (Nat.le_of_ble_eq_true rfl) ?_
  intro p e s m below meth c A ls C h hl
  obtain ⟨hx, hb, hml, hr, hlk, hown, hts, hK, hA, hZ⟩ := id C
  have hl : lv_has ls 5 [(0, .ref (ad 0)), (1, .int x1)] := hl
  unfold fX7_colours at hf
  refine lv_aload_n hx hb dX7_colours_0 rfl (lv_at hl 0 rfl) ?_
  refine lv_iload_n hx hb dX7_colours_1 rfl (lv_at hl 1 rfl) ?_
  refine x_vi (As := [.int x1]) (rest := []) C h (gM_Mo κ ad σ) rfl (kX7_isTube l D κ ad x1 σ (r := (fX7_isTube x1 σ)) rfl) (fun hts => cwV 1 hts gX7_colours_X7_isTube rfl rfl rfl (by decide +kernel) ⟨Nat.le_of_ble_eq_true rfl, Nat.le_of_ble_eq_true rfl⟩) rfl hl.1 (Nat.le_of_ble_eq_true rfl) rfl dX7_colours_2 (fun H locs h => ?_)
  refine lv_if_ne (tgt := 10) hx hb dX7_colours_5 (by decide) (fun c7 => ?_) (fun c7 => ?_)
  · have hf := tk_f c7 hf
    refine lv_aload_n hx hb dX7_colours_10 rfl (lv_at hl 0 rfl) ?_
    refine x_get (v := .ref (ad 6)) C h (gM_Mo κ ad σ) rfl inX7_colours_X7 12 (by decide) (hts _ lkX7_colours_25) rfl dX7_colours_11 ?_
    refine lv_iload_n hx hb dX7_colours_14 rfl (lv_at hl 1 rfl) ?_
    obtain ⟨g8, hf⟩ := gd_ok hf
    refine x_iald (v := (σ 6 x1.toNatClampNeg)) C h (gM_m_colour κ ad σ) g8 rfl dX7_colours_15 ?_
    refine lv_istore_n (lv' := [(2, .int (σ 6 x1.toNatClampNeg)), (0, .ref (ad 0)), (1, .int x1)]) hx hb dX7_colours_16 rfl hl (by decide) rfl (fun ls hl => ?_)
    refine lv_iconst (v := 0) hx hb dX7_colours_17 (by decide) ?_
    refine lv_istore_n (lv' := [(3, .int 0), (2, .int (σ 6 x1.toNatClampNeg)), (0, .ref (ad 0)), (1, .int x1)]) hx hb dX7_colours_18 rfl hl (by decide) rfl (fun ls hl => ?_)
    refine lv_iconst (v := 0) hx hb dX7_colours_19 (by decide) ?_
    refine lv_istore (lv' := [(4, .int 0), (3, .int 0), (2, .int (σ 6 x1.toNatClampNeg)), (0, .ref (ad 0)), (1, .int x1)]) hx hb dX7_colours_20 hl (by decide) rfl (fun ls hl => ?_)
    exact jX7_colours_22 C x1 (σ 6 x1.toNatClampNeg) 1000 0 0 σ _ _ _ h (lv_sub hl [3, 4, 2, 1, 0] rfl) hf
  · have hf := tk_t c7 hf
    refine lv_iconst (v := (-1)) hx hb dX7_colours_8 (by decide) ?_
    obtain ⟨rfl, rfl⟩ := pr_ok hf
    exact x_iret C h dX7_colours_9

-- ===== X7_nears: ButtonMatchModel.nears()I
theorem lkX7_nears_120 : Cond.fieldLink RX7 120 "ButtonMatchModel" "near" "I" ∈ wsX7_nears := by decide +kernel
theorem inX7_nears_X7 : ∀ w ∈ wsX70, w ∈ wsX7_nears := fun _ h => List.mem_cons_of_mem _ (List.mem_append_right _ h)
theorem lkX7_nears_72 : Cond.fieldLink RX7 72 "ButtonMatchModel" "tubes" "I" ∈ wsX7_nears := by decide +kernel
def fX7_nears_19 (x1 : Int32) : Nat → Int32 → Int32 → Sg → Option (Int32 × Sg)
  | 0, _, _, _ => none
  | n + 1, x2, x3, σ => (if 20 < x3 then some (x2, (up2 σ 0 19 x1)) else ((fX7_areSo (up2 σ 0 19 x3)).bind fun r3 => (if r3 = 0 then fX7_nears_19 x1 n (x2 ||| 0) (x3 + 1) (up2 σ 0 19 x3) else fX7_nears_19 x1 n (x2 ||| (1 <<< (x3 &&& 31))) (x3 + 1) (up2 σ 0 19 x3))))
set_option maxHeartbeats 4000000 in
set_option maxRecDepth 100000 in
theorem jX7_nears_19 {p : Program} {l : Launch} {e : Env} {s : State} {m : MethodId} {args : Array Value} {below : List Frame} {meth : Method} {c : Code} {D : va_G} {κ : Kp} {ad : Nat → Nat} {A : Nat → Prop} {r : Int32} {τ : Sg} (C : Mc p s m args meth c cX7_nears 4 (some .int) wsX7_nears RX7 D κ A) (x1 : Int32) : ∀ (n : Nat) (x2 : Int32) (x3 : Int32) (σ : Sg) (H : Heap) (locs : List Loc) (ls : Array Slot), Wd D (wsM κ ad) A s.heap H locs σ → lv_has ls 4 [(0, .ref (ad 0)), (1, .int x1), (2, .int x2), (3, .int x3)] → fX7_nears_19 x1 n x2 x3 σ = some (r, τ) → W p l e { frames := 5, cells := 0, slots := 0, locals := 108 } s m args below meth c H locs 0 0 (Qi below args s D (wsM κ ad) A r τ) (F0 m 19 ls []) := by
  obtain ⟨hx, hb, hml, hr, hlk, hown, hts, hK, hA, hZ⟩ := id C
  intro n
  induction n with
  | zero =>
    intro x2 x3 σ H locs ls h hl hf
    rw [fX7_nears_19] at hf
    cases hf
  | succ n ih =>
    intro x2 x3 σ H locs ls h hl hf
    rw [fX7_nears_19] at hf
    refine lv_iload_n hx hb dX7_nears_19 rfl (lv_at hl 3 rfl) ?_
    refine lv_bipush (v := 20) hx hb dX7_nears_20 (by decide) ?_
    refine lv_icmp_gt (tgt := 53) hx hb dX7_nears_22 (by decide) (fun c1 => ?_) (fun c1 => ?_)
    · have hf := tk_t c1 hf
      refine lv_aload_n hx hb dX7_nears_53 rfl (lv_at hl 0 rfl) ?_
      refine lv_iload_n hx hb dX7_nears_54 rfl (lv_at hl 1 rfl) ?_
      refine x_put C h (gM_Mo κ ad σ) rfl inX7_nears_X7 tyX7 tyX7_ok nmX7 19 (by decide) (hts _ lkX7_nears_120) rfl (tyX7_ok 19 (by decide)) (Nat.le_of_ble_eq_true rfl) (sM_Mo_19 κ ad σ x1) dX7_nears_55 (fun H locs h => ?_)
      refine lv_iload_n hx hb dX7_nears_58 rfl (lv_at hl 2 rfl) ?_
      obtain ⟨rfl, rfl⟩ := pr_ok hf
      exact x_iret C h dX7_nears_59
    · have hf := tk_f c1 hf
      refine lv_aload_n hx hb dX7_nears_25 rfl (lv_at hl 0 rfl) ?_
      refine lv_iload_n hx hb dX7_nears_26 rfl (lv_at hl 3 rfl) ?_
      refine x_put C h (gM_Mo κ ad σ) rfl inX7_nears_X7 tyX7 tyX7_ok nmX7 19 (by decide) (hts _ lkX7_nears_120) rfl (tyX7_ok 19 (by decide)) (Nat.le_of_ble_eq_true rfl) (sM_Mo_19 κ ad σ x3) dX7_nears_27 (fun H locs h => ?_)
      refine lv_iload_n hx hb dX7_nears_30 rfl (lv_at hl 2 rfl) ?_
      refine lv_aload_n hx hb dX7_nears_31 rfl (lv_at hl 0 rfl) ?_
      obtain ⟨r3, hg2, hf⟩ := bd_ok hf
      refine x_vi (As := []) (rest := [.int x2]) C h (gM_Mo κ ad (up2 σ 0 19 x3)) rfl (kX7_areSo l D κ ad (up2 σ 0 19 x3) (r := r3) hg2) (fun hts => cwV 0 hts gX7_nears_X7_areSo rfl rfl rfl (by decide +kernel) ⟨Nat.le_of_ble_eq_true rfl, Nat.le_of_ble_eq_true rfl⟩) rfl hl.1 (Nat.le_of_ble_eq_true rfl) rfl dX7_nears_32 (fun H locs h => ?_)
      refine lv_if_eq (tgt := 44) hx hb dX7_nears_35 (by decide) (fun c4 => ?_) (fun c4 => ?_)
      · have hf := tk_t c4 hf
        refine lv_iconst (v := 0) hx hb dX7_nears_44 (by decide) ?_
        refine lv_ior hx hb dX7_nears_45 ?_
        refine lv_istore_n (lv' := [(2, .int (x2 ||| 0)), (0, .ref (ad 0)), (1, .int x1), (3, .int x3)]) hx hb dX7_nears_46 rfl hl (by decide) rfl (fun ls hl => ?_)
        refine lv_iinc (v := (x3 + 1)) (lv' := [(3, .int (x3 + 1)), (2, .int (x2 ||| 0)), (0, .ref (ad 0)), (1, .int x1)]) hx hb dX7_nears_47 hl (k := 3) rfl rfl (by decide) rfl (fun ls hl => ?_)
        refine lv_goto (tgt := 19) hx hb dX7_nears_50 (by decide) ?_
        exact ih (x2 ||| 0) (x3 + 1) (up2 σ 0 19 x3) _ _ _ h (lv_sub hl [2, 3, 1, 0] rfl) hf
      · have hf := tk_f c4 hf
        refine lv_iconst (v := 1) hx hb dX7_nears_38 (by decide) ?_
        refine lv_iload_n hx hb dX7_nears_39 rfl (lv_at hl 3 rfl) ?_
        refine lv_ishl hx hb dX7_nears_40 ?_
        refine lv_goto (tgt := 45) hx hb dX7_nears_41 (by decide) ?_
        refine lv_ior hx hb dX7_nears_45 ?_
        refine lv_istore_n (lv' := [(2, .int (x2 ||| (1 <<< (x3 &&& 31)))), (0, .ref (ad 0)), (1, .int x1), (3, .int x3)]) hx hb dX7_nears_46 rfl hl (by decide) rfl (fun ls hl => ?_)
        refine lv_iinc (v := (x3 + 1)) (lv' := [(3, .int (x3 + 1)), (2, .int (x2 ||| (1 <<< (x3 &&& 31)))), (0, .ref (ad 0)), (1, .int x1)]) hx hb dX7_nears_47 hl (k := 3) rfl rfl (by decide) rfl (fun ls hl => ?_)
        refine lv_goto (tgt := 19) hx hb dX7_nears_50 (by decide) ?_
        exact ih (x2 ||| (1 <<< (x3 &&& 31))) (x3 + 1) (up2 σ 0 19 x3) _ _ _ h (lv_sub hl [2, 3, 1, 0] rfl) hf
def fX7_nears (σ : Sg) : Option (Int32 × Sg) :=
  (if (σ 0 10) = 0 then some ((-3), σ) else fX7_nears_19 (σ 0 19) 1000 0 0 σ)
set_option maxHeartbeats 4000000 in
set_option maxRecDepth 100000 in
theorem kX7_nears (l : Launch) (D : va_G) (κ : Kp) (ad : Nat → Nat) (σ : Sg) {r : Int32} {τ : Sg} (hf : fX7_nears σ = some (r, τ)) : Ci l D κ (wsM κ ad) yX7_nears wsX7_nears 5 108 [.ref (ad 0)] σ r τ := by
  refine Ci.of (cc := cX7_nears) (nL := 4) (ret := (some .int)) (by decide) rfl (Nat.le_of_ble_eq_true rfl) ?_
  intro p e s m below meth c A ls C h hl
  obtain ⟨hx, hb, hml, hr, hlk, hown, hts, hK, hA, hZ⟩ := id C
  have hl : lv_has ls 4 [(0, .ref (ad 0))] := hl
  unfold fX7_nears at hf
  refine lv_aload_n hx hb dX7_nears_0 rfl (lv_at hl 0 rfl) ?_
  refine x_get (v := .int (σ 0 10)) C h (gM_Mo κ ad σ) rfl inX7_nears_X7 10 (by decide) (hts _ lkX7_nears_72) rfl dX7_nears_1 ?_
  refine lv_if_ne (tgt := 10) hx hb dX7_nears_4 (by decide) (fun c5 => ?_) (fun c5 => ?_)
  · have hf := tk_f c5 hf
    refine lv_aload_n hx hb dX7_nears_10 rfl (lv_at hl 0 rfl) ?_
    refine x_get (v := .int (σ 0 19)) C h (gM_Mo κ ad σ) rfl inX7_nears_X7 19 (by decide) (hts _ lkX7_nears_120) rfl dX7_nears_11 ?_
    refine lv_istore_n (lv' := [(1, .int (σ 0 19)), (0, .ref (ad 0))]) hx hb dX7_nears_14 rfl hl (by decide) rfl (fun ls hl => ?_)
    refine lv_iconst (v := 0) hx hb dX7_nears_15 (by decide) ?_
    refine lv_istore_n (lv' := [(2, .int 0), (1, .int (σ 0 19)), (0, .ref (ad 0))]) hx hb dX7_nears_16 rfl hl (by decide) rfl (fun ls hl => ?_)
    refine lv_iconst (v := 0) hx hb dX7_nears_17 (by decide) ?_
    refine lv_istore_n (lv' := [(3, .int 0), (2, .int 0), (1, .int (σ 0 19)), (0, .ref (ad 0))]) hx hb dX7_nears_18 rfl hl (by decide) rfl (fun ls hl => ?_)
    exact jX7_nears_19 C (σ 0 19) 1000 0 0 σ _ _ _ h (lv_sub hl [3, 2, 1, 0] rfl) hf
  · have hf := tk_t c5 hf
    refine lv_bipush (v := (-3)) hx hb dX7_nears_7 (by decide) ?_
    obtain ⟨rfl, rfl⟩ := pr_ok hf
    exact x_iret C h dX7_nears_9
