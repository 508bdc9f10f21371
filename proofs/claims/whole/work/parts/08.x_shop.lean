-- ===== X2_isOpen: ButtonMatch$Shop.isOpen()Z
theorem lkX2_isOpen_21 : Cond.fieldLink RX2 21 "ButtonMatch$Shop" "tubeCount" "I" ∈ wsX2_isOpen := by decide +kernel
theorem inX2_isOpen_X2 : ∀ w ∈ wsX20, w ∈ wsX2_isOpen := fun _ h => List.mem_cons_of_mem _ (List.mem_append_right _ h)
def fX2_isOpen (σ : Sg) : Int32 :=
  (if (σ 10 2) ≤ 0 then 0 else 1)
set_option maxHeartbeats 4000000 in
set_option maxRecDepth 100000 in
theorem kX2_isOpen (l : Launch) (D : va_G) (κ : Kp) (ad : Nat → Nat) (σ : Sg) {r : Int32} (hf : fX2_isOpen σ = r) : Ci l D κ (wsX κ ad) yX2_isOpen wsX2_isOpen 0 0 [.ref (ad 10)] σ r σ := by
  refine Ci.of (cc := cX2_isOpen) (nL := 1) (ret := (some .boolean)) (by decide) rfl (Nat.le_of_ble_eq_true rfl) ?_
  intro p e s m below meth c A ls C h hl
  obtain ⟨hx, hb, hml, hr, hlk, hown, hts, hK, hA, hZ⟩ := id C
  have hl : lv_has ls 1 [(0, .ref (ad 10))] := hl
  unfold fX2_isOpen at hf
  refine lv_aload_n hx hb dX2_isOpen_0 rfl (lv_at hl 0 rfl) ?_
  refine x_get (v := .int (σ 10 2)) C h (gX_Sp κ ad σ) rfl inX2_isOpen_X2 2 (by decide) (hts _ lkX2_isOpen_21) rfl dX2_isOpen_1 ?_
  refine lv_if_le (tgt := 11) hx hb dX2_isOpen_4 (by decide) (fun c1 => ?_) (fun c1 => ?_)
  · have hf := tk_t c1 hf
    refine lv_iconst (v := 0) hx hb dX2_isOpen_11 (by decide) ?_
    subst hf
    exact x_zret C rfl h dX2_isOpen_12
  · have hf := tk_f c1 hf
    refine lv_iconst (v := 1) hx hb dX2_isOpen_7 (by decide) ?_
    refine lv_goto (tgt := 12) hx hb dX2_isOpen_8 (by decide) ?_
    subst hf
    exact x_zret C rfl h dX2_isOpen_12
theorem nzX2_isOpen (σ : Sg) : narrow .boolean (.int (fX2_isOpen σ)) = .int (fX2_isOpen σ) := by
  unfold fX2_isOpen
  repeat' split
  all_goals rfl

-- ===== X2_hasTube: ButtonMatch$Shop.hasTube(I)Z
theorem lkX2_hasTube_21 : Cond.fieldLink RX2 21 "ButtonMatch$Shop" "tubeCount" "I" ∈ wsX2_hasTube := by decide +kernel
theorem inX2_hasTube_X2 : ∀ w ∈ wsX20, w ∈ wsX2_hasTube := fun _ h => List.mem_cons_of_mem _ (List.mem_append_right _ h)
def fX2_hasTube (x1 : Int32) (σ : Sg) : Int32 :=
  (if x1 < 0 then 0 else (if (σ 10 2) ≤ x1 then 0 else 1))
set_option maxHeartbeats 4000000 in
set_option maxRecDepth 100000 in
theorem kX2_hasTube (l : Launch) (D : va_G) (κ : Kp) (ad : Nat → Nat) (x1 : Int32) (σ : Sg) {r : Int32} (hf : fX2_hasTube x1 σ = r) : Ci l D κ (wsX κ ad) yX2_hasTube wsX2_hasTube 0 0 [.ref (ad 10), .int x1] σ r σ := by
  refine Ci.of (cc := cX2_hasTube) (nL := 2) (ret := (some .boolean)) (by decide) rfl (Nat.le_of_ble_eq_true rfl) ?_
  intro p e s m below meth c A ls C h hl
  obtain ⟨hx, hb, hml, hr, hlk, hown, hts, hK, hA, hZ⟩ := id C
  have hl : lv_has ls 2 [(0, .ref (ad 10)), (1, .int x1)] := hl
  unfold fX2_hasTube at hf
  refine lv_iload_n hx hb dX2_hasTube_0 rfl (lv_at hl 1 rfl) ?_
  refine lv_if_lt (tgt := 16) hx hb dX2_hasTube_1 (by decide) (fun c1 => ?_) (fun c1 => ?_)
  · have hf := tk_t c1 hf
    refine lv_iconst (v := 0) hx hb dX2_hasTube_16 (by decide) ?_
    subst hf
    exact x_zret C rfl h dX2_hasTube_17
  · have hf := tk_f c1 hf
    refine lv_iload_n hx hb dX2_hasTube_4 rfl (lv_at hl 1 rfl) ?_
    refine lv_aload_n hx hb dX2_hasTube_5 rfl (lv_at hl 0 rfl) ?_
    refine x_get (v := .int (σ 10 2)) C h (gX_Sp κ ad σ) rfl inX2_hasTube_X2 2 (by decide) (hts _ lkX2_hasTube_21) rfl dX2_hasTube_6 ?_
    refine lv_icmp_ge (tgt := 16) hx hb dX2_hasTube_9 (by decide) (fun c2 => ?_) (fun c2 => ?_)
    · have hf := tk_t c2 hf
      refine lv_iconst (v := 0) hx hb dX2_hasTube_16 (by decide) ?_
      subst hf
      exact x_zret C rfl h dX2_hasTube_17
    · have hf := tk_f c2 hf
      refine lv_iconst (v := 1) hx hb dX2_hasTube_12 (by decide) ?_
      refine lv_goto (tgt := 17) hx hb dX2_hasTube_13 (by decide) ?_
      subst hf
      exact x_zret C rfl h dX2_hasTube_17
theorem nzX2_hasTube (x1 : Int32) (σ : Sg) : narrow .boolean (.int (fX2_hasTube x1 σ)) = .int (fX2_hasTube x1 σ) := by
  unfold fX2_hasTube
  repeat' split
  all_goals rfl

-- ===== X2_hasAllTubes: ButtonMatch$Shop.hasAllTubes(LButtonMatch$Sheet;II)Z
def fX2_hasAllTubes_3 (σ : Sg) (k1 : Nat) (x2 : Int32) (x3 : Int32) : Nat → Int32 → Option (Int32)
  | 0, _ => none
  | n + 1, x4 => (if x3 ≤ x4 then some 1 else ((fX1_read k1 (x2 + x4) σ).bind fun r3 => (if (fX2_hasTube r3 σ) = 0 then some 0 else fX2_hasAllTubes_3 σ k1 x2 x3 n (x4 + 1))))
set_option maxHeartbeats 4000000 in
set_option maxRecDepth 100000 in
theorem jX2_hasAllTubes_3 {p : Program} {l : Launch} {e : Env} {s : State} {m : MethodId} {args : Array Value} {below : List Frame} {meth : Method} {c : Code} {D : va_G} {κ : Kp} {ad : Nat → Nat} {A : Nat → Prop} {r : Int32} (C : Mc p s m args meth c cX2_hasAllTubes 5 (some .boolean) wsX2_hasAllTubes RX2 D κ A) (σ : Sg) (k1 : Nat) (hk1 : k1 < 4) (x2 : Int32) (x3 : Int32) : ∀ (n : Nat) (x4 : Int32) (H : Heap) (locs : List Loc) (ls : Array Slot), Wd D (wsX κ ad) A s.heap H locs σ → lv_has ls 5 [(0, .ref (ad 10)), (1, .ref (ad (2 + k1))), (2, .int x2), (3, .int x3), (4, .int x4)] → fX2_hasAllTubes_3 σ k1 x2 x3 n x4 = some r → W p l e { frames := 2, cells := 0, slots := 0, locals := 43 } s m args below meth c H locs 0 0 (Qi below args s D (wsX κ ad) A r σ) (F0 m 3 ls []) := by
  obtain ⟨hx, hb, hml, hr, hlk, hown, hts, hK, hA, hZ⟩ := id C
  intro n
  induction n with
  | zero =>
    intro x4 H locs ls h hl hf
    rw [fX2_hasAllTubes_3] at hf
    cases hf
  | succ n ih =>
    intro x4 H locs ls h hl hf
    rw [fX2_hasAllTubes_3] at hf
    refine lv_iload hx hb dX2_hasAllTubes_3 (lv_at hl 4 rfl) ?_
    refine lv_iload_n hx hb dX2_hasAllTubes_5 rfl (lv_at hl 3 rfl) ?_
    refine lv_icmp_ge (tgt := 32) hx hb dX2_hasAllTubes_6 (by decide) (fun c1 => ?_) (fun c1 => ?_)
    · have hf := tk_t c1 hf
      refine lv_iconst (v := 1) hx hb dX2_hasAllTubes_32 (by decide) ?_
      obtain rfl := so_ok hf
      exact x_zret C rfl h dX2_hasAllTubes_33
    · have hf := tk_f c1 hf
      refine lv_aload_n hx hb dX2_hasAllTubes_9 rfl (lv_at hl 0 rfl) ?_
      refine lv_aload_n hx hb dX2_hasAllTubes_10 rfl (lv_at hl 1 rfl) ?_
      refine lv_iload_n hx hb dX2_hasAllTubes_11 rfl (lv_at hl 2 rfl) ?_
      refine lv_iload hx hb dX2_hasAllTubes_12 (lv_at hl 4 rfl) ?_
      refine lv_iadd hx hb dX2_hasAllTubes_14 ?_
      obtain ⟨r3, hg2, hf⟩ := bd_ok hf
      refine x_vi (As := [.int (x2 + x4)]) (rest := [.ref (ad 10)]) C h (gX_Sh κ ad σ hk1) rfl (kX1_read l D κ ad k1 hk1 (x2 + x4) σ (r := r3) hg2) (fun hts => cwV 1 hts gX2_hasAllTubes_X1_read rfl rfl rfl (by decide +kernel) ⟨Nat.le_of_ble_eq_true rfl, Nat.le_of_ble_eq_true rfl⟩) rfl hl.1 (Nat.le_of_ble_eq_true rfl) rfl dX2_hasAllTubes_15 (fun H locs h => ?_)
      refine x_vi (As := [.int r3]) (rest := []) C h (gX_Sp κ ad σ) rfl (kX2_hasTube l D κ ad r3 σ (r := (fX2_hasTube r3 σ)) rfl) (fun hts => cwV 1 hts gX2_hasAllTubes_X2_hasTube rfl rfl rfl (by decide +kernel) ⟨Nat.le_of_ble_eq_true rfl, Nat.le_of_ble_eq_true rfl⟩) rfl hl.1 (Nat.le_of_ble_eq_true rfl) rfl dX2_hasAllTubes_18 (fun H locs h => ?_)
      refine lv_if_ne (tgt := 26) hx hb dX2_hasAllTubes_21 (by decide) (fun c4 => ?_) (fun c4 => ?_)
      · have hf := tk_f c4 hf
        refine lv_iinc (v := (x4 + 1)) (lv' := [(4, .int (x4 + 1)), (0, .ref (ad 10)), (1, .ref (ad (2 + k1))), (2, .int x2), (3, .int x3)]) hx hb dX2_hasAllTubes_26 hl (k := 4) rfl rfl (by decide) rfl (fun ls hl => ?_)
        refine lv_goto (tgt := 3) hx hb dX2_hasAllTubes_29 (by decide) ?_
        exact ih (x4 + 1) _ _ _ h (lv_sub hl [1, 2, 3, 4, 0] rfl) hf
      · have hf := tk_t c4 hf
        refine lv_iconst (v := 0) hx hb dX2_hasAllTubes_24 (by decide) ?_
        obtain rfl := so_ok hf
        exact x_zret C rfl h dX2_hasAllTubes_25
def fX2_hasAllTubes (k1 : Nat) (x2 : Int32) (x3 : Int32) (σ : Sg) : Option (Int32) :=
  fX2_hasAllTubes_3 σ k1 x2 x3 1000 0
set_option maxHeartbeats 4000000 in
set_option maxRecDepth 100000 in
theorem kX2_hasAllTubes (l : Launch) (D : va_G) (κ : Kp) (ad : Nat → Nat) (k1 : Nat) (hk1 : k1 < 4) (x2 : Int32) (x3 : Int32) (σ : Sg) {r : Int32} (hf : fX2_hasAllTubes k1 x2 x3 σ = some r) : Ci l D κ (wsX κ ad) yX2_hasAllTubes wsX2_hasAllTubes 2 43 [.ref (ad 10), .ref (ad (2 + k1)), .int x2, .int x3] σ r σ := by
  refine Ci.of (cc := cX2_hasAllTubes) (nL := 5) (ret := (some .boolean)) (by decide) rfl (Nat.le_of_ble_eq_true rfl) ?_
  intro p e s m below meth c A ls C h hl
  obtain ⟨hx, hb, hml, hr, hlk, hown, hts, hK, hA, hZ⟩ := id C
  have hl : lv_has ls 5 [(0, .ref (ad 10)), (1, .ref (ad (2 + k1))), (2, .int x2), (3, .int x3)] := hl
  unfold fX2_hasAllTubes at hf
  refine lv_iconst (v := 0) hx hb dX2_hasAllTubes_0 (by decide) ?_
  refine lv_istore (lv' := [(4, .int 0), (0, .ref (ad 10)), (1, .ref (ad (2 + k1))), (2, .int x2), (3, .int x3)]) hx hb dX2_hasAllTubes_1 hl (by decide) rfl (fun ls hl => ?_)
  exact jX2_hasAllTubes_3 C σ k1 hk1 x2 x3 1000 0 _ _ _ h (lv_sub hl [1, 2, 3, 4, 0] rfl) hf

-- ===== X2_stockFrom: ButtonMatch$Shop.stockFrom(LButtonMatch$Sheet;II)V
theorem lkX2_stockFrom_21 : Cond.fieldLink RX2 21 "ButtonMatch$Shop" "tubeCount" "I" ∈ wsX2_stockFrom := by decide +kernel
theorem inX2_stockFrom_X2 : ∀ w ∈ wsX20, w ∈ wsX2_stockFrom := fun _ h => List.mem_cons_of_mem _ (List.mem_append_left _ (List.mem_append_left _ (List.mem_append_right _ h)))
theorem lkX2_stockFrom_60 : Cond.fieldLink RX2 60 "ButtonMatch$Shop" "redder" "I" ∈ wsX2_stockFrom := by decide +kernel
theorem lkX2_stockFrom_63 : Cond.fieldLink RX2 63 "ButtonMatch$Shop" "larger" "I" ∈ wsX2_stockFrom := by decide +kernel
theorem lkX2_stockFrom_66 : Cond.fieldLink RX2 66 "ButtonMatch$Shop" "near" "I" ∈ wsX2_stockFrom := by decide +kernel
theorem lkX2_stockFrom_11 : Cond.fieldLink RX2 11 "ButtonMatch$Shop" "tubes" "[LButtonMatch$Tube;" ∈ wsX2_stockFrom := by decide +kernel
theorem lkX2_stockFrom_45 : Cond.fieldLink RX2 45 "ButtonMatch$Shop" "sewing" "I" ∈ wsX2_stockFrom := by decide +kernel
theorem mwX2_stockFrom_50 : Cond.methodLink RX2 50 Lib.Math.min.name ∈ wsX2_stockFrom ∧ Cond.static Lib.Math.min.name ∈ wsX2_stockFrom ∧ Cond.initialized "java/lang/Math" ∈ wsX2_stockFrom ∧ Cond.code Lib.Math.min.name Lib.Math.min.code 2 (some .int) ∈ wsX2_stockFrom := ⟨by decide +kernel, by decide +kernel, by decide +kernel, by decide +kernel⟩
theorem lkX2_stockFrom_17 : Cond.fieldLink RX2 17 "ButtonMatch$Shop" "seen" "[I" ∈ wsX2_stockFrom := by decide +kernel
theorem lkX2_stockFrom_36 : Cond.fieldLink RX2 36 "ButtonMatch$Shop" "colour" "I" ∈ wsX2_stockFrom := by decide +kernel
theorem lkX2_stockFrom_39 : Cond.fieldLink RX2 39 "ButtonMatch$Shop" "size" "I" ∈ wsX2_stockFrom := by decide +kernel
theorem lkX2_stockFrom_42 : Cond.fieldLink RX2 42 "ButtonMatch$Shop" "holes" "I" ∈ wsX2_stockFrom := by decide +kernel
def fX2_stockFrom_112 (k1 : Nat) (x2 : Int32) : Nat → Int32 → Sg → Option (Sg)
  | 0, _, _ => none
  | n + 1, x4, σ => (if (σ 10 2) ≤ x4 then some (up2 (up2 (up2 σ 10 7 0) 10 8 0) 10 9 0) else (if gIn x4 6 then ((fX5_fillFrom x4.toNatClampNeg k1 ((x2 + 11) + (x4 * 7)) σ).bind fun τ5 => fX2_stockFrom_112 k1 x2 n (x4 + 1) τ5) else none))
set_option maxHeartbeats 4000000 in
set_option maxRecDepth 100000 in
theorem jX2_stockFrom_112 {p : Program} {l : Launch} {e : Env} {s : State} {m : MethodId} {args : Array Value} {below : List Frame} {meth : Method} {c : Code} {D : va_G} {κ : Kp} {ad : Nat → Nat} {A : Nat → Prop} {τ : Sg} (C : Mc p s m args meth c cX2_stockFrom 5 none wsX2_stockFrom RX2 D κ A) (k1 : Nat) (hk1 : k1 < 4) (x2 : Int32) : ∀ (n : Nat) (x4 : Int32) (σ : Sg) (H : Heap) (locs : List Loc) (ls : Array Slot), Wd D (wsX κ ad) A s.heap H locs σ → lv_has ls 5 [(0, .ref (ad 10)), (1, .ref (ad (2 + k1))), (2, .int x2), (4, .int x4)] → fX2_stockFrom_112 k1 x2 n x4 σ = some τ → W p l e { frames := 3, cells := 0, slots := 0, locals := 66 } s m args below meth c H locs 0 0 (Qv below args s D (wsX κ ad) A τ) (F0 m 112 ls []) := by
  obtain ⟨hx, hb, hml, hr, hlk, hown, hts, hK, hA, hZ⟩ := id C
  intro n
  induction n with
  | zero =>
    intro x4 σ H locs ls h hl hf
    rw [fX2_stockFrom_112] at hf
    cases hf
  | succ n ih =>
    intro x4 σ H locs ls h hl hf
    rw [fX2_stockFrom_112] at hf
    refine lv_iload hx hb dX2_stockFrom_112 (lv_at hl 3 rfl) ?_
    refine lv_aload_n hx hb dX2_stockFrom_114 rfl (lv_at hl 0 rfl) ?_
    refine x_get (v := .int (σ 10 2)) C h (gX_Sp κ ad σ) rfl inX2_stockFrom_X2 2 (by decide) (hts _ lkX2_stockFrom_21) rfl dX2_stockFrom_115 ?_
    refine lv_icmp_ge (tgt := 148) hx hb dX2_stockFrom_118 (by decide) (fun c1 => ?_) (fun c1 => ?_)
    · have hf := tk_t c1 hf
      refine lv_aload_n hx hb dX2_stockFrom_148 rfl (lv_at hl 0 rfl) ?_
      refine lv_iconst (v := 0) hx hb dX2_stockFrom_149 (by decide) ?_
      refine x_put C h (gX_Sp κ ad σ) rfl inX2_stockFrom_X2 tyX2 tyX2_ok nmX2 7 (by decide) (hts _ lkX2_stockFrom_60) rfl (tyX2_ok 7 (by decide)) (Nat.le_of_ble_eq_true rfl) (sX_Sp_7 κ ad σ 0) dX2_stockFrom_150 (fun H locs h => ?_)
      refine lv_aload_n hx hb dX2_stockFrom_153 rfl (lv_at hl 0 rfl) ?_
      refine lv_iconst (v := 0) hx hb dX2_stockFrom_154 (by decide) ?_
      refine x_put C h (gX_Sp κ ad (up2 σ 10 7 0)) rfl inX2_stockFrom_X2 tyX2 tyX2_ok nmX2 8 (by decide) (hts _ lkX2_stockFrom_63) rfl (tyX2_ok 8 (by decide)) (Nat.le_of_ble_eq_true rfl) (sX_Sp_8 κ ad (up2 σ 10 7 0) 0) dX2_stockFrom_155 (fun H locs h => ?_)
      refine lv_aload_n hx hb dX2_stockFrom_158 rfl (lv_at hl 0 rfl) ?_
      refine lv_iconst (v := 0) hx hb dX2_stockFrom_159 (by decide) ?_
      refine x_put C h (gX_Sp κ ad (up2 (up2 σ 10 7 0) 10 8 0)) rfl inX2_stockFrom_X2 tyX2 tyX2_ok nmX2 9 (by decide) (hts _ lkX2_stockFrom_66) rfl (tyX2_ok 9 (by decide)) (Nat.le_of_ble_eq_true rfl) (sX_Sp_9 κ ad (up2 (up2 σ 10 7 0) 10 8 0) 0) dX2_stockFrom_160 (fun H locs h => ?_)
      obtain rfl := so_ok hf
      exact x_vret C h dX2_stockFrom_163
    · have hf := tk_f c1 hf
      refine lv_aload_n hx hb dX2_stockFrom_121 rfl (lv_at hl 0 rfl) ?_
      refine x_get (v := .ref (ad 11)) C h (gX_Sp κ ad σ) rfl inX2_stockFrom_X2 0 (by decide) (hts _ lkX2_stockFrom_11) rfl dX2_stockFrom_122 ?_
      refine lv_iload hx hb dX2_stockFrom_125 (lv_at hl 3 rfl) ?_
      obtain ⟨g2, hf⟩ := gd_ok hf
      have b3 : x4.toNatClampNeg < 6 := vp_lt g2
      refine x_aald (t0 := 3) (cn := "ButtonMatch$Tube") (b := ad (13 + x4.toNatClampNeg)) C h (gX_arT κ ad σ) rfl g2 rfl dX2_stockFrom_127 ?_
      refine lv_aload_n hx hb dX2_stockFrom_128 rfl (lv_at hl 1 rfl) ?_
      refine lv_iload_n hx hb dX2_stockFrom_129 rfl (lv_at hl 2 rfl) ?_
      refine lv_bipush (v := 11) hx hb dX2_stockFrom_130 (by decide) ?_
      refine lv_iadd hx hb dX2_stockFrom_132 ?_
      refine lv_iload hx hb dX2_stockFrom_133 (lv_at hl 3 rfl) ?_
      refine lv_bipush (v := 7) hx hb dX2_stockFrom_135 (by decide) ?_
      refine lv_imul hx hb dX2_stockFrom_137 ?_
      refine lv_iadd hx hb dX2_stockFrom_138 ?_
      obtain ⟨τ5, hg4, hf⟩ := bd_ok hf
      refine x_vv (As := [.ref (ad (2 + k1)), .int ((x2 + 11) + (x4 * 7))]) (rest := []) C h (gX_Tu κ ad σ b3) rfl (kX5_fillFrom l D κ ad x4.toNatClampNeg b3 k1 hk1 ((x2 + 11) + (x4 * 7)) σ (τ := τ5) hg4) (fun hts => cwV 2 hts gX2_stockFrom_X5_fillFrom rfl rfl rfl (by decide +kernel) ⟨Nat.le_of_ble_eq_true rfl, Nat.le_of_ble_eq_true rfl⟩) rfl hl.1 (Nat.le_of_ble_eq_true rfl) rfl dX2_stockFrom_139 (fun H locs h => ?_)
      refine lv_iinc (v := (x4 + 1)) (lv' := [(4, .int (x4 + 1)), (0, .ref (ad 10)), (1, .ref (ad (2 + k1))), (2, .int x2)]) hx hb dX2_stockFrom_142 hl (k := 3) rfl rfl (by decide) rfl (fun ls hl => ?_)
      refine lv_goto (tgt := 112) hx hb dX2_stockFrom_145 (by decide) ?_
      exact ih (x4 + 1) τ5 _ _ _ h (lv_sub hl [1, 2, 3, 0] rfl) hf
def fX2_stockFrom_45 (k1 : Nat) (x2 : Int32) (x3 : Int32) : Nat → Int32 → Sg → Option (Sg)
  | 0, _, _ => none
  | n + 1, x4, σ => (if 6 ≤ x4 then ((fX1_read k1 (x2 + 10) σ).bind fun r8 => fX2_stockFrom_112 k1 x2 1000 0 (up2 (up2 σ 10 6 (r8 - 48)) 10 2 (if ((x3 - 11) / 7) < 6 then ((x3 - 11) / 7) else 6))) else ((fX1_read k1 ((x2 + 4) + x4) σ).bind fun r10 => (if gIn x4 6 then fX2_stockFrom_45 k1 x2 x3 n (x4 + 1) (up2 σ 12 x4.toNatClampNeg (r10 - 48)) else none)))
set_option maxHeartbeats 4000000 in
set_option maxRecDepth 100000 in
theorem jX2_stockFrom_45 {p : Program} {l : Launch} {e : Env} {s : State} {m : MethodId} {args : Array Value} {below : List Frame} {meth : Method} {c : Code} {D : va_G} {κ : Kp} {ad : Nat → Nat} {A : Nat → Prop} {τ : Sg} (C : Mc p s m args meth c cX2_stockFrom 5 none wsX2_stockFrom RX2 D κ A) (k1 : Nat) (hk1 : k1 < 4) (x2 : Int32) (x3 : Int32) : ∀ (n : Nat) (x4 : Int32) (σ : Sg) (H : Heap) (locs : List Loc) (ls : Array Slot), Wd D (wsX κ ad) A s.heap H locs σ → lv_has ls 5 [(0, .ref (ad 10)), (1, .ref (ad (2 + k1))), (2, .int x2), (3, .int x3), (4, .int x4)] → fX2_stockFrom_45 k1 x2 x3 n x4 σ = some τ → W p l e { frames := 3, cells := 0, slots := 0, locals := 66 } s m args below meth c H locs 0 0 (Qv below args s D (wsX κ ad) A τ) (F0 m 45 ls []) := by
  obtain ⟨hx, hb, hml, hr, hlk, hown, hts, hK, hA, hZ⟩ := id C
  intro n
  induction n with
  | zero =>
    intro x4 σ H locs ls h hl hf
    rw [fX2_stockFrom_45] at hf
    cases hf
  | succ n ih =>
    intro x4 σ H locs ls h hl hf
    rw [fX2_stockFrom_45] at hf
    refine lv_iload hx hb dX2_stockFrom_45 (lv_at hl 4 rfl) ?_
    refine lv_bipush (v := 6) hx hb dX2_stockFrom_47 (by decide) ?_
    refine lv_icmp_ge (tgt := 78) hx hb dX2_stockFrom_49 (by decide) (fun c6 => ?_) (fun c6 => ?_)
    · have hf := tk_t c6 hf
      refine lv_aload_n hx hb dX2_stockFrom_78 rfl (lv_at hl 0 rfl) ?_
      refine lv_aload_n hx hb dX2_stockFrom_79 rfl (lv_at hl 1 rfl) ?_
      refine lv_iload_n hx hb dX2_stockFrom_80 rfl (lv_at hl 2 rfl) ?_
      refine lv_bipush (v := 10) hx hb dX2_stockFrom_81 (by decide) ?_
      refine lv_iadd hx hb dX2_stockFrom_83 ?_
      obtain ⟨r8, hg7, hf⟩ := bd_ok hf
      refine x_vi (As := [.int (x2 + 10)]) (rest := [.ref (ad 10)]) C h (gX_Sh κ ad σ hk1) rfl (kX1_read l D κ ad k1 hk1 (x2 + 10) σ (r := r8) hg7) (fun hts => cwV 1 hts gX2_stockFrom_X1_read rfl rfl rfl (by decide +kernel) ⟨Nat.le_of_ble_eq_true rfl, Nat.le_of_ble_eq_true rfl⟩) rfl hl.1 (Nat.le_of_ble_eq_true rfl) rfl dX2_stockFrom_84 (fun H locs h => ?_)
      refine lv_bipush (v := 48) hx hb dX2_stockFrom_87 (by decide) ?_
      refine lv_isub hx hb dX2_stockFrom_89 ?_
      refine x_put C h (gX_Sp κ ad σ) rfl inX2_stockFrom_X2 tyX2 tyX2_ok nmX2 6 (by decide) (hts _ lkX2_stockFrom_45) rfl (tyX2_ok 6 (by decide)) (Nat.le_of_ble_eq_true rfl) (sX_Sp_6 κ ad σ (r8 - 48)) dX2_stockFrom_90 (fun H locs h => ?_)
      refine lv_aload_n hx hb dX2_stockFrom_93 rfl (lv_at hl 0 rfl) ?_
      refine lv_bipush (v := 6) hx hb dX2_stockFrom_94 (by decide) ?_
      refine lv_iload_n hx hb dX2_stockFrom_96 rfl (lv_at hl 3 rfl) ?_
      refine lv_bipush (v := 11) hx hb dX2_stockFrom_97 (by decide) ?_
      refine lv_isub hx hb dX2_stockFrom_99 ?_
      refine lv_bipush (v := 7) hx hb dX2_stockFrom_100 (by decide) ?_
      refine lv_idiv hx hb dX2_stockFrom_102 (by decide) ?_
      refine va_mmin hx hb (hml.trans hl.1.symm) hown (hts _ mwX2_stockFrom_50.1) (hts _ mwX2_stockFrom_50.2.1) (hts _ mwX2_stockFrom_50.2.2.1) (hts _ mwX2_stockFrom_50.2.2.2) (Nat.le_of_ble_eq_true rfl) (Nat.le_of_ble_eq_true rfl) (Nat.zero_le _) (Nat.zero_le _) dX2_stockFrom_103 ?_
      refine x_put C h (gX_Sp κ ad (up2 σ 10 6 (r8 - 48))) rfl inX2_stockFrom_X2 tyX2 tyX2_ok nmX2 2 (by decide) (hts _ lkX2_stockFrom_21) rfl (tyX2_ok 2 (by decide)) (Nat.le_of_ble_eq_true rfl) (sX_Sp_2 κ ad (up2 σ 10 6 (r8 - 48)) (if ((x3 - 11) / 7) < 6 then ((x3 - 11) / 7) else 6)) dX2_stockFrom_106 (fun H locs h => ?_)
      refine lv_iconst (v := 0) hx hb dX2_stockFrom_109 (by decide) ?_
      refine lv_istore (lv' := [(4, .int 0), (0, .ref (ad 10)), (1, .ref (ad (2 + k1))), (2, .int x2), (3, .int x3)]) hx hb dX2_stockFrom_110 hl (by decide) rfl (fun ls hl => ?_)
      exact jX2_stockFrom_112 C k1 hk1 x2 1000 0 (up2 (up2 σ 10 6 (r8 - 48)) 10 2 (if ((x3 - 11) / 7) < 6 then ((x3 - 11) / 7) else 6)) _ _ _ h (lv_sub hl [1, 2, 3, 0] rfl) hf
    · have hf := tk_f c6 hf
      refine lv_aload_n hx hb dX2_stockFrom_52 rfl (lv_at hl 0 rfl) ?_
      refine x_get (v := .ref (ad 12)) C h (gX_Sp κ ad σ) rfl inX2_stockFrom_X2 1 (by decide) (hts _ lkX2_stockFrom_17) rfl dX2_stockFrom_53 ?_
      refine lv_iload hx hb dX2_stockFrom_56 (lv_at hl 4 rfl) ?_
      refine lv_aload_n hx hb dX2_stockFrom_58 rfl (lv_at hl 1 rfl) ?_
      refine lv_iload_n hx hb dX2_stockFrom_59 rfl (lv_at hl 2 rfl) ?_
      refine lv_iconst (v := 4) hx hb dX2_stockFrom_60 (by decide) ?_
      refine lv_iadd hx hb dX2_stockFrom_61 ?_
      refine lv_iload hx hb dX2_stockFrom_62 (lv_at hl 4 rfl) ?_
      refine lv_iadd hx hb dX2_stockFrom_64 ?_
      obtain ⟨r10, hg9, hf⟩ := bd_ok hf
      refine x_vi (As := [.int ((x2 + 4) + x4)]) (rest := [.int x4, .ref (ad 12)]) C h (gX_Sh κ ad σ hk1) rfl (kX1_read l D κ ad k1 hk1 ((x2 + 4) + x4) σ (r := r10) hg9) (fun hts => cwV 1 hts gX2_stockFrom_X1_read rfl rfl rfl (by decide +kernel) ⟨Nat.le_of_ble_eq_true rfl, Nat.le_of_ble_eq_true rfl⟩) rfl hl.1 (Nat.le_of_ble_eq_true rfl) rfl dX2_stockFrom_65 (fun H locs h => ?_)
      refine lv_bipush (v := 48) hx hb dX2_stockFrom_68 (by decide) ?_
      refine lv_isub hx hb dX2_stockFrom_70 ?_
      obtain ⟨g11, hf⟩ := gd_ok hf
      refine x_iast C h (gX_se κ ad σ) (sX_se κ ad σ x4.toNatClampNeg (r10 - 48)) g11 dX2_stockFrom_71 (fun H locs h => ?_)
      refine lv_iinc (v := (x4 + 1)) (lv' := [(4, .int (x4 + 1)), (0, .ref (ad 10)), (1, .ref (ad (2 + k1))), (2, .int x2), (3, .int x3)]) hx hb dX2_stockFrom_72 hl (k := 4) rfl rfl (by decide) rfl (fun ls hl => ?_)
      refine lv_goto (tgt := 45) hx hb dX2_stockFrom_75 (by decide) ?_
      exact ih (x4 + 1) (up2 σ 12 x4.toNatClampNeg (r10 - 48)) _ _ _ h (lv_sub hl [1, 2, 3, 4, 0] rfl) hf
def fX2_stockFrom (k1 : Nat) (x2 : Int32) (x3 : Int32) (σ : Sg) : Option (Sg) :=
  ((fX1_read k1 (x2 + 1) σ).bind fun r13 => ((fX1_read k1 (x2 + 2) (up2 σ 10 3 (r13 - 48))).bind fun r15 => ((fX1_read k1 (x2 + 3) (up2 (up2 σ 10 3 (r13 - 48)) 10 4 (r15 - 48))).bind fun r17 => fX2_stockFrom_45 k1 x2 x3 1000 0 (up2 (up2 (up2 σ 10 3 (r13 - 48)) 10 4 (r15 - 48)) 10 5 (r17 - 48)))))
set_option maxHeartbeats 4000000 in
set_option maxRecDepth 100000 in
theorem kX2_stockFrom (l : Launch) (D : va_G) (κ : Kp) (ad : Nat → Nat) (k1 : Nat) (hk1 : k1 < 4) (x2 : Int32) (x3 : Int32) (σ : Sg) {τ : Sg} (hf : fX2_stockFrom k1 x2 x3 σ = some τ) : Cv l D κ (wsX κ ad) yX2_stockFrom wsX2_stockFrom 3 66 [.ref (ad 10), .ref (ad (2 + k1)), .int x2, .int x3] σ τ := by
  refine Cv.of (cc := cX2_stockFrom) (nL := 5) (ret := none) (by decide) rfl (Nat.le_of_ble_eq_true rfl) ?_
  intro p e s m below meth c A ls C h hl
  obtain ⟨hx, hb, hml, hr, hlk, hown, hts, hK, hA, hZ⟩ := id C
  have hl : lv_has ls 5 [(0, .ref (ad 10)), (1, .ref (ad (2 + k1))), (2, .int x2), (3, .int x3)] := hl
  unfold fX2_stockFrom at hf
  refine lv_aload_n hx hb dX2_stockFrom_0 rfl (lv_at hl 0 rfl) ?_
  refine lv_aload_n hx hb dX2_stockFrom_1 rfl (lv_at hl 1 rfl) ?_
  refine lv_iload_n hx hb dX2_stockFrom_2 rfl (lv_at hl 2 rfl) ?_
  refine lv_iconst (v := 1) hx hb dX2_stockFrom_3 (by decide) ?_
  refine lv_iadd hx hb dX2_stockFrom_4 ?_
  obtain ⟨r13, hg12, hf⟩ := bd_ok hf
  refine x_vi (As := [.int (x2 + 1)]) (rest := [.ref (ad 10)]) C h (gX_Sh κ ad σ hk1) rfl (kX1_read l D κ ad k1 hk1 (x2 + 1) σ (r := r13) hg12) (fun hts => cwV 1 hts gX2_stockFrom_X1_read rfl rfl rfl (by decide +kernel) ⟨Nat.le_of_ble_eq_true rfl, Nat.le_of_ble_eq_true rfl⟩) rfl hl.1 (Nat.le_of_ble_eq_true rfl) rfl dX2_stockFrom_5 (fun H locs h => ?_)
  refine lv_bipush (v := 48) hx hb dX2_stockFrom_8 (by decide) ?_
  refine lv_isub hx hb dX2_stockFrom_10 ?_
  refine x_put C h (gX_Sp κ ad σ) rfl inX2_stockFrom_X2 tyX2 tyX2_ok nmX2 3 (by decide) (hts _ lkX2_stockFrom_36) rfl (tyX2_ok 3 (by decide)) (Nat.le_of_ble_eq_true rfl) (sX_Sp_3 κ ad σ (r13 - 48)) dX2_stockFrom_11 (fun H locs h => ?_)
  refine lv_aload_n hx hb dX2_stockFrom_14 rfl (lv_at hl 0 rfl) ?_
  refine lv_aload_n hx hb dX2_stockFrom_15 rfl (lv_at hl 1 rfl) ?_
  refine lv_iload_n hx hb dX2_stockFrom_16 rfl (lv_at hl 2 rfl) ?_
  refine lv_iconst (v := 2) hx hb dX2_stockFrom_17 (by decide) ?_
  refine lv_iadd hx hb dX2_stockFrom_18 ?_
  obtain ⟨r15, hg14, hf⟩ := bd_ok hf
  refine x_vi (As := [.int (x2 + 2)]) (rest := [.ref (ad 10)]) C h (gX_Sh κ ad (up2 σ 10 3 (r13 - 48)) hk1) rfl (kX1_read l D κ ad k1 hk1 (x2 + 2) (up2 σ 10 3 (r13 - 48)) (r := r15) hg14) (fun hts => cwV 1 hts gX2_stockFrom_X1_read rfl rfl rfl (by decide +kernel) ⟨Nat.le_of_ble_eq_true rfl, Nat.le_of_ble_eq_true rfl⟩) rfl hl.1 (Nat.le_of_ble_eq_true rfl) rfl dX2_stockFrom_19 (fun H locs h => ?_)
  refine lv_bipush (v := 48) hx hb dX2_stockFrom_22 (by decide) ?_
  refine lv_isub hx hb dX2_stockFrom_24 ?_
  refine x_put C h (gX_Sp κ ad (up2 σ 10 3 (r13 - 48))) rfl inX2_stockFrom_X2 tyX2 tyX2_ok nmX2 4 (by decide) (hts _ lkX2_stockFrom_39) rfl (tyX2_ok 4 (by decide)) (Nat.le_of_ble_eq_true rfl) (sX_Sp_4 κ ad (up2 σ 10 3 (r13 - 48)) (r15 - 48)) dX2_stockFrom_25 (fun H locs h => ?_)
  refine lv_aload_n hx hb dX2_stockFrom_28 rfl (lv_at hl 0 rfl) ?_
  refine lv_aload_n hx hb dX2_stockFrom_29 rfl (lv_at hl 1 rfl) ?_
  refine lv_iload_n hx hb dX2_stockFrom_30 rfl (lv_at hl 2 rfl) ?_
  refine lv_iconst (v := 3) hx hb dX2_stockFrom_31 (by decide) ?_
  refine lv_iadd hx hb dX2_stockFrom_32 ?_
  obtain ⟨r17, hg16, hf⟩ := bd_ok hf
  refine x_vi (As := [.int (x2 + 3)]) (rest := [.ref (ad 10)]) C h (gX_Sh κ ad (up2 (up2 σ 10 3 (r13 - 48)) 10 4 (r15 - 48)) hk1) rfl (kX1_read l D κ ad k1 hk1 (x2 + 3) (up2 (up2 σ 10 3 (r13 - 48)) 10 4 (r15 - 48)) (r := r17) hg16) (fun hts => cwV 1 hts gX2_stockFrom_X1_read rfl rfl rfl (by decide +kernel) ⟨Nat.le_of_ble_eq_true rfl, Nat.le_of_ble_eq_true rfl⟩) rfl hl.1 (Nat.le_of_ble_eq_true rfl) rfl dX2_stockFrom_33 (fun H locs h => ?_)
  refine lv_bipush (v := 48) hx hb dX2_stockFrom_36 (by decide) ?_
  refine lv_isub hx hb dX2_stockFrom_38 ?_
  refine x_put C h (gX_Sp κ ad (up2 (up2 σ 10 3 (r13 - 48)) 10 4 (r15 - 48))) rfl inX2_stockFrom_X2 tyX2 tyX2_ok nmX2 5 (by decide) (hts _ lkX2_stockFrom_42) rfl (tyX2_ok 5 (by decide)) (Nat.le_of_ble_eq_true rfl) (sX_Sp_5 κ ad (up2 (up2 σ 10 3 (r13 - 48)) 10 4 (r15 - 48)) (r17 - 48)) dX2_stockFrom_39 (fun H locs h => ?_)
  refine lv_iconst (v := 0) hx hb dX2_stockFrom_42 (by decide) ?_
  refine lv_istore (lv' := [(4, .int 0), (0, .ref (ad 10)), (1, .ref (ad (2 + k1))), (2, .int x2), (3, .int x3)]) hx hb dX2_stockFrom_43 hl (by decide) rfl (fun ls hl => ?_)
  exact jX2_stockFrom_45 C k1 hk1 x2 x3 1000 0 (up2 (up2 (up2 σ 10 3 (r13 - 48)) 10 4 (r15 - 48)) 10 5 (r17 - 48)) _ _ _ h (lv_sub hl [1, 2, 3, 4, 0] rfl) hf

-- ===== X2_wantedPart: ButtonMatch$Shop.wantedPart(I)I
theorem lkX2_wantedPart_36 : Cond.fieldLink RX2 36 "ButtonMatch$Shop" "colour" "I" ∈ wsX2_wantedPart := by decide +kernel
theorem inX2_wantedPart_X2 : ∀ w ∈ wsX20, w ∈ wsX2_wantedPart := fun _ h => List.mem_cons_of_mem _ (List.mem_append_right _ h)
theorem lkX2_wantedPart_39 : Cond.fieldLink RX2 39 "ButtonMatch$Shop" "size" "I" ∈ wsX2_wantedPart := by decide +kernel
theorem lkX2_wantedPart_42 : Cond.fieldLink RX2 42 "ButtonMatch$Shop" "holes" "I" ∈ wsX2_wantedPart := by decide +kernel
theorem lkX2_wantedPart_45 : Cond.fieldLink RX2 45 "ButtonMatch$Shop" "sewing" "I" ∈ wsX2_wantedPart := by decide +kernel
def fX2_wantedPart (x1 : Int32) (σ : Sg) : Int32 :=
  (if x1 = 0 then (σ 10 3) else (if x1 = 1 then (σ 10 4) else (if x1 = 2 then (σ 10 5) else (σ 10 6))))
set_option maxHeartbeats 4000000 in
set_option maxRecDepth 100000 in
theorem kX2_wantedPart (l : Launch) (D : va_G) (κ : Kp) (ad : Nat → Nat) (x1 : Int32) (σ : Sg) {r : Int32} (hf : fX2_wantedPart x1 σ = r) : Ci l D κ (wsX κ ad) yX2_wantedPart wsX2_wantedPart 0 0 [.ref (ad 10), .int x1] σ r σ := by
  refine Ci.of (cc := cX2_wantedPart) (nL := 2) (ret := (some .int)) (by decide) rfl (Nat.le_of_ble_eq_true rfl) ?_
  intro p e s m below meth c A ls C h hl
  obtain ⟨hx, hb, hml, hr, hlk, hown, hts, hK, hA, hZ⟩ := id C
  have hl : lv_has ls 2 [(0, .ref (ad 10)), (1, .int x1)] := hl
  unfold fX2_wantedPart at hf
  refine lv_iload_n hx hb dX2_wantedPart_0 rfl (lv_at hl 1 rfl) ?_
  by_cases c1 : x1 = 0
  · have hf := tk_t c1 hf
    refine lv_tableIn (off := 27) (tgt := 28) hx hb dX2_wantedPart_1 (by rw [c1]; decide) (by rw [c1]; decide) (by rw [c1]; rfl) (by decide) ?_
    refine lv_aload_n hx hb dX2_wantedPart_28 rfl (lv_at hl 0 rfl) ?_
    refine x_get (v := .int (σ 10 3)) C h (gX_Sp κ ad σ) rfl inX2_wantedPart_X2 3 (by decide) (hts _ lkX2_wantedPart_36) rfl dX2_wantedPart_29 ?_
    subst hf
    exact x_iret C h dX2_wantedPart_32
  have hf := tk_f c1 hf
  by_cases c2 : x1 = 1
  · have hf := tk_t c2 hf
    refine lv_tableIn (off := 32) (tgt := 33) hx hb dX2_wantedPart_1 (by rw [c2]; decide) (by rw [c2]; decide) (by rw [c2]; rfl) (by decide) ?_
    refine lv_aload_n hx hb dX2_wantedPart_33 rfl (lv_at hl 0 rfl) ?_
    refine x_get (v := .int (σ 10 4)) C h (gX_Sp κ ad σ) rfl inX2_wantedPart_X2 4 (by decide) (hts _ lkX2_wantedPart_39) rfl dX2_wantedPart_34 ?_
    subst hf
    exact x_iret C h dX2_wantedPart_37
  have hf := tk_f c2 hf
  by_cases c3 : x1 = 2
  · have hf := tk_t c3 hf
    refine lv_tableIn (off := 37) (tgt := 38) hx hb dX2_wantedPart_1 (by rw [c3]; decide) (by rw [c3]; decide) (by rw [c3]; rfl) (by decide) ?_
    refine lv_aload_n hx hb dX2_wantedPart_38 rfl (lv_at hl 0 rfl) ?_
    refine x_get (v := .int (σ 10 5)) C h (gX_Sp κ ad σ) rfl inX2_wantedPart_X2 5 (by decide) (hts _ lkX2_wantedPart_42) rfl dX2_wantedPart_39 ?_
    subst hf
    exact x_iret C h dX2_wantedPart_42
  have hf := tk_f c3 hf
  have ec1 : ¬ x1.toInt = 0 := sw_ne c1
  have ec2 : ¬ x1.toInt = 1 := sw_ne c2
  have ec3 : ¬ x1.toInt = 2 := sw_ne c3
  refine lv_tableOut (tgt := 43) hx hb dX2_wantedPart_1 (by omega) (by decide) ?_
  refine lv_aload_n hx hb dX2_wantedPart_43 rfl (lv_at hl 0 rfl) ?_
  refine x_get (v := .int (σ 10 6)) C h (gX_Sp κ ad σ) rfl inX2_wantedPart_X2 6 (by decide) (hts _ lkX2_wantedPart_45) rfl dX2_wantedPart_44 ?_
  subst hf
  exact x_iret C h dX2_wantedPart_47

-- ===== X2_rememberedColour: ButtonMatch$Shop.rememberedColour()I
theorem lkX2_rememberedColour_36 : Cond.fieldLink RX2 36 "ButtonMatch$Shop" "colour" "I" ∈ wsX2_rememberedColour := by decide +kernel
theorem inX2_rememberedColour_X2 : ∀ w ∈ wsX20, w ∈ wsX2_rememberedColour := fun _ h => List.mem_cons_of_mem _ (List.mem_append_right _ h)
theorem lkX2_rememberedColour_60 : Cond.fieldLink RX2 60 "ButtonMatch$Shop" "redder" "I" ∈ wsX2_rememberedColour := by decide +kernel
theorem mwX2_rememberedColour_50 : Cond.methodLink RX2 50 Lib.Math.min.name ∈ wsX2_rememberedColour ∧ Cond.static Lib.Math.min.name ∈ wsX2_rememberedColour ∧ Cond.initialized "java/lang/Math" ∈ wsX2_rememberedColour ∧ Cond.code Lib.Math.min.name Lib.Math.min.code 2 (some .int) ∈ wsX2_rememberedColour := ⟨by decide +kernel, by decide +kernel, by decide +kernel, by decide +kernel⟩
def fX2_rememberedColour (σ : Sg) : Int32 :=
  (if ((σ 10 3) + (σ 10 7)) < 7 then ((σ 10 3) + (σ 10 7)) else 7)
set_option maxHeartbeats 4000000 in
set_option maxRecDepth 100000 in
theorem kX2_rememberedColour (l : Launch) (D : va_G) (κ : Kp) (ad : Nat → Nat) (σ : Sg) {r : Int32} (hf : fX2_rememberedColour σ = r) : Ci l D κ (wsX κ ad) yX2_rememberedColour wsX2_rememberedColour 1 23 [.ref (ad 10)] σ r σ := by
  refine Ci.of (cc := cX2_rememberedColour) (nL := 1) (ret := (some .int)) (by decide) rfl (Nat.le_of_ble_eq_true rfl) ?_
  intro p e s m below meth c A ls C h hl
  obtain ⟨hx, hb, hml, hr, hlk, hown, hts, hK, hA, hZ⟩ := id C
  have hl : lv_has ls 1 [(0, .ref (ad 10))] := hl
  unfold fX2_rememberedColour at hf
  refine lv_bipush (v := 7) hx hb dX2_rememberedColour_0 (by decide) ?_
  refine lv_aload_n hx hb dX2_rememberedColour_2 rfl (lv_at hl 0 rfl) ?_
  refine x_get (v := .int (σ 10 3)) C h (gX_Sp κ ad σ) rfl inX2_rememberedColour_X2 3 (by decide) (hts _ lkX2_rememberedColour_36) rfl dX2_rememberedColour_3 ?_
  refine lv_aload_n hx hb dX2_rememberedColour_6 rfl (lv_at hl 0 rfl) ?_
  refine x_get (v := .int (σ 10 7)) C h (gX_Sp κ ad σ) rfl inX2_rememberedColour_X2 7 (by decide) (hts _ lkX2_rememberedColour_60) rfl dX2_rememberedColour_7 ?_
  refine lv_iadd hx hb dX2_rememberedColour_10 ?_
  refine va_mmin hx hb (hml.trans hl.1.symm) hown (hts _ mwX2_rememberedColour_50.1) (hts _ mwX2_rememberedColour_50.2.1) (hts _ mwX2_rememberedColour_50.2.2.1) (hts _ mwX2_rememberedColour_50.2.2.2) (Nat.le_of_ble_eq_true rfl) (Nat.le_of_ble_eq_true rfl) (Nat.zero_le _) (Nat.zero_le _) dX2_rememberedColour_11 ?_
  subst hf
  exact x_iret C h dX2_rememberedColour_14

-- ===== X2_rememberedSize: ButtonMatch$Shop.rememberedSize()I
theorem lkX2_rememberedSize_39 : Cond.fieldLink RX2 39 "ButtonMatch$Shop" "size" "I" ∈ wsX2_rememberedSize := by decide +kernel
theorem inX2_rememberedSize_X2 : ∀ w ∈ wsX20, w ∈ wsX2_rememberedSize := fun _ h => List.mem_cons_of_mem _ (List.mem_append_right _ h)
theorem lkX2_rememberedSize_63 : Cond.fieldLink RX2 63 "ButtonMatch$Shop" "larger" "I" ∈ wsX2_rememberedSize := by decide +kernel
theorem mwX2_rememberedSize_50 : Cond.methodLink RX2 50 Lib.Math.min.name ∈ wsX2_rememberedSize ∧ Cond.static Lib.Math.min.name ∈ wsX2_rememberedSize ∧ Cond.initialized "java/lang/Math" ∈ wsX2_rememberedSize ∧ Cond.code Lib.Math.min.name Lib.Math.min.code 2 (some .int) ∈ wsX2_rememberedSize := ⟨by decide +kernel, by decide +kernel, by decide +kernel, by decide +kernel⟩
def fX2_rememberedSize (σ : Sg) : Int32 :=
  (if ((σ 10 4) + (σ 10 8)) < 9 then ((σ 10 4) + (σ 10 8)) else 9)
set_option maxHeartbeats 4000000 in
set_option maxRecDepth 100000 in
theorem kX2_rememberedSize (l : Launch) (D : va_G) (κ : Kp) (ad : Nat → Nat) (σ : Sg) {r : Int32} (hf : fX2_rememberedSize σ = r) : Ci l D κ (wsX κ ad) yX2_rememberedSize wsX2_rememberedSize 1 23 [.ref (ad 10)] σ r σ := by
  refine Ci.of (cc := cX2_rememberedSize) (nL := 1) (ret := (some .int)) (by decide) rfl (Nat.le_of_ble_eq_true rfl) ?_
  intro p e s m below meth c A ls C h hl
  obtain ⟨hx, hb, hml, hr, hlk, hown, hts, hK, hA, hZ⟩ := id C
  have hl : lv_has ls 1 [(0, .ref (ad 10))] := hl
  unfold fX2_rememberedSize at hf
  refine lv_bipush (v := 9) hx hb dX2_rememberedSize_0 (by decide) ?_
  refine lv_aload_n hx hb dX2_rememberedSize_2 rfl (lv_at hl 0 rfl) ?_
  refine x_get (v := .int (σ 10 4)) C h (gX_Sp κ ad σ) rfl inX2_rememberedSize_X2 4 (by decide) (hts _ lkX2_rememberedSize_39) rfl dX2_rememberedSize_3 ?_
  refine lv_aload_n hx hb dX2_rememberedSize_6 rfl (lv_at hl 0 rfl) ?_
  refine x_get (v := .int (σ 10 8)) C h (gX_Sp κ ad σ) rfl inX2_rememberedSize_X2 8 (by decide) (hts _ lkX2_rememberedSize_63) rfl dX2_rememberedSize_7 ?_
  refine lv_iadd hx hb dX2_rememberedSize_10 ?_
  refine va_mmin hx hb (hml.trans hl.1.symm) hown (hts _ mwX2_rememberedSize_50.1) (hts _ mwX2_rememberedSize_50.2.1) (hts _ mwX2_rememberedSize_50.2.2.1) (hts _ mwX2_rememberedSize_50.2.2.2) (Nat.le_of_ble_eq_true rfl) (Nat.le_of_ble_eq_true rfl) (Nat.zero_le _) (Nat.zero_le _) dX2_rememberedSize_11 ?_
  subst hf
  exact x_iret C h dX2_rememberedSize_14

-- ===== X2_farFromRemembered: ButtonMatch$Shop.farFromRemembered(I)I
theorem lkX2_farFromRemembered_11 : Cond.fieldLink RX2 11 "ButtonMatch$Shop" "tubes" "[LButtonMatch$Tube;" ∈ wsX2_farFromRemembered := by decide +kernel
theorem inX2_farFromRemembered_X2 : ∀ w ∈ wsX20, w ∈ wsX2_farFromRemembered := fun _ h => List.mem_cons_of_mem _ (List.mem_append_left _ (List.mem_append_right _ h))
theorem lkX2_farFromRemembered_42 : Cond.fieldLink RX2 42 "ButtonMatch$Shop" "holes" "I" ∈ wsX2_farFromRemembered := by decide +kernel
def fX2_farFromRemembered (x1 : Int32) (σ : Sg) : Option (Int32) :=
  (if (fX2_hasTube x1 σ) = 0 then some 0 else (if gIn x1 6 then some (fX5_farFrom x1.toNatClampNeg (fX2_rememberedColour σ) (fX2_rememberedSize σ) (σ 10 5) σ) else none))
set_option maxHeartbeats 4000000 in
set_option maxRecDepth 100000 in
theorem kX2_farFromRemembered (l : Launch) (D : va_G) (κ : Kp) (ad : Nat → Nat) (x1 : Int32) (σ : Sg) {r : Int32} (hf : fX2_farFromRemembered x1 σ = some r) : Ci l D κ (wsX κ ad) yX2_farFromRemembered wsX2_farFromRemembered 3 67 [.ref (ad 10), .int x1] σ r σ := by
  refine Ci.of (cc := cX2_farFromRemembered) (nL := 2) (ret := (some .int)) (by decide) rfl (Nat.le_of_ble_eq_true rfl) ?_
  intro p e s m below meth c A ls C h hl
  obtain ⟨hx, hb, hml, hr, hlk, hown, hts, hK, hA, hZ⟩ := id C
  have hl : lv_has ls 2 [(0, .ref (ad 10)), (1, .int x1)] := hl
  unfold fX2_farFromRemembered at hf
  refine lv_aload_n hx hb dX2_farFromRemembered_0 rfl (lv_at hl 0 rfl) ?_
  refine lv_iload_n hx hb dX2_farFromRemembered_1 rfl (lv_at hl 1 rfl) ?_
  refine x_vi (As := [.int x1]) (rest := []) C h (gX_Sp κ ad σ) rfl (kX2_hasTube l D κ ad x1 σ (r := (fX2_hasTube x1 σ)) rfl) (fun hts => cwV 1 hts gX2_farFromRemembered_X2_hasTube rfl rfl rfl (by decide +kernel) ⟨Nat.le_of_ble_eq_true rfl, Nat.le_of_ble_eq_true rfl⟩) rfl hl.1 (Nat.le_of_ble_eq_true rfl) rfl dX2_farFromRemembered_2 (fun H locs h => ?_)
  refine lv_if_eq (tgt := 32) hx hb dX2_farFromRemembered_5 (by decide) (fun c1 => ?_) (fun c1 => ?_)
  · have hf := tk_t c1 hf
    refine lv_iconst (v := 0) hx hb dX2_farFromRemembered_32 (by decide) ?_
    obtain rfl := so_ok hf
    exact x_iret C h dX2_farFromRemembered_33
  · have hf := tk_f c1 hf
    refine lv_aload_n hx hb dX2_farFromRemembered_8 rfl (lv_at hl 0 rfl) ?_
    refine x_get (v := .ref (ad 11)) C h (gX_Sp κ ad σ) rfl inX2_farFromRemembered_X2 0 (by decide) (hts _ lkX2_farFromRemembered_11) rfl dX2_farFromRemembered_9 ?_
    refine lv_iload_n hx hb dX2_farFromRemembered_12 rfl (lv_at hl 1 rfl) ?_
    obtain ⟨g2, hf⟩ := gd_ok hf
    have b3 : x1.toNatClampNeg < 6 := vp_lt g2
    refine x_aald (t0 := 3) (cn := "ButtonMatch$Tube") (b := ad (13 + x1.toNatClampNeg)) C h (gX_arT κ ad σ) rfl g2 rfl dX2_farFromRemembered_13 ?_
    refine lv_aload_n hx hb dX2_farFromRemembered_14 rfl (lv_at hl 0 rfl) ?_
    refine x_vi (As := []) (rest := [.ref (ad (13 + x1.toNatClampNeg))]) C h (gX_Sp κ ad σ) rfl (kX2_rememberedColour l D κ ad σ (r := (fX2_rememberedColour σ)) rfl) (fun hts => cwV 0 hts gX2_farFromRemembered_X2_rememberedColour rfl rfl rfl (by decide +kernel) ⟨Nat.le_of_ble_eq_true rfl, Nat.le_of_ble_eq_true rfl⟩) rfl hl.1 (Nat.le_of_ble_eq_true rfl) rfl dX2_farFromRemembered_15 (fun H locs h => ?_)
    refine lv_aload_n hx hb dX2_farFromRemembered_18 rfl (lv_at hl 0 rfl) ?_
    refine x_vi (As := []) (rest := [.int (fX2_rememberedColour σ), .ref (ad (13 + x1.toNatClampNeg))]) C h (gX_Sp κ ad σ) rfl (kX2_rememberedSize l D κ ad σ (r := (fX2_rememberedSize σ)) rfl) (fun hts => cwV 0 hts gX2_farFromRemembered_X2_rememberedSize rfl rfl rfl (by decide +kernel) ⟨Nat.le_of_ble_eq_true rfl, Nat.le_of_ble_eq_true rfl⟩) rfl hl.1 (Nat.le_of_ble_eq_true rfl) rfl dX2_farFromRemembered_19 (fun H locs h => ?_)
    refine lv_aload_n hx hb dX2_farFromRemembered_22 rfl (lv_at hl 0 rfl) ?_
    refine x_get (v := .int (σ 10 5)) C h (gX_Sp κ ad σ) rfl inX2_farFromRemembered_X2 5 (by decide) (hts _ lkX2_farFromRemembered_42) rfl dX2_farFromRemembered_23 ?_
    refine x_vi (As := [.int (fX2_rememberedColour σ), .int (fX2_rememberedSize σ), .int (σ 10 5)]) (rest := []) C h (gX_Tu κ ad σ b3) rfl (kX5_farFrom l D κ ad x1.toNatClampNeg b3 (fX2_rememberedColour σ) (fX2_rememberedSize σ) (σ 10 5) σ (r := (fX5_farFrom x1.toNatClampNeg (fX2_rememberedColour σ) (fX2_rememberedSize σ) (σ 10 5) σ)) rfl) (fun hts => cwV 3 hts gX2_farFromRemembered_X5_farFrom rfl rfl rfl (by decide +kernel) ⟨Nat.le_of_ble_eq_true rfl, Nat.le_of_ble_eq_true rfl⟩) rfl hl.1 (Nat.le_of_ble_eq_true rfl) rfl dX2_farFromRemembered_26 (fun H locs h => ?_)
    refine lv_goto (tgt := 33) hx hb dX2_farFromRemembered_29 (by decide) ?_
    obtain rfl := so_ok hf
    exact x_iret C h dX2_farFromRemembered_33

-- ===== X2_isAlike: ButtonMatch$Shop.isAlike(I)Z
theorem lkX2_isAlike_66 : Cond.fieldLink RX2 66 "ButtonMatch$Shop" "near" "I" ∈ wsX2_isAlike := by decide +kernel
theorem inX2_isAlike_X2 : ∀ w ∈ wsX20, w ∈ wsX2_isAlike := fun _ h => List.mem_cons_of_mem _ (List.mem_append_left _ (List.mem_append_right _ h))
def fX2_isAlike (x1 : Int32) (σ : Sg) : Option (Int32) :=
  ((fX2_farFromRemembered x1 σ).bind fun r2 => (if (σ 10 9) < r2 then some 0 else some 1))
set_option maxHeartbeats 4000000 in
set_option maxRecDepth 100000 in
theorem kX2_isAlike (l : Launch) (D : va_G) (κ : Kp) (ad : Nat → Nat) (x1 : Int32) (σ : Sg) {r : Int32} (hf : fX2_isAlike x1 σ = some r) : Ci l D κ (wsX κ ad) yX2_isAlike wsX2_isAlike 4 88 [.ref (ad 10), .int x1] σ r σ := by
  refine Ci.of (cc := cX2_isAlike) (nL := 2) (ret := (some .boolean)) (by decide) rfl (Nat.le_of_ble_eq_true rfl) ?_
  intro p e s m below meth c A ls C h hl
  obtain ⟨hx, hb, hml, hr, hlk, hown, hts, hK, hA, hZ⟩ := id C
  have hl : lv_has ls 2 [(0, .ref (ad 10)), (1, .int x1)] := hl
  unfold fX2_isAlike at hf
  refine lv_aload_n hx hb dX2_isAlike_0 rfl (lv_at hl 0 rfl) ?_
  refine lv_iload_n hx hb dX2_isAlike_1 rfl (lv_at hl 1 rfl) ?_
  obtain ⟨r2, hg1, hf⟩ := bd_ok hf
  refine x_vi (As := [.int x1]) (rest := []) C h (gX_Sp κ ad σ) rfl (kX2_farFromRemembered l D κ ad x1 σ (r := r2) hg1) (fun hts => cwV 1 hts gX2_isAlike_X2_farFromRemembered rfl rfl rfl (by decide +kernel) ⟨Nat.le_of_ble_eq_true rfl, Nat.le_of_ble_eq_true rfl⟩) rfl hl.1 (Nat.le_of_ble_eq_true rfl) rfl dX2_isAlike_2 (fun H locs h => ?_)
  refine lv_aload_n hx hb dX2_isAlike_5 rfl (lv_at hl 0 rfl) ?_
  refine x_get (v := .int (σ 10 9)) C h (gX_Sp κ ad σ) rfl inX2_isAlike_X2 9 (by decide) (hts _ lkX2_isAlike_66) rfl dX2_isAlike_6 ?_
  refine lv_icmp_gt (tgt := 16) hx hb dX2_isAlike_9 (by decide) (fun c3 => ?_) (fun c3 => ?_)
  · have hf := tk_t c3 hf
    refine lv_iconst (v := 0) hx hb dX2_isAlike_16 (by decide) ?_
    obtain rfl := so_ok hf
    exact x_zret C rfl h dX2_isAlike_17
  · have hf := tk_f c3 hf
    refine lv_iconst (v := 1) hx hb dX2_isAlike_12 (by decide) ?_
    refine lv_goto (tgt := 17) hx hb dX2_isAlike_13 (by decide) ?_
    obtain rfl := so_ok hf
    exact x_zret C rfl h dX2_isAlike_17

-- ===== X2_searched: ButtonMatch$Shop.searched(LButtonMatch$Sheet;III)I
theorem mwX2_searched_83 : Cond.methodLink RX2 83 Lib.Math.abs.name ∈ wsX2_searched ∧ Cond.static Lib.Math.abs.name ∈ wsX2_searched ∧ Cond.initialized "java/lang/Math" ∈ wsX2_searched ∧ Cond.code Lib.Math.abs.name Lib.Math.abs.code 1 (some .int) ∈ wsX2_searched := ⟨by decide +kernel, by decide +kernel, by decide +kernel, by decide +kernel⟩
def fX2_searched_85 (σ : Sg) (x4 : Int32) (x6 : Int32) (x7 : Int32) (x8 : Int32) : Option (Int32) :=
  (if x4 = 0 then some x6 else (if x4 = 1 then some x8 else some x7))
set_option maxHeartbeats 4000000 in
set_option maxRecDepth 100000 in
theorem jX2_searched_85 {p : Program} {l : Launch} {e : Env} {s : State} {m : MethodId} {args : Array Value} {below : List Frame} {meth : Method} {c : Code} {D : va_G} {κ : Kp} {ad : Nat → Nat} {A : Nat → Prop} {r : Int32} (C : Mc p s m args meth c cX2_searched 11 (some .int) wsX2_searched RX2 D κ A) (σ : Sg) (x4 : Int32) (x6 : Int32) (x7 : Int32) (x8 : Int32) (H : Heap) (locs : List Loc) (ls : Array Slot) (h : Wd D (wsX κ ad) A s.heap H locs σ) (hl : lv_has ls 11 [(4, .int x4), (6, .int x6), (7, .int x7), (8, .int x8)]) (hf : fX2_searched_85 σ x4 x6 x7 x8 = some r) : W p l e { frames := 5, cells := 0, slots := 0, locals := 109 } s m args below meth c H locs 0 0 (Qi below args s D (wsX κ ad) A r σ) (F0 m 85 ls []) := by
  obtain ⟨hx, hb, hml, hr, hlk, hown, hts, hK, hA, hZ⟩ := id C
  unfold fX2_searched_85 at hf
  refine lv_iload hx hb dX2_searched_85 (lv_at hl 0 rfl) ?_
  refine lv_if_ne (tgt := 95) hx hb dX2_searched_87 (by decide) (fun c1 => ?_) (fun c1 => ?_)
  · have hf := tk_f c1 hf
    refine lv_iload hx hb dX2_searched_95 (lv_at hl 0 rfl) ?_
    refine lv_iconst (v := 1) hx hb dX2_searched_97 (by decide) ?_
    refine lv_icmp_ne (tgt := 106) hx hb dX2_searched_98 (by decide) (fun c2 => ?_) (fun c2 => ?_)
    · have hf := tk_f c2 hf
      refine lv_iload hx hb dX2_searched_106 (lv_at hl 2 rfl) ?_
      obtain rfl := so_ok hf
      exact x_iret C h dX2_searched_108
    · have hf := tk_t c2 hf
      refine lv_iload hx hb dX2_searched_101 (lv_at hl 3 rfl) ?_
      refine lv_goto (tgt := 108) hx hb dX2_searched_103 (by decide) ?_
      obtain rfl := so_ok hf
      exact x_iret C h dX2_searched_108
  · have hf := tk_t c1 hf
    refine lv_iload hx hb dX2_searched_90 (lv_at hl 1 rfl) ?_
    refine lv_goto (tgt := 108) hx hb dX2_searched_92 (by decide) ?_
    obtain rfl := so_ok hf
    exact x_iret C h dX2_searched_108
def fX2_searched_16 (σ : Sg) (k1 : Nat) (x2 : Int32) (x3 : Int32) (x4 : Int32) : Nat → Int32 → Int32 → Int32 → Int32 → Int32 → Option (Int32)
  | 0, _, _, _, _, _ => none
  | n + 1, x5, x6, x7, x8, x9 => (if x3 ≤ x9 then fX2_searched_85 σ x4 x6 x7 x8 else (if x8 = (-9) then ((fX1_read k1 (x2 + x9) σ).bind fun r6 => ((fX2_isAlike r6 σ).bind fun r8 => (if r8 = 0 then fX2_searched_16 σ k1 x2 x3 x4 n r6 (x6 + ((if 0 ≤ (r6 - x5) then (r6 - x5) else 0 - (r6 - x5)) + 1)) (x7 + 1) (-9) (x9 + 1) else fX2_searched_16 σ k1 x2 x3 x4 n r6 (x6 + ((if 0 ≤ (r6 - x5) then (r6 - x5) else 0 - (r6 - x5)) + 1)) (x7 + 1) r6 (x9 + 1)))) else fX2_searched_85 σ x4 x6 x7 x8))
set_option maxHeartbeats 4000000 in
set_option maxRecDepth 100000 in
theorem jX2_searched_16 {p : Program} {l : Launch} {e : Env} {s : State} {m : MethodId} {args : Array Value} {below : List Frame} {meth : Method} {c : Code} {D : va_G} {κ : Kp} {ad : Nat → Nat} {A : Nat → Prop} {r : Int32} (C : Mc p s m args meth c cX2_searched 11 (some .int) wsX2_searched RX2 D κ A) (σ : Sg) (k1 : Nat) (hk1 : k1 < 4) (x2 : Int32) (x3 : Int32) (x4 : Int32) : ∀ (n : Nat) (x5 : Int32) (x6 : Int32) (x7 : Int32) (x8 : Int32) (x9 : Int32) (H : Heap) (locs : List Loc) (ls : Array Slot), Wd D (wsX κ ad) A s.heap H locs σ → lv_has ls 11 [(0, .ref (ad 10)), (1, .ref (ad (2 + k1))), (2, .int x2), (3, .int x3), (4, .int x4), (5, .int x5), (6, .int x6), (7, .int x7), (8, .int x8), (9, .int x9)] → fX2_searched_16 σ k1 x2 x3 x4 n x5 x6 x7 x8 x9 = some r → W p l e { frames := 5, cells := 0, slots := 0, locals := 109 } s m args below meth c H locs 0 0 (Qi below args s D (wsX κ ad) A r σ) (F0 m 16 ls []) := by
  obtain ⟨hx, hb, hml, hr, hlk, hown, hts, hK, hA, hZ⟩ := id C
  intro n
  induction n with
  | zero =>
    intro x5 x6 x7 x8 x9 H locs ls h hl hf
    rw [fX2_searched_16] at hf
    cases hf
  | succ n ih =>
    intro x5 x6 x7 x8 x9 H locs ls h hl hf
    rw [fX2_searched_16] at hf
    refine lv_iload hx hb dX2_searched_16 (lv_at hl 9 rfl) ?_
    refine lv_iload_n hx hb dX2_searched_18 rfl (lv_at hl 3 rfl) ?_
    refine lv_icmp_ge (tgt := 85) hx hb dX2_searched_19 (by decide) (fun c3 => ?_) (fun c3 => ?_)
    · have hf := tk_t c3 hf
      exact jX2_searched_85 C σ x4 x6 x7 x8 _ _ _ h (lv_sub hl [4, 6, 7, 8] rfl) hf
    · have hf := tk_f c3 hf
      refine lv_iload hx hb dX2_searched_22 (lv_at hl 8 rfl) ?_
      refine lv_bipush (v := (-9)) hx hb dX2_searched_24 (by decide) ?_
      refine lv_icmp_ne (tgt := 85) hx hb dX2_searched_26 (by decide) (fun c4 => ?_) (fun c4 => ?_)
      · have hf := tk_f c4 hf
        exact jX2_searched_85 C σ x4 x6 x7 x8 _ _ _ h (lv_sub hl [4, 6, 7, 8] rfl) hf
      · have hf := tk_t c4 hf
        refine lv_aload_n hx hb dX2_searched_29 rfl (lv_at hl 1 rfl) ?_
        refine lv_iload_n hx hb dX2_searched_30 rfl (lv_at hl 2 rfl) ?_
        refine lv_iload hx hb dX2_searched_31 (lv_at hl 9 rfl) ?_
        refine lv_iadd hx hb dX2_searched_33 ?_
        obtain ⟨r6, hg5, hf⟩ := bd_ok hf
        refine x_vi (As := [.int (x2 + x9)]) (rest := []) C h (gX_Sh κ ad σ hk1) rfl (kX1_read l D κ ad k1 hk1 (x2 + x9) σ (r := r6) hg5) (fun hts => cwV 1 hts gX2_searched_X1_read rfl rfl rfl (by decide +kernel) ⟨Nat.le_of_ble_eq_true rfl, Nat.le_of_ble_eq_true rfl⟩) rfl hl.1 (Nat.le_of_ble_eq_true rfl) rfl dX2_searched_34 (fun H locs h => ?_)
        refine lv_istore (lv' := [(10, .int r6), (0, .ref (ad 10)), (1, .ref (ad (2 + k1))), (2, .int x2), (3, .int x3), (4, .int x4), (5, .int x5), (6, .int x6), (7, .int x7), (8, .int x8), (9, .int x9)]) hx hb dX2_searched_37 hl (by decide) rfl (fun ls hl => ?_)
        refine lv_iload hx hb dX2_searched_39 (lv_at hl 7 rfl) ?_
        refine lv_iload hx hb dX2_searched_41 (lv_at hl 0 rfl) ?_
        refine lv_iload hx hb dX2_searched_43 (lv_at hl 6 rfl) ?_
        refine lv_isub hx hb dX2_searched_45 ?_
        refine va_mabs hx hb (hml.trans hl.1.symm) hown (hts _ mwX2_searched_83.1) (hts _ mwX2_searched_83.2.1) (hts _ mwX2_searched_83.2.2.1) (hts _ mwX2_searched_83.2.2.2) (Nat.le_of_ble_eq_true rfl) (Nat.le_of_ble_eq_true rfl) (Nat.zero_le _) (Nat.zero_le _) dX2_searched_46 ?_
        refine lv_iconst (v := 1) hx hb dX2_searched_49 (by decide) ?_
        refine lv_iadd hx hb dX2_searched_50 ?_
        refine lv_iadd hx hb dX2_searched_51 ?_
        refine lv_istore (lv' := [(6, .int (x6 + ((if 0 ≤ (r6 - x5) then (r6 - x5) else 0 - (r6 - x5)) + 1))), (10, .int r6), (0, .ref (ad 10)), (1, .ref (ad (2 + k1))), (2, .int x2), (3, .int x3), (4, .int x4), (5, .int x5), (7, .int x7), (8, .int x8), (9, .int x9)]) hx hb dX2_searched_52 hl (by decide) rfl (fun ls hl => ?_)
        refine lv_iinc (v := (x7 + 1)) (lv' := [(7, .int (x7 + 1)), (6, .int (x6 + ((if 0 ≤ (r6 - x5) then (r6 - x5) else 0 - (r6 - x5)) + 1))), (10, .int r6), (0, .ref (ad 10)), (1, .ref (ad (2 + k1))), (2, .int x2), (3, .int x3), (4, .int x4), (5, .int x5), (8, .int x8), (9, .int x9)]) hx hb dX2_searched_54 hl (k := 8) rfl rfl (by decide) rfl (fun ls hl => ?_)
        refine lv_iload hx hb dX2_searched_57 (lv_at hl 2 rfl) ?_
        refine lv_istore (lv' := [(5, .int r6), (7, .int (x7 + 1)), (6, .int (x6 + ((if 0 ≤ (r6 - x5) then (r6 - x5) else 0 - (r6 - x5)) + 1))), (10, .int r6), (0, .ref (ad 10)), (1, .ref (ad (2 + k1))), (2, .int x2), (3, .int x3), (4, .int x4), (8, .int x8), (9, .int x9)]) hx hb dX2_searched_59 hl (by decide) rfl (fun ls hl => ?_)
        refine lv_aload_n hx hb dX2_searched_61 rfl (lv_at hl 4 rfl) ?_
        refine lv_iload hx hb dX2_searched_62 (lv_at hl 3 rfl) ?_
        obtain ⟨r8, hg7, hf⟩ := bd_ok hf
        refine x_vi (As := [.int r6]) (rest := []) C h (gX_Sp κ ad σ) rfl (kX2_isAlike l D κ ad r6 σ (r := r8) hg7) (fun hts => cwV 1 hts gX2_searched_X2_isAlike rfl rfl rfl (by decide +kernel) ⟨Nat.le_of_ble_eq_true rfl, Nat.le_of_ble_eq_true rfl⟩) rfl hl.1 (Nat.le_of_ble_eq_true rfl) rfl dX2_searched_64 (fun H locs h => ?_)
        refine lv_if_eq (tgt := 75) hx hb dX2_searched_67 (by decide) (fun c9 => ?_) (fun c9 => ?_)
        · have hf := tk_t c9 hf
          refine lv_bipush (v := (-9)) hx hb dX2_searched_75 (by decide) ?_
          refine lv_istore (lv' := [(8, .int (-9)), (5, .int r6), (7, .int (x7 + 1)), (6, .int (x6 + ((if 0 ≤ (r6 - x5) then (r6 - x5) else 0 - (r6 - x5)) + 1))), (10, .int r6), (0, .ref (ad 10)), (1, .ref (ad (2 + k1))), (2, .int x2), (3, .int x3), (4, .int x4), (9, .int x9)]) hx hb dX2_searched_77 hl (by decide) rfl (fun ls hl => ?_)
          refine lv_iinc (v := (x9 + 1)) (lv' := [(9, .int (x9 + 1)), (8, .int (-9)), (5, .int r6), (7, .int (x7 + 1)), (6, .int (x6 + ((if 0 ≤ (r6 - x5) then (r6 - x5) else 0 - (r6 - x5)) + 1))), (10, .int r6), (0, .ref (ad 10)), (1, .ref (ad (2 + k1))), (2, .int x2), (3, .int x3), (4, .int x4)]) hx hb dX2_searched_79 hl (k := 10) rfl rfl (by decide) rfl (fun ls hl => ?_)
          refine lv_goto (tgt := 16) hx hb dX2_searched_82 (by decide) ?_
          exact ih r6 (x6 + ((if 0 ≤ (r6 - x5) then (r6 - x5) else 0 - (r6 - x5)) + 1)) (x7 + 1) (-9) (x9 + 1) _ _ _ h (lv_sub hl [6, 7, 8, 9, 10, 2, 4, 3, 1, 0] rfl) hf
        · have hf := tk_f c9 hf
          refine lv_iload hx hb dX2_searched_70 (lv_at hl 3 rfl) ?_
          refine lv_goto (tgt := 77) hx hb dX2_searched_72 (by decide) ?_
          refine lv_istore (lv' := [(8, .int r6), (5, .int r6), (7, .int (x7 + 1)), (6, .int (x6 + ((if 0 ≤ (r6 - x5) then (r6 - x5) else 0 - (r6 - x5)) + 1))), (10, .int r6), (0, .ref (ad 10)), (1, .ref (ad (2 + k1))), (2, .int x2), (3, .int x3), (4, .int x4), (9, .int x9)]) hx hb dX2_searched_77 hl (by decide) rfl (fun ls hl => ?_)
          refine lv_iinc (v := (x9 + 1)) (lv' := [(9, .int (x9 + 1)), (8, .int r6), (5, .int r6), (7, .int (x7 + 1)), (6, .int (x6 + ((if 0 ≤ (r6 - x5) then (r6 - x5) else 0 - (r6 - x5)) + 1))), (10, .int r6), (0, .ref (ad 10)), (1, .ref (ad (2 + k1))), (2, .int x2), (3, .int x3), (4, .int x4)]) hx hb dX2_searched_79 hl (k := 10) rfl rfl (by decide) rfl (fun ls hl => ?_)
          refine lv_goto (tgt := 16) hx hb dX2_searched_82 (by decide) ?_
          exact ih r6 (x6 + ((if 0 ≤ (r6 - x5) then (r6 - x5) else 0 - (r6 - x5)) + 1)) (x7 + 1) r6 (x9 + 1) _ _ _ h (lv_sub hl [6, 7, 8, 9, 10, 2, 4, 3, 1, 0] rfl) hf
def fX2_searched (k1 : Nat) (x2 : Int32) (x3 : Int32) (x4 : Int32) (σ : Sg) : Option (Int32) :=
  fX2_searched_16 σ k1 x2 x3 x4 1000 0 0 0 (-9) 0
set_option maxHeartbeats 4000000 in
set_option maxRecDepth 100000 in
theorem kX2_searched (l : Launch) (D : va_G) (κ : Kp) (ad : Nat → Nat) (k1 : Nat) (hk1 : k1 < 4) (x2 : Int32) (x3 : Int32) (x4 : Int32) (σ : Sg) {r : Int32} (hf : fX2_searched k1 x2 x3 x4 σ = some r) : Ci l D κ (wsX κ ad) yX2_searched wsX2_searched 5 109 [.ref (ad 10), .ref (ad (2 + k1)), .int x2, .int x3, .int x4] σ r σ := by
  refine Ci.of (cc := cX2_searched) (nL := 11) (ret := (some .int)) (by decide) rfl (Nat.le_of_ble_eq_true rfl) ?_
  intro p e s m below meth c A ls C h hl
  obtain ⟨hx, hb, hml, hr, hlk, hown, hts, hK, hA, hZ⟩ := id C
  have hl : lv_has ls 11 [(0, .ref (ad 10)), (1, .ref (ad (2 + k1))), (2, .int x2), (3, .int x3), (4, .int x4)] := hl
  unfold fX2_searched at hf
  refine lv_iconst (v := 0) hx hb dX2_searched_0 (by decide) ?_
  refine lv_istore (lv' := [(5, .int 0), (0, .ref (ad 10)), (1, .ref (ad (2 + k1))), (2, .int x2), (3, .int x3), (4, .int x4)]) hx hb dX2_searched_1 hl (by decide) rfl (fun ls hl => ?_)
  refine lv_iconst (v := 0) hx hb dX2_searched_3 (by decide) ?_
  refine lv_istore (lv' := [(6, .int 0), (5, .int 0), (0, .ref (ad 10)), (1, .ref (ad (2 + k1))), (2, .int x2), (3, .int x3), (4, .int x4)]) hx hb dX2_searched_4 hl (by decide) rfl (fun ls hl => ?_)
  refine lv_iconst (v := 0) hx hb dX2_searched_6 (by decide) ?_
  refine lv_istore (lv' := [(7, .int 0), (6, .int 0), (5, .int 0), (0, .ref (ad 10)), (1, .ref (ad (2 + k1))), (2, .int x2), (3, .int x3), (4, .int x4)]) hx hb dX2_searched_7 hl (by decide) rfl (fun ls hl => ?_)
  refine lv_bipush (v := (-9)) hx hb dX2_searched_9 (by decide) ?_
  refine lv_istore (lv' := [(8, .int (-9)), (7, .int 0), (6, .int 0), (5, .int 0), (0, .ref (ad 10)), (1, .ref (ad (2 + k1))), (2, .int x2), (3, .int x3), (4, .int x4)]) hx hb dX2_searched_11 hl (by decide) rfl (fun ls hl => ?_)
  refine lv_iconst (v := 0) hx hb dX2_searched_13 (by decide) ?_
  refine lv_istore (lv' := [(9, .int 0), (8, .int (-9)), (7, .int 0), (6, .int 0), (5, .int 0), (0, .ref (ad 10)), (1, .ref (ad (2 + k1))), (2, .int x2), (3, .int x3), (4, .int x4)]) hx hb dX2_searched_14 hl (by decide) rfl (fun ls hl => ?_)
  exact jX2_searched_16 C σ k1 hk1 x2 x3 x4 1000 0 0 0 (-9) 0 _ _ _ h (lv_sub hl [5, 6, 7, 8, 9, 4, 3, 2, 1, 0] rfl) hf
