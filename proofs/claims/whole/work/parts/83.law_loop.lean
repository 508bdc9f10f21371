theorem law_in {L k : Nat} (hL : L ≤ 3072) (hk : k ≤ L) (h : ¬ Int32.ofNat L - 6 < nI k) : k + 6 ≤ L := by
  by_cases q : k + 6 ≤ L
  · exact q
  · refine absurd ?_ h
    have e : (Int32.ofNat L - 6).toInt = (L : Int) - 6 := pk_sub_toInt (a := L) (b := 6) (by omega) (by omega)
    have e2 : (nI k).toInt = (k : Int) := nI_toInt (by omega)
    rw [Int32.lt_iff_toInt_lt, e, e2]
    omega
theorem law_at {L k : Nat} (hL : L ≤ 3072) (j : Nat) (h : k + j < L) : vp_in (nI k + nI j) L := by
  rw [nI_add]
  exact vp_in_nI h (by omega)
set_option maxHeartbeats 8000000 in
set_option maxRecDepth 100000 in
theorem law_loop {p : Program} {l : Launch} {e : Env} {s : State} {m : MethodId} {below : List Frame} {meth : Method} {c : Code} {b L : Nat} {xs : Nat → Int32} {D : va_G} {κ : Kp} {ad ad2 : Nat → Nat} (hL : L ≤ 3072) (C : Mc p s m #[Value.ref b] meth c code 4 ret wsL_law RL D κ (fun q : Nat => s.heap.size ≤ q)) (hX : va_X b L xs s s.heap) (hbl : b < s.heap.size) : ∀ (n k : Nat) (x3 : Int32), k ≤ L → L + 1 ≤ k + n → x3 = nI k → ∀ (σ μ : Sg) (H : Heap) (locs : List Loc) (ls : Array Slot), W2 D (fun q : Nat => s.heap.size ≤ q) s.heap H locs (wsX κ ad) (wsM κ ad2) σ μ → Inv σ μ → lv_has ls 4 [(0, .ref b), (1, .ref (ad 0)), (2, .ref (ad2 0)), (3, .int x3)] → W p l e room_1 s m #[Value.ref b] below meth c H locs 40 738 (lw_Z below #[Value.ref b] s) (F0 m 18 ls []) := by
  obtain ⟨hx, hb, hml, hr, hlk, hown, hts, hK, hA, hZ⟩ := id C
  have hbA : ¬ (fun q : Nat => s.heap.size ≤ q) b := Nat.not_le.mpr hbl
  intro n
  induction n with
  | zero =>
    intro k x3 hk hn
    exact absurd hn (by omega)
  | succ n ih =>
    intro k x3 hk hn ex σ μ H locs ls h hI hl
    refine lv_iload_n hx hb dL_law_18 rfl (lv_at hl 3 rfl) ?_
    refine lv_aload_n hx hb dL_law_19 rfl (lv_at hl 0 rfl) ?_
    refine va_slen hx hb hX hbl hbA h.2.2.2.2.2 dL_law_20 ?_
    refine lv_bipush (v := 6) hx hb dL_law_21 (by decide) ?_
    refine lv_isub hx hb dL_law_23 ?_
    refine lv_icmp_gt (tgt := 1203) hx hb dL_law_24 (by decide) (fun c1 => ?_) (fun c1 => ?_)
    · refine lv_iconst (v := 1) hx hb dL_law_1203 (by decide) ?_
      refine va_forget (fun q hq => h.2.2.2.2.2.2.2 q hq) ?_
      refine W.widen (k := 600000) (n := 7302250) (by decide) (by decide) ?_
      exact lw_ret hx hb hr hlk dL_law_1204
    · have hk6 : k + 6 ≤ L := law_in hL hk (by rw [← ex]; exact c1)
      have h0 : vp_in x3 L := by rw [ex]; exact vp_in_nI (by omega) (by omega)
      have h1 : vp_in (x3 + 1) L := by rw [ex]; exact law_at hL 1 (by omega)
      have h2 : vp_in (x3 + 2) L := by rw [ex]; exact law_at hL 2 (by omega)
      have h3 : vp_in (x3 + 3) L := by rw [ex]; exact law_at hL 3 (by omega)
      have h4 : vp_in (x3 + 4) L := by rw [ex]; exact law_at hL 4 (by omega)
      have h5 : vp_in (x3 + 5) L := by rw [ex]; exact law_at hL 5 (by omega)
      have hk : ∀ (σ μ : Sg) (H : Heap) (locs : List Loc) (ls : Array Slot), W2 D (fun q : Nat => s.heap.size ≤ q) s.heap H locs (wsX κ ad) (wsM κ ad2) σ μ → Inv σ μ → lv_has ls 4 [(0, .ref b), (1, .ref (ad 0)), (2, .ref (ad2 0)), (3, .int x3)] → W p l e room_1 s m #[Value.ref b] below meth c H locs 40 738 (lw_Z below #[Value.ref b] s) (F0 m 1197 ls []) := by
        intro σ μ H locs ls h hI hl
        refine lv_iinc (v := x3 + 6) (lv' := [(3, .int (x3 + 6)), (0, .ref b), (1, .ref (ad 0)), (2, .ref (ad2 0))]) hx hb dL_law_1197 hl (k := 3) rfl rfl (by decide) rfl (fun ls hl => ?_)
        refine lv_goto (tgt := 18) hx hb dL_law_1200 (by decide) ?_
        exact ih (k + 6) (x3 + 6) hk6 (by omega) (by rw [ex]; exact nI_add k 6) σ μ H locs ls h hI (lv_sub hl [1, 2, 3, 0] rfl)
      refine lv_aload_n hx hb dL_law_27 rfl (lv_at hl 0 rfl) ?_
      refine lv_iload_n hx hb dL_law_28 rfl (lv_at hl 3 rfl) ?_
      refine va_sld hx hb hX hbl hbA h.2.2.2.2.2 h0 dL_law_29 ?_
      refine lv_bipush (v := 63) hx hb dL_law_30 (by decide) ?_
      refine lv_iand hx hb dL_law_32 ?_
      refine lv_topi (fun v9 ev => ?_)
      by_cases c_0 : v9 = 0
      · refine lv_tableIn (off := 147) (tgt := 180) hx hb dL_law_33 (by rw [c_0]; decide) (by rw [c_0]; decide) (by rw [c_0]; rfl) (by decide) ?_
        exact lc_shop C hX hbl _ x3 h0 h1 h2 h3 h4 h5 hk σ μ H locs ls h hI hl
      by_cases c_1 : v9 = 1
      · refine lv_tableIn (off := 200) (tgt := 233) hx hb dL_law_33 (by rw [c_1]; decide) (by rw [c_1]; decide) (by rw [c_1]; rfl) (by decide) ?_
        exact lc_wanted C hX hbl _ x3 h0 h1 h2 h3 h4 h5 hk σ μ H locs ls h hI hl
      by_cases c_2 : v9 = 2
      · refine lv_tableIn (off := 223) (tgt := 256) hx hb dL_law_33 (by rw [c_2]; decide) (by rw [c_2]; decide) (by rw [c_2]; rfl) (by decide) ?_
        exact lc_seen C hX hbl _ x3 h0 h1 h2 h3 h4 h5 hk σ μ H locs ls h hI hl
      by_cases c_3 : v9 = 3
      · refine lv_tableIn (off := 246) (tgt := 279) hx hb dL_law_33 (by rw [c_3]; decide) (by rw [c_3]; decide) (by rw [c_3]; rfl) (by decide) ?_
        exact lc_ofTube C hX hbl _ x3 h0 h1 h2 h3 h4 h5 hk σ μ H locs ls h hI hl
      by_cases c_4 : v9 = 4
      · refine lv_tableIn (off := 279) (tgt := 312) hx hb dL_law_33 (by rw [c_4]; decide) (by rw [c_4]; decide) (by rw [c_4]; rfl) (by decide) ?_
        exact lc_remember C hX hbl _ x3 h0 h1 h2 h3 h4 h5 hk σ μ H locs ls h hI hl
      by_cases c_5 : v9 = 5
      · refine lv_tableIn (off := 312) (tgt := 345) hx hb dL_law_33 (by rw [c_5]; decide) (by rw [c_5]; decide) (by rw [c_5]; rfl) (by decide) ?_
        exact lc_near C hX hbl _ x3 h0 h1 h2 h3 h4 h5 hk σ μ H locs ls h hI hl
      by_cases c_6 : v9 = 6
      · refine lv_tableIn (off := 335) (tgt := 368) hx hb dL_law_33 (by rw [c_6]; decide) (by rw [c_6]; decide) (by rw [c_6]; rfl) (by decide) ?_
        exact lc_stock C hX hbl _ x3 h0 h1 h2 h3 h4 h5 hk σ μ H locs ls h hI hl
      by_cases c_7 : v9 = 7
      · refine lv_tableIn (off := 368) (tgt := 401) hx hb dL_law_33 (by rw [c_7]; decide) (by rw [c_7]; decide) (by rw [c_7]; rfl) (by decide) ?_
        exact lc_far C hX hbl _ x3 h0 h1 h2 h3 h4 h5 hk σ μ H locs ls h hI hl
      by_cases c_8 : v9 = 8
      · refine lv_tableIn (off := 391) (tgt := 424) hx hb dL_law_33 (by rw [c_8]; decide) (by rw [c_8]; decide) (by rw [c_8]; rfl) (by decide) ?_
        exact lc_search C hX hbl _ x3 h0 h1 h2 h3 h4 h5 hk σ μ H locs ls h hI hl
      by_cases c_9 : v9 = 9
      · refine lv_tableIn (off := 454) (tgt := 487) hx hb dL_law_33 (by rw [c_9]; decide) (by rw [c_9]; decide) (by rw [c_9]; rfl) (by decide) ?_
        exact lc_sieve C hX hbl _ x3 h0 h1 h2 h3 h4 h5 hk σ μ H locs ls h hI hl
      by_cases c_10 : v9 = 10
      · refine lv_tableIn (off := 517) (tgt := 550) hx hb dL_law_33 (by rw [c_10]; decide) (by rw [c_10]; decide) (by rw [c_10]; rfl) (by decide) ?_
        exact lc_quick C hX hbl _ x3 h0 h1 h2 h3 h4 h5 hk σ μ H locs ls h hI hl
      by_cases c_11 : v9 = 11
      · refine lv_tableIn (off := 540) (tgt := 573) hx hb dL_law_33 (by rw [c_11]; decide) (by rw [c_11]; decide) (by rw [c_11]; rfl) (by decide) ?_
        exact lc_signs C hX hbl _ x3 h0 h1 h2 h3 h4 h5 hk σ μ H locs ls h hI hl
      by_cases c_12 : v9 = 12
      · refine lv_tableIn (off := 563) (tgt := 596) hx hb dL_law_33 (by rw [c_12]; decide) (by rw [c_12]; decide) (by rw [c_12]; rfl) (by decide) ?_
        exact lc_sew C hX hbl _ x3 h0 h1 h2 h3 h4 h5 hk σ μ H locs ls h hI hl
      by_cases c_13 : v9 = 13
      · refine lv_tableIn (off := 596) (tgt := 629) hx hb dL_law_33 (by rw [c_13]; decide) (by rw [c_13]; decide) (by rw [c_13]; rfl) (by decide) ?_
        exact lc_set C hX hbl _ x3 h0 h1 h2 h3 h4 h5 hk σ μ H locs ls h hI hl
      by_cases c_14 : v9 = 14
      · refine lv_tableIn (off := 619) (tgt := 652) hx hb dL_law_33 (by rw [c_14]; decide) (by rw [c_14]; decide) (by rw [c_14]; rfl) (by decide) ?_
        exact lc_tin C hX hbl _ x3 h0 h1 h2 h3 h4 h5 hk σ μ H locs ls h hI hl
      by_cases c_15 : v9 = 15
      · refine lv_tableIn (off := 653) (tgt := 686) hx hb dL_law_33 (by rw [c_15]; decide) (by rw [c_15]; decide) (by rw [c_15]; rfl) (by decide) ?_
        exact lc_half C hX hbl _ x3 h0 h1 h2 h3 h4 h5 hk σ μ H locs ls h hI hl
      by_cases c_16 : v9 = 16
      · refine lv_tableIn (off := 666) (tgt := 699) hx hb dL_law_33 (by rw [c_16]; decide) (by rw [c_16]; decide) (by rw [c_16]; rfl) (by decide) ?_
        exact lc_reading C hX hbl _ x3 h0 h1 h2 h3 h4 h5 hk σ μ H locs ls h hI hl
      by_cases c_17 : v9 = 17
      · refine lv_tableIn (off := 715) (tgt := 748) hx hb dL_law_33 (by rw [c_17]; decide) (by rw [c_17]; decide) (by rw [c_17]; rfl) (by decide) ?_
        exact lc_back C hX hbl _ x3 h0 h1 h2 h3 h4 h5 hk σ μ H locs ls h hI hl
      by_cases c_18 : v9 = 18
      · refine lv_tableIn (off := 738) (tgt := 771) hx hb dL_law_33 (by rw [c_18]; decide) (by rw [c_18]; decide) (by rw [c_18]; rfl) (by decide) ?_
        exact lc_memories C hX hbl _ x3 h0 h1 h2 h3 h4 h5 hk σ μ H locs ls h hI hl
      by_cases c_19 : v9 = 19
      · refine lv_tableIn (off := 761) (tgt := 794) hx hb dL_law_33 (by rw [c_19]; decide) (by rw [c_19]; decide) (by rw [c_19]; rfl) (by decide) ?_
        exact lc_kinds C hX hbl _ x3 h0 h1 h2 h3 h4 h5 hk σ μ H locs ls h hI hl
      by_cases c_20 : v9 = 20
      · refine lv_tableIn (off := 784) (tgt := 817) hx hb dL_law_33 (by rw [c_20]; decide) (by rw [c_20]; decide) (by rw [c_20]; rfl) (by decide) ?_
        exact lc_colours C hX hbl _ x3 h0 h1 h2 h3 h4 h5 hk σ μ H locs ls h hI hl
      by_cases c_21 : v9 = 21
      · refine lv_tableIn (off := 807) (tgt := 840) hx hb dL_law_33 (by rw [c_21]; decide) (by rw [c_21]; decide) (by rw [c_21]; rfl) (by decide) ?_
        exact lc_nears C hX hbl _ x3 h0 h1 h2 h3 h4 h5 hk σ μ H locs ls h hI hl
      by_cases c_22 : v9 = 22
      · refine lv_tableIn (off := 820) (tgt := 853) hx hb dL_law_33 (by rw [c_22]; decide) (by rw [c_22]; decide) (by rw [c_22]; rfl) (by decide) ?_
        exact lc_sheet C hX hbl _ x3 h0 h1 h2 h3 h4 h5 hk σ μ H locs ls h hI hl
      by_cases c_23 : v9 = 23
      · refine lv_tableIn (off := 863) (tgt := 896) hx hb dL_law_33 (by rw [c_23]; decide) (by rw [c_23]; decide) (by rw [c_23]; rfl) (by decide) ?_
        exact lc_lose C hX hbl _ x3 h0 h1 h2 h3 h4 h5 hk σ μ H locs ls h hI hl
      by_cases c_24 : v9 = 24
      · refine lv_tableIn (off := 886) (tgt := 919) hx hb dL_law_33 (by rw [c_24]; decide) (by rw [c_24]; decide) (by rw [c_24]; rfl) (by decide) ?_
        exact lc_put C hX hbl _ x3 h0 h1 h2 h3 h4 h5 hk σ μ H locs ls h hI hl
      by_cases c_25 : v9 = 25
      · refine lv_tableIn (off := 929) (tgt := 962) hx hb dL_law_33 (by rw [c_25]; decide) (by rw [c_25]; decide) (by rw [c_25]; rfl) (by decide) ?_
        exact lc_cell C hX hbl _ x3 h0 h1 h2 h3 h4 h5 hk σ μ H locs ls h hI hl
      by_cases c_26 : v9 = 26
      · refine lv_tableIn (off := 973) (tgt := 1006) hx hb dL_law_33 (by rw [c_26]; decide) (by rw [c_26]; decide) (by rw [c_26]; rfl) (by decide) ?_
        exact lc_copy C hX hbl _ x3 h0 h1 h2 h3 h4 h5 hk σ μ H locs ls h hI hl
      by_cases c_27 : v9 = 27
      · refine lv_tableIn (off := 1036) (tgt := 1069) hx hb dL_law_33 (by rw [c_27]; decide) (by rw [c_27]; decide) (by rw [c_27]; rfl) (by decide) ?_
        exact lc_tell C hX hbl _ x3 h0 h1 h2 h3 h4 h5 hk σ μ H locs ls h hI hl
      by_cases c_28 : v9 = 28
      · refine lv_tableIn (off := 1059) (tgt := 1092) hx hb dL_law_33 (by rw [c_28]; decide) (by rw [c_28]; decide) (by rw [c_28]; rfl) (by decide) ?_
        exact lc_rattle C hX hbl _ x3 h0 h1 h2 h3 h4 h5 hk σ μ H locs ls h hI hl
      by_cases c_29 : v9 = 29
      · refine lv_tableIn (off := 1082) (tgt := 1115) hx hb dL_law_33 (by rw [c_29]; decide) (by rw [c_29]; decide) (by rw [c_29]; rfl) (by decide) ?_
        exact lc_as C hX hbl _ x3 h0 h1 h2 h3 h4 h5 hk σ μ H locs ls h hI hl
      by_cases c_30 : v9 = 30
      · refine lv_tableIn (off := 1115) (tgt := 1148) hx hb dL_law_33 (by rw [c_30]; decide) (by rw [c_30]; decide) (by rw [c_30]; rfl) (by decide) ?_
        exact lc_trace C hX hbl _ x3 h0 h1 h2 h3 h4 h5 hk σ μ H locs ls h hI hl
      by_cases c_31 : v9 = 31
      · refine lv_tableIn (off := 1128) (tgt := 1161) hx hb dL_law_33 (by rw [c_31]; decide) (by rw [c_31]; decide) (by rw [c_31]; rfl) (by decide) ?_
        exact lc_fault C hX hbl _ x3 h0 h1 h2 h3 h4 h5 hk σ μ H locs ls h hI hl
      by_cases c_32 : v9 = 32
      · refine lv_tableIn (off := 1141) (tgt := 1174) hx hb dL_law_33 (by rw [c_32]; decide) (by rw [c_32]; decide) (by rw [c_32]; rfl) (by decide) ?_
        exact lc_many C hX hbl _ x3 h0 h1 h2 h3 h4 h5 hk σ μ H locs ls h hI hl
      have e_0 : ¬ v9.toInt = 0 := sw_ne c_0
      have e_1 : ¬ v9.toInt = 1 := sw_ne c_1
      have e_2 : ¬ v9.toInt = 2 := sw_ne c_2
      have e_3 : ¬ v9.toInt = 3 := sw_ne c_3
      have e_4 : ¬ v9.toInt = 4 := sw_ne c_4
      have e_5 : ¬ v9.toInt = 5 := sw_ne c_5
      have e_6 : ¬ v9.toInt = 6 := sw_ne c_6
      have e_7 : ¬ v9.toInt = 7 := sw_ne c_7
      have e_8 : ¬ v9.toInt = 8 := sw_ne c_8
      have e_9 : ¬ v9.toInt = 9 := sw_ne c_9
      have e_10 : ¬ v9.toInt = 10 := sw_ne c_10
      have e_11 : ¬ v9.toInt = 11 := sw_ne c_11
      have e_12 : ¬ v9.toInt = 12 := sw_ne c_12
      have e_13 : ¬ v9.toInt = 13 := sw_ne c_13
      have e_14 : ¬ v9.toInt = 14 := sw_ne c_14
      have e_15 : ¬ v9.toInt = 15 := sw_ne c_15
      have e_16 : ¬ v9.toInt = 16 := sw_ne c_16
      have e_17 : ¬ v9.toInt = 17 := sw_ne c_17
      have e_18 : ¬ v9.toInt = 18 := sw_ne c_18
      have e_19 : ¬ v9.toInt = 19 := sw_ne c_19
      have e_20 : ¬ v9.toInt = 20 := sw_ne c_20
      have e_21 : ¬ v9.toInt = 21 := sw_ne c_21
      have e_22 : ¬ v9.toInt = 22 := sw_ne c_22
      have e_23 : ¬ v9.toInt = 23 := sw_ne c_23
      have e_24 : ¬ v9.toInt = 24 := sw_ne c_24
      have e_25 : ¬ v9.toInt = 25 := sw_ne c_25
      have e_26 : ¬ v9.toInt = 26 := sw_ne c_26
      have e_27 : ¬ v9.toInt = 27 := sw_ne c_27
      have e_28 : ¬ v9.toInt = 28 := sw_ne c_28
      have e_29 : ¬ v9.toInt = 29 := sw_ne c_29
      have e_30 : ¬ v9.toInt = 30 := sw_ne c_30
      have e_31 : ¬ v9.toInt = 31 := sw_ne c_31
      have e_32 : ¬ v9.toInt = 32 := sw_ne c_32
      refine lv_tableOut (tgt := 1197) hx hb dL_law_33 (by omega) (by decide) ?_
      exact hk σ μ H locs ls h hI hl
