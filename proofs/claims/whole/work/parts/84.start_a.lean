set_option maxHeartbeats 4000000 in
set_option maxRecDepth 100000 in
theorem ns_start {s : State} {b : Nat} (hts : ∀ w ∈ lw_tbl, w.before #[Value.ref b] s = true) : Ns s := by
  constructor
  · intro q hq
    rcases (by simpa [nestL] using hq : q = ("ButtonMatch", 53, "ButtonMatch$Readings", "count", "I") ∨ q = ("ButtonMatch", 56, "ButtonMatch$Shop", "tubeCount", "I") ∨ q = ("ButtonMatch", 71, "ButtonMatch$Shop", "seen", "[I") ∨ q = ("ButtonMatch", 78, "ButtonMatch$Shop", "tubes", "[LButtonMatch$Tube;") ∨ q = ("ButtonMatch", 87, "ButtonMatch$Shop", "redder", "I") ∨ q = ("ButtonMatch", 90, "ButtonMatch$Shop", "larger", "I") ∨ q = ("ButtonMatch", 97, "ButtonMatch$Shop", "near", "I") ∨ q = ("ButtonMatch", 100, "ButtonMatch$Tube", "count", "I") ∨ q = ("ButtonMatch", 115, "ButtonMatch$Sheet", "cells", "[I") ∨ q = ("ButtonMatch", 165, "ButtonMatch$Tube", "kind", "I") ∨ q = ("ButtonMatch", 168, "ButtonMatch$Tube", "colour", "I") ∨ q = ("ButtonMatch", 204, "ButtonMatch$Sheet", "lane", "I") ∨ q = ("ButtonMatch", 233, "ButtonMatch$Tube", "pence", "I") ∨ q = ("ButtonMatch$Shop", 95, "ButtonMatch$Tube", "holes", "I") ∨ q = ("ButtonMatch$Shop", 111, "ButtonMatch", "SIGN_ORDERS", "[I") ∨ q = ("ButtonMatch$Shop", 118, "ButtonMatch$Tube", "pence", "I") ∨ q = ("ButtonMatch$Shop", 121, "ButtonMatch$Tube", "count", "I")) with rfl | rfl | rfl | rfl | rfl | rfl | rfl | rfl | rfl | rfl | rfl | rfl | rfl | rfl | rfl | rfl | rfl
    · exact va_Nw.of rfl (hts (.fieldLinkNest "ButtonMatch" 53 "ButtonMatch$Readings" "count" "I" "ButtonMatch") (by decide +kernel))
    · exact va_Nw.of rfl (hts (.fieldLinkNest "ButtonMatch" 56 "ButtonMatch$Shop" "tubeCount" "I" "ButtonMatch") (by decide +kernel))
    · exact va_Nw.of rfl (hts (.fieldLinkNest "ButtonMatch" 71 "ButtonMatch$Shop" "seen" "[I" "ButtonMatch") (by decide +kernel))
    · exact va_Nw.of rfl (hts (.fieldLinkNest "ButtonMatch" 78 "ButtonMatch$Shop" "tubes" "[LButtonMatch$Tube;" "ButtonMatch") (by decide +kernel))
    · exact va_Nw.of rfl (hts (.fieldLinkNest "ButtonMatch" 87 "ButtonMatch$Shop" "redder" "I" "ButtonMatch") (by decide +kernel))
    · exact va_Nw.of rfl (hts (.fieldLinkNest "ButtonMatch" 90 "ButtonMatch$Shop" "larger" "I" "ButtonMatch") (by decide +kernel))
    · exact va_Nw.of rfl (hts (.fieldLinkNest "ButtonMatch" 97 "ButtonMatch$Shop" "near" "I" "ButtonMatch") (by decide +kernel))
    · exact va_Nw.of rfl (hts (.fieldLinkNest "ButtonMatch" 100 "ButtonMatch$Tube" "count" "I" "ButtonMatch") (by decide +kernel))
    · exact va_Nw.of rfl (hts (.fieldLinkNest "ButtonMatch" 115 "ButtonMatch$Sheet" "cells" "[I" "ButtonMatch") (by decide +kernel))
    · exact va_Nw.of rfl (hts (.fieldLinkNest "ButtonMatch" 165 "ButtonMatch$Tube" "kind" "I" "ButtonMatch") (by decide +kernel))
    · exact va_Nw.of rfl (hts (.fieldLinkNest "ButtonMatch" 168 "ButtonMatch$Tube" "colour" "I" "ButtonMatch") (by decide +kernel))
    · exact va_Nw.of rfl (hts (.fieldLinkNest "ButtonMatch" 204 "ButtonMatch$Sheet" "lane" "I" "ButtonMatch") (by decide +kernel))
    · exact va_Nw.of rfl (hts (.fieldLinkNest "ButtonMatch" 233 "ButtonMatch$Tube" "pence" "I" "ButtonMatch") (by decide +kernel))
    · exact va_Nw.of rfl (hts (.fieldLinkNest "ButtonMatch$Shop" 95 "ButtonMatch$Tube" "holes" "I" "ButtonMatch") (by decide +kernel))
    · exact va_Nw.of rfl (hts (.fieldLinkNest "ButtonMatch$Shop" 111 "ButtonMatch" "SIGN_ORDERS" "[I" "ButtonMatch") (by decide +kernel))
    · exact va_Nw.of rfl (hts (.fieldLinkNest "ButtonMatch$Shop" 118 "ButtonMatch$Tube" "pence" "I" "ButtonMatch") (by decide +kernel))
    · exact va_Nw.of rfl (hts (.fieldLinkNest "ButtonMatch$Shop" 121 "ButtonMatch$Tube" "count" "I" "ButtonMatch") (by decide +kernel))
  · intro q hq
    rcases (by simpa [nestM] using hq : q = ("ButtonMatch", 19, ⟨"ButtonMatch$Shop", "<init>", "()V"⟩) ∨ q = ("ButtonMatch", 26, ⟨"ButtonMatch$Readings", "<init>", "()V"⟩) ∨ q = ("ButtonMatch", 38, ⟨"ButtonMatch$Sheet", "<init>", "()V"⟩) ∨ q = ("ButtonMatch$Shop", 25, ⟨"ButtonMatch$Tube", "<init>", "()V"⟩)) with rfl | rfl | rfl | rfl
    · exact va_Nw.of rfl (hts (.methodLinkNest "ButtonMatch" 19 ⟨"ButtonMatch$Shop", "<init>", "()V"⟩ "ButtonMatch") (by decide +kernel))
    · exact va_Nw.of rfl (hts (.methodLinkNest "ButtonMatch" 26 ⟨"ButtonMatch$Readings", "<init>", "()V"⟩ "ButtonMatch") (by decide +kernel))
    · exact va_Nw.of rfl (hts (.methodLinkNest "ButtonMatch" 38 ⟨"ButtonMatch$Sheet", "<init>", "()V"⟩ "ButtonMatch") (by decide +kernel))
    · exact va_Nw.of rfl (hts (.methodLinkNest "ButtonMatch$Shop" 25 ⟨"ButtonMatch$Tube", "<init>", "()V"⟩ "ButtonMatch") (by decide +kernel))
set_option maxHeartbeats 4000000 in
set_option maxRecDepth 100000 in
theorem zs_start {s : State} {b : Nat} (hts : ∀ w ∈ lw_tbl, w.before #[Value.ref b] s = true) (hgv : (Jvm.Cond.and given_1 narrow_1).before #[Value.ref b] s = true) : ∃ ζ : Nat → Nat, Zs ζ (fun q : Nat => s.heap.size ≤ q) s s.heap := by
  have hs := flat_of_before _ hgv
  have hA : ∀ a : Nat, a < s.heap.size → ¬ (fun q : Nat => s.heap.size ≤ q) a := fun a h => Nat.not_le.mpr h
  obtain ⟨t, ht, hT⟩ := va_Tof (tm := .static "ButtonMatch" "SIGN_ORDERS" "[I") (ty := .int) (N := 18) (f := fun j => .int (soT j)) (A := fun q : Nat => s.heap.size ≤ q) (by decide) (hs _ (by decide +kernel)) (va_eqt (hs (.eq (.length (.static "ButtonMatch" "SIGN_ORDERS" "[I")) (.int 18)) (by decide +kernel))) (by
    intro j hj
    match j, hj with
    | 0, _ => exact va_eqt (hs (.eq (.elem (.static "ButtonMatch" "SIGN_ORDERS" "[I") (.int 0)) (.int 0)) (by decide +kernel))
    | 1, _ => exact va_eqt (hs (.eq (.elem (.static "ButtonMatch" "SIGN_ORDERS" "[I") (.int 1)) (.int 1)) (by decide +kernel))
    | 2, _ => exact va_eqt (hs (.eq (.elem (.static "ButtonMatch" "SIGN_ORDERS" "[I") (.int 2)) (.int 2)) (by decide +kernel))
    | 3, _ => exact va_eqt (hs (.eq (.elem (.static "ButtonMatch" "SIGN_ORDERS" "[I") (.int 3)) (.int 0)) (by decide +kernel))
    | 4, _ => exact va_eqt (hs (.eq (.elem (.static "ButtonMatch" "SIGN_ORDERS" "[I") (.int 4)) (.int 2)) (by decide +kernel))
    | 5, _ => exact va_eqt (hs (.eq (.elem (.static "ButtonMatch" "SIGN_ORDERS" "[I") (.int 5)) (.int 1)) (by decide +kernel))
    | 6, _ => exact va_eqt (hs (.eq (.elem (.static "ButtonMatch" "SIGN_ORDERS" "[I") (.int 6)) (.int 1)) (by decide +kernel))
    | 7, _ => exact va_eqt (hs (.eq (.elem (.static "ButtonMatch" "SIGN_ORDERS" "[I") (.int 7)) (.int 0)) (by decide +kernel))
    | 8, _ => exact va_eqt (hs (.eq (.elem (.static "ButtonMatch" "SIGN_ORDERS" "[I") (.int 8)) (.int 2)) (by decide +kernel))
    | 9, _ => exact va_eqt (hs (.eq (.elem (.static "ButtonMatch" "SIGN_ORDERS" "[I") (.int 9)) (.int 1)) (by decide +kernel))
    | 10, _ => exact va_eqt (hs (.eq (.elem (.static "ButtonMatch" "SIGN_ORDERS" "[I") (.int 10)) (.int 2)) (by decide +kernel))
    | 11, _ => exact va_eqt (hs (.eq (.elem (.static "ButtonMatch" "SIGN_ORDERS" "[I") (.int 11)) (.int 0)) (by decide +kernel))
    | 12, _ => exact va_eqt (hs (.eq (.elem (.static "ButtonMatch" "SIGN_ORDERS" "[I") (.int 12)) (.int 2)) (by decide +kernel))
    | 13, _ => exact va_eqt (hs (.eq (.elem (.static "ButtonMatch" "SIGN_ORDERS" "[I") (.int 13)) (.int 0)) (by decide +kernel))
    | 14, _ => exact va_eqt (hs (.eq (.elem (.static "ButtonMatch" "SIGN_ORDERS" "[I") (.int 14)) (.int 1)) (by decide +kernel))
    | 15, _ => exact va_eqt (hs (.eq (.elem (.static "ButtonMatch" "SIGN_ORDERS" "[I") (.int 15)) (.int 2)) (by decide +kernel))
    | 16, _ => exact va_eqt (hs (.eq (.elem (.static "ButtonMatch" "SIGN_ORDERS" "[I") (.int 16)) (.int 1)) (by decide +kernel))
    | 17, _ => exact va_eqt (hs (.eq (.elem (.static "ButtonMatch" "SIGN_ORDERS" "[I") (.int 17)) (.int 0)) (by decide +kernel))
    | k + 18, h => exact absurd h (by omega)) hA
  obtain ⟨adK, adV, hV, hE⟩ := vk_Sof (args := #[Value.ref b]) (s := s) (N := 2) (tm := fun i => .string "ButtonMatch$Text" (if i = 0 then 25 else 37)) (len := [11, 7]) (byt := stB) (A := fun q : Nat => s.heap.size ≤ q) (by
    intro i hi
    match i, hi with
    | 0, _ => decide
    | 1, _ => decide) (by
    intro i hi
    match i, hi with
    | 0, _ => exact hs (.exactly (.string "ButtonMatch$Text" 25) "java/lang/String") (by decide +kernel)
    | 1, _ => exact hs (.exactly (.string "ButtonMatch$Text" 37) "java/lang/String") (by decide +kernel)) (by
    intro i hi
    match i, hi with
    | 0, _ => exact hs (.eq (.field (.string "ButtonMatch$Text" 25) "java/lang/String" "coder" "B") (.int 0)) (by decide +kernel)
    | 1, _ => exact hs (.eq (.field (.string "ButtonMatch$Text" 37) "java/lang/String" "coder" "B") (.int 0)) (by decide +kernel)) (by
    intro i hi
    match i, hi with
    | 0, _ => exact hs (.arrayOf (.field (.string "ButtonMatch$Text" 25) "java/lang/String" "value" "[B") .byte) (by decide +kernel)
    | 1, _ => exact hs (.arrayOf (.field (.string "ButtonMatch$Text" 37) "java/lang/String" "value" "[B") .byte) (by decide +kernel)) (by
    intro i hi
    match i, hi with
    | 0, _ => exact hs (.eq (.length (.field (.string "ButtonMatch$Text" 25) "java/lang/String" "value" "[B")) (.int 11)) (by decide +kernel)
    | 1, _ => exact hs (.eq (.length (.field (.string "ButtonMatch$Text" 37) "java/lang/String" "value" "[B")) (.int 7)) (by decide +kernel)) (by
    intro i hi
    match i, hi with
    | 0, _ =>
      intro j hj
      match j, hj with
      | 0, _ => exact hs (.eq (.elem (.field (.string "ButtonMatch$Text" 25) "java/lang/String" "value" "[B") (.int 0)) (.int 98)) (by decide +kernel)
      | 1, _ => exact hs (.eq (.elem (.field (.string "ButtonMatch$Text" 25) "java/lang/String" "value" "[B") (.int 1)) (.int 99)) (by decide +kernel)
      | 2, _ => exact hs (.eq (.elem (.field (.string "ButtonMatch$Text" 25) "java/lang/String" "value" "[B") (.int 2)) (.int 100)) (by decide +kernel)
      | 3, _ => exact hs (.eq (.elem (.field (.string "ButtonMatch$Text" 25) "java/lang/String" "value" "[B") (.int 3)) (.int 104)) (by decide +kernel)
      | 4, _ => exact hs (.eq (.elem (.field (.string "ButtonMatch$Text" 25) "java/lang/String" "value" "[B") (.int 4)) (.int 100)) (by decide +kernel)
      | 5, _ => exact hs (.eq (.elem (.field (.string "ButtonMatch$Text" 25) "java/lang/String" "value" "[B") (.int 5)) (.int 100)) (by decide +kernel)
      | 6, _ => exact hs (.eq (.elem (.field (.string "ButtonMatch$Text" 25) "java/lang/String" "value" "[B") (.int 6)) (.int 100)) (by decide +kernel)
      | 7, _ => exact hs (.eq (.elem (.field (.string "ButtonMatch$Text" 25) "java/lang/String" "value" "[B") (.int 7)) (.int 100)) (by decide +kernel)
      | 8, _ => exact hs (.eq (.elem (.field (.string "ButtonMatch$Text" 25) "java/lang/String" "value" "[B") (.int 8)) (.int 100)) (by decide +kernel)
      | 9, _ => exact hs (.eq (.elem (.field (.string "ButtonMatch$Text" 25) "java/lang/String" "value" "[B") (.int 9)) (.int 100)) (by decide +kernel)
      | 10, _ => exact hs (.eq (.elem (.field (.string "ButtonMatch$Text" 25) "java/lang/String" "value" "[B") (.int 10)) (.int 100)) (by decide +kernel)
      | k + 11, h => exact absurd h (by simp)
    | 1, _ =>
      intro j hj
      match j, hj with
      | 0, _ => exact hs (.eq (.elem (.field (.string "ButtonMatch$Text" 37) "java/lang/String" "value" "[B") (.int 0)) (.int 59)) (by decide +kernel)
      | 1, _ => exact hs (.eq (.elem (.field (.string "ButtonMatch$Text" 37) "java/lang/String" "value" "[B") (.int 1)) (.int 107)) (by decide +kernel)
      | 2, _ => exact hs (.eq (.elem (.field (.string "ButtonMatch$Text" 37) "java/lang/String" "value" "[B") (.int 2)) (.int 99)) (by decide +kernel)
      | 3, _ => exact hs (.eq (.elem (.field (.string "ButtonMatch$Text" 37) "java/lang/String" "value" "[B") (.int 3)) (.int 100)) (by decide +kernel)
      | 4, _ => exact hs (.eq (.elem (.field (.string "ButtonMatch$Text" 37) "java/lang/String" "value" "[B") (.int 4)) (.int 104)) (by decide +kernel)
      | 5, _ => exact hs (.eq (.elem (.field (.string "ButtonMatch$Text" 37) "java/lang/String" "value" "[B") (.int 5)) (.int 100)) (by decide +kernel)
      | 6, _ => exact hs (.eq (.elem (.field (.string "ButtonMatch$Text" 37) "java/lang/String" "value" "[B") (.int 6)) (.int 100)) (by decide +kernel)
      | k + 7, h => exact absurd h (by simp)) (by
    intro i j hi hj hij
    match i, j, hi, hj with
    | 0, 0, _, _ => exact absurd rfl hij
    | 1, 1, _, _ => exact absurd rfl hij
    | 0, 1, _, _ => exact Or.inl (hs (.not (.eq (.string "ButtonMatch$Text" 25) (.string "ButtonMatch$Text" 37))) (by decide +kernel))
    | 1, 0, _, _ => exact Or.inr (hs (.not (.eq (.string "ButtonMatch$Text" 25) (.string "ButtonMatch$Text" 37))) (by decide +kernel))) hA
  refine ⟨fun k => if k = 0 then t else if k = 1 then adK 0 else if k = 2 then adK 1 else if k = 3 then adV 0 else adV 1, ?_⟩
  refine ⟨va_Zref (hts (.laysStatic "ButtonMatch" "SIGN_ORDERS" "[I") (by decide +kernel)) (hts (.initialized "ButtonMatch") (by decide +kernel)) ht hA, hT, va_Zof (hts (.laysStatic "java/lang/String" "COMPACT_STRINGS" "Z") (by decide +kernel)) (hts (.initialized "java/lang/String") (by decide +kernel)) (va_eqt (hs (.eq (.static "java/lang/String" "COMPACT_STRINGS" "Z") (.int 1)) (by decide +kernel))) hA, va_Zqof (hts (.laysStatic "jdk/internal/util/Preconditions" "SIOOBE_FORMATTER" "Ljava/util/function/BiFunction;") (by decide +kernel)) (hts (.initialized "jdk/internal/util/Preconditions") (by decide +kernel)) (hs (.isRef (.static "jdk/internal/util/Preconditions" "SIOOBE_FORMATTER" "Ljava/util/function/BiFunction;")) (by decide +kernel)) hA, ?_, ?_, ?_, ns_start hts⟩
  · exact vk_R.of (hts (.stringRef "ButtonMatch$Text" 25 "bcdhddddddd") (by decide +kernel)) (hE 0 (by decide))
  · exact vk_R.of (hts (.stringRef "ButtonMatch$Text" 37 ";kcdhdd") (by decide +kernel)) (hE 1 (by decide))
  · refine ⟨fun i hi => ?_, fun i j hi hj e => ?_⟩
    · match i, hi with
      | 0, _ => exact hV.1 0 (by decide)
      | 1, _ => exact hV.1 1 (by decide)
    · match i, j, hi, hj with
      | 0, 0, _, _ => rfl
      | 1, 1, _, _ => rfl
      | 0, 1, _, _ => exact hV.2 0 1 (by decide) (by decide) e
      | 1, 0, _, _ => exact hV.2 1 0 (by decide) (by decide) e
theorem wsX_ad {κ : Kp} {ad : Nat → Nat} {σ : Sg} : ∀ (k : Nat) (q : Nat × va_E), (wsX κ ad σ)[k]? = some q → k < 22 ∧ q.1 = ad k := by
  intro k q h
  match k, h with
  | 0, h => cases h; exact ⟨by decide, rfl⟩
  | 1, h => cases h; exact ⟨by decide, rfl⟩
  | 2, h => cases h; exact ⟨by decide, rfl⟩
  | 3, h => cases h; exact ⟨by decide, rfl⟩
  | 4, h => cases h; exact ⟨by decide, rfl⟩
  | 5, h => cases h; exact ⟨by decide, rfl⟩
  | 6, h => cases h; exact ⟨by decide, rfl⟩
  | 7, h => cases h; exact ⟨by decide, rfl⟩
  | 8, h => cases h; exact ⟨by decide, rfl⟩
  | 9, h => cases h; exact ⟨by decide, rfl⟩
  | 10, h => cases h; exact ⟨by decide, rfl⟩
  | 11, h => cases h; exact ⟨by decide, rfl⟩
  | 12, h => cases h; exact ⟨by decide, rfl⟩
  | 13, h => cases h; exact ⟨by decide, rfl⟩
  | 14, h => cases h; exact ⟨by decide, rfl⟩
  | 15, h => cases h; exact ⟨by decide, rfl⟩
  | 16, h => cases h; exact ⟨by decide, rfl⟩
  | 17, h => cases h; exact ⟨by decide, rfl⟩
  | 18, h => cases h; exact ⟨by decide, rfl⟩
  | 19, h => cases h; exact ⟨by decide, rfl⟩
  | 20, h => cases h; exact ⟨by decide, rfl⟩
  | 21, h => cases h; exact ⟨by decide, rfl⟩
  | k + 22, h => cases h
theorem wsM_ad {κ : Kp} {ad : Nat → Nat} {σ : Sg} : ∀ (k : Nat) (q : Nat × va_E), (wsM κ ad σ)[k]? = some q → k < 18 ∧ q.1 = ad k := by
  intro k q h
  match k, h with
  | 0, h => cases h; exact ⟨by decide, rfl⟩
  | 1, h => cases h; exact ⟨by decide, rfl⟩
  | 2, h => cases h; exact ⟨by decide, rfl⟩
  | 3, h => cases h; exact ⟨by decide, rfl⟩
  | 4, h => cases h; exact ⟨by decide, rfl⟩
  | 5, h => cases h; exact ⟨by decide, rfl⟩
  | 6, h => cases h; exact ⟨by decide, rfl⟩
  | 7, h => cases h; exact ⟨by decide, rfl⟩
  | 8, h => cases h; exact ⟨by decide, rfl⟩
  | 9, h => cases h; exact ⟨by decide, rfl⟩
  | 10, h => cases h; exact ⟨by decide, rfl⟩
  | 11, h => cases h; exact ⟨by decide, rfl⟩
  | 12, h => cases h; exact ⟨by decide, rfl⟩
  | 13, h => cases h; exact ⟨by decide, rfl⟩
  | 14, h => cases h; exact ⟨by decide, rfl⟩
  | 15, h => cases h; exact ⟨by decide, rfl⟩
  | 16, h => cases h; exact ⟨by decide, rfl⟩
  | 17, h => cases h; exact ⟨by decide, rfl⟩
  | k + 18, h => cases h
