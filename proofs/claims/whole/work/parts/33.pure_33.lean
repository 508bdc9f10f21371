section PUT3
variable {σ μ : Sg}
/-! how a TUBE looks, how far it is, whether it is alike -/
theorem fin_lt {P : Nat → Prop} [DecidablePred P] {N : Nat} (h : (List.range N).all (fun i => decide (P i)) = true) {i : Nat} (hi : i < N) : P i := co_dec h hi
theorem lkC (hI : Inv σ μ) {t : Nat} (ht : t < 6) : fX7_looksColour (nI t) μ = some (fX5_looksColour t σ) ∧ rg (fX5_looksColour t σ) 7 := by
  have hT := hI.tube ht
  obtain ⟨c, hc, ec⟩ := hT.2.1.2
  unfold fX7_looksColour fX7_looksColour_27 fX5_looksColour
  rw [if_pos (gIn_nI ht (by decide))]
  simp only [nI_clamp (show t < 2 ^ 31 by omega)]
  rw [hT.1.1, hT.2.1.1, ec]
  by_cases hk : μ 5 t = 1
  · rw [if_pos hk, if_pos hk]
    exact ⟨fin_lt (P := fun c => (if nI c + 1 ≤ 7 then some (nI c + 1) else some 7) = some (if nI c + 1 < 7 then nI c + 1 else 7)) (N := 8) (by decide +kernel) (by omega), by
      have := fin_lt (P := fun c => ∃ k : Fin 8, (if nI c + 1 < 7 then nI c + 1 else 7) = nI k.val) (N := 8) (by decide +kernel) (i := c) (by omega)
      obtain ⟨k, e⟩ := this
      exact ⟨k.val, by omega, e⟩⟩
  · rw [if_neg hk, if_neg hk]
    exact ⟨fin_lt (P := fun c => (if nI c ≤ 7 then some (nI c) else some 7) = some (nI c)) (N := 8) (by decide +kernel) (by omega), c, hc, rfl⟩
theorem lkS (hI : Inv σ μ) {t : Nat} (ht : t < 6) : fX7_looksSize (nI t) μ = some (fX5_looksSize t σ) ∧ rg (fX5_looksSize t σ) 9 := by
  have hT := hI.tube ht
  obtain ⟨c, hc, ec⟩ := hT.2.2.1.2
  unfold fX7_looksSize fX5_looksSize
  rw [if_pos (gIn_nI ht (by decide))]
  simp only [nI_clamp (show t < 2 ^ 31 by omega)]
  rw [hT.1.1, hT.2.2.1.1, ec]
  by_cases hk : μ 5 t = 2
  · rw [if_pos hk, if_pos hk]
    exact ⟨fin_lt (P := fun c => (if nI c ≤ 0 then some (nI c) else some (nI c - 1)) = some (if 0 < nI c - 1 then nI c - 1 else 0)) (N := 10) (by decide +kernel) (by omega), by
      have := fin_lt (P := fun c => ∃ k : Fin 10, (if 0 < nI c - 1 then nI c - 1 else 0) = nI k.val) (N := 10) (by decide +kernel) (i := c) (by omega)
      obtain ⟨k, e⟩ := this
      exact ⟨k.val, by omega, e⟩⟩
  · rw [if_neg hk, if_neg hk]
    exact ⟨rfl, c, hc, rfl⟩
theorem remC (hI : Inv σ μ) : fX2_rememberedColour σ = fX7_rememberedColour μ ∧ rg (fX7_rememberedColour μ) 7 := by
  obtain ⟨a, ha, ea⟩ := hI.colourr
  obtain ⟨b, hb, eb⟩ := hI.redderr
  unfold fX2_rememberedColour fX7_rememberedColour
  rw [hI.colour, hI.redder, ea, eb]
  have := fin_lt (P := fun a => ∀ b : Fin 4, (if nI a + nI b.val < 7 then nI a + nI b.val else 7) = (if nI a + nI b.val ≤ 7 then nI a + nI b.val else 7) ∧ ∃ k : Fin 8, (if nI a + nI b.val ≤ 7 then nI a + nI b.val else 7) = nI k.val) (N := 8) (by decide +kernel) (i := a) (by omega)
  obtain ⟨h1, k, h2⟩ := this ⟨b, by omega⟩
  exact ⟨h1, k.val, by omega, h2⟩
theorem remS (hI : Inv σ μ) : fX2_rememberedSize σ = fX7_rememberedSize μ ∧ rg (fX7_rememberedSize μ) 9 := by
  obtain ⟨a, ha, ea⟩ := hI.sizer
  obtain ⟨b, hb, eb⟩ := hI.largerr
  unfold fX2_rememberedSize fX7_rememberedSize
  rw [hI.size, hI.larger, ea, eb]
  have := fin_lt (P := fun a => ∀ b : Fin 4, (if nI a + nI b.val < 9 then nI a + nI b.val else 9) = (if nI a + nI b.val ≤ 9 then nI a + nI b.val else 9) ∧ ∃ k : Fin 10, (if nI a + nI b.val ≤ 9 then nI a + nI b.val else 9) = nI k.val) (N := 10) (by decide +kernel) (i := a) (by omega)
  obtain ⟨h1, k, h2⟩ := this ⟨b, by omega⟩
  exact ⟨h1, k.val, by omega, h2⟩
theorem absd {a b : Int32} (ha : rg a 9) (hb : rg b 9) (ν : Sg) : (if 0 ≤ (a - b) then (a - b) else 0 - (a - b)) = fX7_apart a b ν ∧ rg (fX7_apart a b ν) 9 := by
  obtain ⟨i, hi, rfl⟩ := ha
  obtain ⟨j, hj, rfl⟩ := hb
  unfold fX7_apart
  have := fin_lt (P := fun a => ∀ b : Fin 10, (if 0 ≤ (nI a - nI b.val) then (nI a - nI b.val) else 0 - (nI a - nI b.val)) = (if nI a ≤ nI b.val then (nI b.val - nI a) else (nI a - nI b.val)) ∧ ∃ k : Fin 10, (if nI a ≤ nI b.val then (nI b.val - nI a) else (nI a - nI b.val)) = nI k.val) (N := 10) (by decide +kernel) (i := i) (by omega)
  obtain ⟨h1, k, h2⟩ := this ⟨j, by omega⟩
  exact ⟨h1, k.val, by omega, h2⟩
theorem rg.mono {x : Int32} {n m : Nat} (h : rg x n) (hm : n ≤ m) : rg x m := by
  obtain ⟨k, hk, e⟩ := h
  exact ⟨k, by omega, e⟩
theorem rg.add {x y : Int32} {n m : Nat} (h : rg x n) (h2 : rg y m) : rg (x + y) (n + m) := by
  obtain ⟨k, hk, rfl⟩ := h
  obtain ⟨j, hj, rfl⟩ := h2
  exact ⟨k + j, by omega, nI_add k j⟩
theorem farE (hI : Inv σ μ) {t : Nat} (ht : t < 6) {a b : Int32} (ha : rg a 9) (hb : rg b 9) : fX7_farFrom (nI t) a b μ = some (fX5_farFrom t a b (σ 10 5) σ) ∧ rg (fX5_farFrom t a b (σ 10 5) σ) 20 := by
  obtain ⟨c1, c2⟩ := lkC hI ht
  obtain ⟨s1, s2⟩ := lkS hI ht
  have hT := hI.tube ht
  obtain ⟨d1, d2⟩ := absd (c2.mono (by decide)) ha μ
  obtain ⟨d3, d4⟩ := absd s2 hb μ
  unfold fX7_farFrom fX5_farFrom lt
  rw [c1, s1]
  simp only [Option.bind_some]
  rw [if_pos (gIn_nI ht (by decide))]
  simp only [nI_clamp (show t < 2 ^ 31 by omega)]
  rw [d1, d3, hT.2.2.2.1.1, hI.holes]
  have hr := (d2.add d4)
  by_cases hk : μ 8 t = μ 0 7
  · rw [if_pos hk, if_pos hk, Int32.add_zero]
    exact ⟨rfl, hr.mono (by decide)⟩
  · rw [if_neg hk, if_neg hk]
    exact ⟨rfl, (hr.add (m := 2) ⟨2, by omega, rfl⟩).mono (by decide)⟩
theorem farR (hI : Inv σ μ) {t N : Nat} (ht : t < N) (hN : N ≤ 6) (en : μ 0 10 = nI N) : ∃ r, fX2_farFromRemembered (nI t) σ = some r ∧ fX7_farOf (nI t) μ = some r ∧ rg r 20 := by
  obtain ⟨f1, f2⟩ := farE hI (t := t) (by omega) ((remC hI).2.mono (by decide)) (remS hI).2
  have hh : fX2_hasTube (nI t) σ = 1 := by
    rcases tube_or hI (nI t) with ⟨a1, a2⟩ | ⟨a1, -⟩
    · unfold fX7_isTube at a2
      rw [if_neg (nI_pos (by omega)), en, if_neg (by rw [nI_leI (by omega) (by omega)]; omega)] at a2
      exact absurd a2 (by decide)
    · exact a1
  refine ⟨_, ?_, ?_, f2⟩
  · unfold fX2_farFromRemembered
    rw [hh, if_pos (gIn_nI (t := t) (n := 6) (by omega) (by decide)), (remC hI).1, (remS hI).1]
    simp only [nI_clamp (show t < 2 ^ 31 by omega)]
    rfl
  · unfold fX7_farOf
    rw [f1]
    rfl
theorem alikeE (hI : Inv σ μ) {t N : Nat} (ht : t < N) (hN : N ≤ 6) (en : μ 0 10 = nI N) : ∃ r, fX2_isAlike (nI t) σ = some r ∧ fX7_isAlike (nI t) μ = some r ∧ (r = 0 ∨ r = 1) := by
  obtain ⟨r, h1, h2, h3⟩ := farR hI ht hN en
  unfold fX2_isAlike fX7_isAlike
  rw [h1, h2, hI.near]
  simp only [Option.bind_some]
  by_cases hc : μ 0 19 < r
  · rw [if_pos hc]; exact ⟨0, rfl, rfl, Or.inl rfl⟩
  · rw [if_neg hc]; exact ⟨1, rfl, rfl, Or.inr rfl⟩
theorem E_far (hI : Inv σ μ) (x1 : Int32) : ∃ (r : Int32), fX6_far x1 σ = some r ∧ fX7_far x1 μ = some r := by
  unfold fX6_far fX7_far
  rcases tube_or hI x1 with ⟨a1, a2⟩ | ⟨a1, a2, t, N, ht, hN, rfl, en⟩
  · rw [a1, a2]
    exact ⟨-1, rfl, rfl⟩
  · rw [a1, a2]
    obtain ⟨r, h1, h2, h3⟩ := farR hI ht hN en
    rw [h1, h2]
    exact ⟨r, rfl, rfl⟩
theorem E_ofTube (hI : Inv σ μ) (x1 : Int32) (x2 : Int32) : ∃ (r : Int32), fX6_ofTube x1 x2 σ = some r ∧ fX7_ofTube x1 x2 μ = some r := by
  unfold fX6_ofTube fX7_ofTube fX5_part
  rcases tube_or hI x1 with ⟨a1, a2⟩ | ⟨a1, a2, t, N, ht, hN, rfl, en⟩
  · rw [a1, a2]
    exact ⟨-1, rfl, rfl⟩
  · have hT := hI.tube (t := t) (by omega)
    have hg := gIn_nI (t := t) (n := 6) (by omega) (by decide)
    rw [a1, a2, (lkC hI (t := t) (by omega)).1, (lkS hI (t := t) (by omega)).1]
    simp only [if_pos hg, nI_clamp (show t < 2 ^ 31 by omega), Option.bind_some, hT.1.1, hT.2.1.1, hT.2.2.1.1, hT.2.2.2.1.1, hT.2.2.2.2.1.1, hT.2.2.2.2.2.1]
    rcases tri x2 8 (by decide) with h | h | ⟨j, hj, rfl⟩
    · refine ⟨-2, ?_, ?_⟩
      all_goals repeat' split
      all_goals (first | rfl | (exfalso; simp only [fa_lt, fa_le, fa_eq, L_m100, L_m10, L_m9, L_m4, L_m3, L_m2, L_m1, L_0, L_1, L_2, L_3, L_4, L_5, L_6, L_7, L_8, L_9, L_10, L_11, L_12, L_13, L_14, L_15, L_16, L_17, L_18, L_19, L_20, L_21, L_48, L_49, L_50, L_51, L_52, L_53, L_54, L_55, L_56, L_57, L_59, L_60, L_63, L_64, L_97, L_98, L_99, L_100, L_104, L_107, L_111, L_115, L_116, L_240] at *; omega) | (exfalso; simp only [fa_lt, fa_le, fa_eq, L_m100, L_m10, L_m9, L_m4, L_m3, L_m2, L_m1, L_0, L_1, L_2, L_3, L_4, L_5, L_6, L_7, L_8, L_9, L_10, L_11, L_12, L_13, L_14, L_15, L_16, L_17, L_18, L_19, L_20, L_21, L_48, L_49, L_50, L_51, L_52, L_53, L_54, L_55, L_56, L_57, L_59, L_60, L_63, L_64, L_97, L_98, L_99, L_100, L_104, L_107, L_111, L_115, L_116, L_240] at *; done) | contradiction)
    · refine ⟨-2, ?_, ?_⟩
      all_goals repeat' split
      all_goals (first | rfl | (exfalso; simp only [fa_lt, fa_le, fa_eq, L_m100, L_m10, L_m9, L_m4, L_m3, L_m2, L_m1, L_0, L_1, L_2, L_3, L_4, L_5, L_6, L_7, L_8, L_9, L_10, L_11, L_12, L_13, L_14, L_15, L_16, L_17, L_18, L_19, L_20, L_21, L_48, L_49, L_50, L_51, L_52, L_53, L_54, L_55, L_56, L_57, L_59, L_60, L_63, L_64, L_97, L_98, L_99, L_100, L_104, L_107, L_111, L_115, L_116, L_240] at *; omega) | (exfalso; simp only [fa_lt, fa_le, fa_eq, L_m100, L_m10, L_m9, L_m4, L_m3, L_m2, L_m1, L_0, L_1, L_2, L_3, L_4, L_5, L_6, L_7, L_8, L_9, L_10, L_11, L_12, L_13, L_14, L_15, L_16, L_17, L_18, L_19, L_20, L_21, L_48, L_49, L_50, L_51, L_52, L_53, L_54, L_55, L_56, L_57, L_59, L_60, L_63, L_64, L_97, L_98, L_99, L_100, L_104, L_107, L_111, L_115, L_116, L_240] at *; done) | contradiction)
    · match j, hj with
      | 0, _ => exact ⟨_, rfl, rfl⟩
      | 1, _ => exact ⟨_, rfl, rfl⟩
      | 2, _ => exact ⟨_, rfl, rfl⟩
      | 3, _ => exact ⟨_, rfl, rfl⟩
      | 4, _ => exact ⟨_, rfl, rfl⟩
      | 5, _ => exact ⟨_, rfl, rfl⟩
      | 6, _ => exact ⟨_, rfl, rfl⟩
      | 7, _ => exact ⟨_, rfl, rfl⟩
end PUT3
