section PUT9
variable {σ μ s u : Sg}
theorem search_in (hI : Inv σ μ) (x1 x2 x3 x4 x5 z : Int32) (hz : z = 0 ∨ z = 1) (hw : (z = 1 ∧ fX7_within x4 0 20 (up2 μ 0 0 0) = 1 ∧ fX7_within x5 0 2 (up2 μ 0 0 0) = 1) ∨ (z = 0 ∧ (fX7_within x4 0 20 (up2 μ 0 0 0) = 0 ∨ (fX7_within x4 0 20 (up2 μ 0 0 0) = 1 ∧ fX7_within x5 0 2 (up2 μ 0 0 0) = 0)))) : ∃ (r : Int32) (τ : Sg) (ν : Sg), fX6_search_28 x1 x2 x3 x4 x5 z σ = some (r, τ) ∧ fX7_search x1 x2 x3 x4 x5 μ = some (r, ν) ∧ Inv τ ν := by
  have hJ := hI.fault 0
  have c1 : μ 0 10 = (up2 μ 0 0 0) 0 10 := by rw [up_nk (by omega)]
  have m0 : ¬ (1 : Int32) = 0 := by decide
  have m1 : ¬ (-1 : Int32) = 0 := by decide
  have m2 : ¬ (-2 : Int32) = 0 := by decide
  have hR := refE hJ x1 x2 x3 x4 z hz
  unfold fX6_search_28 fX7_search fX7_fails
  rw [c1]
  clear c1 hI
  generalize up2 σ 0 4 0 = s at hJ hR ⊢
  generalize up2 μ 0 0 0 = u at hJ hR hw ⊢
  rcases hR with ⟨p1, p2⟩ | ⟨p1, p2, p3⟩ | ⟨p1, p2, p3, p4⟩ | ⟨p1, p2, p3, f, f0, f1, f2, f3⟩ | ⟨p1, p2, p3, f2, f3, k, hk, rfl, hS, i, n, len, rfl, rfl, hn, hl, el⟩
  · simp only [p1, p2, Option.bind_some, if_neg m1, if_true]
    exact ⟨-1, s, u, rfl, rfl, hJ⟩
  · simp only [p1, p2, p3, Option.bind_some, if_neg m2, if_neg m0, if_true]
    exact ⟨-2, s, u, rfl, rfl, hJ⟩
  · rcases hw with ⟨q1, -⟩ | ⟨-, q2 | ⟨q2, q3⟩⟩
    · rw [p3] at q1; exact absurd q1 (by decide)
    · simp only [p1, p2, p4, q2, Option.bind_some, if_neg m2, if_neg m0, if_true]
      exact ⟨-2, s, u, rfl, rfl, hJ⟩
    · simp only [p1, p2, p4, q2, q3, Option.bind_some, if_neg m2, if_neg m0, if_true]
      exact ⟨-2, s, u, rfl, rfl, hJ⟩
  · rcases hw with ⟨-, q2, q3⟩ | ⟨q1, -⟩
    · refine ⟨-10 - f, up2 s 0 4 f, up2 u 0 0 f, ?_, ?_, hJ.fault f⟩
      · rw [f3, Option.bind_some]
        exact if_neg f1
      · rw [p1, p2, q2, q3, f2, Option.bind_some, if_neg m0, if_neg m0, if_neg m0, if_neg m0, if_neg f0]
    · rw [p3] at q1; exact absurd q1 (by decide)
  · rcases hw with ⟨-, q2, q3⟩ | ⟨q1, -⟩
    · have hg := gIn_nI (t := k) (n := 4) (by omega) (by decide)
      simp only [p1, p2, q2, q3, f2, f3, Option.bind_some, if_true, if_neg m0, if_pos hg, nI_clamp (show k < 2 ^ 31 by omega), ix_eq]
      rcases open_or hJ with ⟨e1, e2⟩ | ⟨e1, e2⟩
      · simp only [e1, e2, if_true]
        exact ⟨-3, s, u, rfl, rfl, hJ⟩
      · simp only [e1, if_neg e2, if_neg m0]
        obtain ⟨N, hN, en⟩ := hJ.nr
        have := all_tubes hJ hk hS hn hl el hN en x5 1000 0 (by omega) (by omega)
        rw [nI_0] at this
        unfold fX2_hasAllTubes
        rcases this with ⟨b1, b2⟩ | ⟨b1, b2, b3⟩
        · simp only [b1, b2, Option.bind_some, if_true]
          exact ⟨-1, s, u, rfl, rfl, hJ⟩
        · obtain ⟨r, r1, r2⟩ := search_loop hJ hk hS hn hl el hN en b3 x5 1000 0 0 0 (-9) (by omega) (by omega) ⟨0, by omega, rfl⟩
          rw [nI_0] at r1 r2
          unfold fX2_searched fX7_searchAll at *
          simp only [b1, b2, r1, r2, Option.bind_some, if_neg m0]
          exact ⟨r, s, u, rfl, rfl, hJ⟩
    · rw [p3] at q1; exact absurd q1 (by decide)
theorem E_search (hI : Inv σ μ) (x1 : Int32) (x2 : Int32) (x3 : Int32) (x4 : Int32) (x5 : Int32) : ∃ (r : Int32) (τ : Sg) (ν : Sg), fX6_search x1 x2 x3 x4 x5 σ = some (r, τ) ∧ fX7_search x1 x2 x3 x4 x5 μ = some (r, ν) ∧ Inv τ ν := by
  unfold fX6_search
  rcases wi x4 0 20 (up2 μ 0 0 0) with ⟨w, hw⟩ | ⟨w, hw⟩
  · obtain ⟨r, τ, ν, h1, h2, h3⟩ := search_in hI x1 x2 x3 x4 x5 0 (Or.inl rfl) (Or.inr ⟨rfl, Or.inl w⟩)
    refine ⟨r, τ, ν, ?_, h2, h3⟩
    rw [h1]
    repeat' split
    all_goals (first | rfl | (exfalso; simp only [fa_lt, fa_le, fa_eq, L_m100, L_m10, L_m9, L_m4, L_m3, L_m2, L_m1, L_0, L_1, L_2, L_3, L_4, L_5, L_6, L_7, L_8, L_9, L_10, L_11, L_12, L_13, L_14, L_15, L_16, L_17, L_18, L_19, L_20, L_21, L_48, L_49, L_50, L_51, L_52, L_53, L_54, L_55, L_56, L_57, L_59, L_60, L_63, L_64, L_97, L_98, L_99, L_100, L_104, L_107, L_111, L_115, L_116, L_240] at *; omega) | (exfalso; simp only [fa_lt, fa_le, fa_eq, L_m100, L_m10, L_m9, L_m4, L_m3, L_m2, L_m1, L_0, L_1, L_2, L_3, L_4, L_5, L_6, L_7, L_8, L_9, L_10, L_11, L_12, L_13, L_14, L_15, L_16, L_17, L_18, L_19, L_20, L_21, L_48, L_49, L_50, L_51, L_52, L_53, L_54, L_55, L_56, L_57, L_59, L_60, L_63, L_64, L_97, L_98, L_99, L_100, L_104, L_107, L_111, L_115, L_116, L_240] at *; done) | contradiction)
  · rcases wi x5 0 2 (up2 μ 0 0 0) with ⟨v, hv⟩ | ⟨v, hv⟩
    · obtain ⟨r, τ, ν, h1, h2, h3⟩ := search_in hI x1 x2 x3 x4 x5 0 (Or.inl rfl) (Or.inr ⟨rfl, Or.inr ⟨w, v⟩⟩)
      refine ⟨r, τ, ν, ?_, h2, h3⟩
      rw [h1]
      repeat' split
      all_goals (first | rfl | (exfalso; simp only [fa_lt, fa_le, fa_eq, L_m100, L_m10, L_m9, L_m4, L_m3, L_m2, L_m1, L_0, L_1, L_2, L_3, L_4, L_5, L_6, L_7, L_8, L_9, L_10, L_11, L_12, L_13, L_14, L_15, L_16, L_17, L_18, L_19, L_20, L_21, L_48, L_49, L_50, L_51, L_52, L_53, L_54, L_55, L_56, L_57, L_59, L_60, L_63, L_64, L_97, L_98, L_99, L_100, L_104, L_107, L_111, L_115, L_116, L_240] at *; omega) | (exfalso; simp only [fa_lt, fa_le, fa_eq, L_m100, L_m10, L_m9, L_m4, L_m3, L_m2, L_m1, L_0, L_1, L_2, L_3, L_4, L_5, L_6, L_7, L_8, L_9, L_10, L_11, L_12, L_13, L_14, L_15, L_16, L_17, L_18, L_19, L_20, L_21, L_48, L_49, L_50, L_51, L_52, L_53, L_54, L_55, L_56, L_57, L_59, L_60, L_63, L_64, L_97, L_98, L_99, L_100, L_104, L_107, L_111, L_115, L_116, L_240] at *; done) | contradiction)
    · obtain ⟨r, τ, ν, h1, h2, h3⟩ := search_in hI x1 x2 x3 x4 x5 1 (Or.inr rfl) (Or.inl ⟨rfl, w, v⟩)
      refine ⟨r, τ, ν, ?_, h2, h3⟩
      rw [← h1]
      repeat' split
      all_goals (first | rfl | (exfalso; simp only [fa_lt, fa_le, fa_eq, L_m100, L_m10, L_m9, L_m4, L_m3, L_m2, L_m1, L_0, L_1, L_2, L_3, L_4, L_5, L_6, L_7, L_8, L_9, L_10, L_11, L_12, L_13, L_14, L_15, L_16, L_17, L_18, L_19, L_20, L_21, L_48, L_49, L_50, L_51, L_52, L_53, L_54, L_55, L_56, L_57, L_59, L_60, L_63, L_64, L_97, L_98, L_99, L_100, L_104, L_107, L_111, L_115, L_116, L_240] at *; omega) | (exfalso; simp only [fa_lt, fa_le, fa_eq, L_m100, L_m10, L_m9, L_m4, L_m3, L_m2, L_m1, L_0, L_1, L_2, L_3, L_4, L_5, L_6, L_7, L_8, L_9, L_10, L_11, L_12, L_13, L_14, L_15, L_16, L_17, L_18, L_19, L_20, L_21, L_48, L_49, L_50, L_51, L_52, L_53, L_54, L_55, L_56, L_57, L_59, L_60, L_63, L_64, L_97, L_98, L_99, L_100, L_104, L_107, L_111, L_115, L_116, L_240] at *; done) | contradiction)
end PUT9
