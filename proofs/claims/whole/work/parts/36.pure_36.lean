section PUT6
variable {σ μ σ' μ' : Sg}
/-! sheets -/
theorem up_same {a k : Nat} {v : Int32} (h : σ a k = v) : up2 σ a k v = σ := by
  funext b j
  rw [up_at]
  by_cases e : b = a ∧ j = k
  · rw [if_pos e, e.1, e.2, h]
  · rw [if_neg e]
theorem sh_or (x1 : Int32) (σ μ : Sg) : (fX6_isSheet x1 σ = 0 ∧ fX7_isSheet x1 μ = 0) ∨ (fX6_isSheet x1 σ = 1 ∧ fX7_isSheet x1 μ = 1 ∧ gIn x1 4 ∧ ∃ k : Nat, k < 4 ∧ x1 = nI k) := by
  rw [sheet_eq x1 σ μ]
  unfold fX7_isSheet
  rcases wi x1 0 3 μ with ⟨w, hw⟩ | ⟨w, hw⟩
  · exact Or.inl ⟨w, w⟩
  · obtain ⟨j, hj, rfl⟩ := of_rg (n := 3) (by decide) hw.1 hw.2
    exact Or.inr ⟨w, w, gIn_nI (by omega) (by decide), j, by omega, rfl⟩
theorem Inv.sheet (h : Inv σ μ) {k : Nat} (hk : k < 4) (hσ : ∀ a, a ≠ 2 + k → a ≠ 6 + k → σ' a = σ a) (h0 : μ' 0 = μ 0) (hμ : ∀ a, 4 ≤ a → μ' a = μ a) (h1 : ∀ j, j ≠ k → μ' 1 j = μ 1 j) (h2 : ∀ j, j ≠ k → μ' 2 j = μ 2 j) (h3 : ∀ j i, j ≠ k → i < 60 → μ' 3 (60 * j + i) = μ 3 (60 * j + i)) (hs : ShN σ' μ' k ∨ ShS σ' μ' k) : Inv σ' μ' := by
  refine ⟨?_, ?_, h.2.2.1.congr (fun j a b => by rw [hσ 10 (by omega) (by omega)]) (hσ 12 (by omega) (by omega)) (fun a b c => hσ a (by omega) (by omega)) (fun j _ => by rw [h0]) (fun a b c => hμ a b), h.2.2.2.congr (by rw [hσ 19 (by omega) (by omega)]) (hσ 20 (by omega) (by omega)) (hσ 21 (by omega) (by omega)) (by rw [h0]) (by rw [h0]) (hμ 16 (by omega)) (hμ 17 (by omega))⟩
  · unfold InvA
    rw [hσ 0 (by omega) (by omega), h0]
    exact h.1
  · intro j hj
    by_cases e : j = k
    · subst e; exact hs
    · have := h.2.1 j hj
      unfold ShN ShS at this ⊢
      rw [hσ (2 + j) (by omega) (by omega), hσ (6 + j) (by omega) (by omega), h1 j e, h2 j e]
      rcases this with q | ⟨q1, q2, q3, q4, q5⟩
      · exact Or.inl q
      · exact Or.inr ⟨q1, q2, q3, q4, fun i hi => by rw [h3 j i e hi]; exact q5 i hi⟩
theorem nth_or {s u : Sg} {k : Nat} (h : ShN s u k ∨ ShS s u k) : (fX1_isNothing k s = 1 ∧ u 1 k = -9 ∧ ShN s u k) ∨ (fX1_isNothing k s = 0 ∧ ¬ u 1 k = -9 ∧ ShS s u k) := by
  unfold fX1_isNothing
  rcases h with h | h
  · left
    rw [h.1]
    exact ⟨rfl, h.2.2, h⟩
  · right
    obtain ⟨c, hc, ec⟩ := h.2.1
    have t1 := nI_toInt (n := c) (by omega)
    rw [h.1, ec]
    refine ⟨?_, ?_, h⟩
    · rw [if_neg]
      (simp only [fa_lt, fa_le, fa_eq, L_m100, L_m10, L_m9, L_m4, L_m3, L_m2, L_m1, L_0, L_1, L_2, L_3, L_4, L_5, L_6, L_7, L_8, L_9, L_10, L_11, L_12, L_13, L_14, L_15, L_16, L_17, L_18, L_19, L_20, L_21, L_48, L_49, L_50, L_51, L_52, L_53, L_54, L_55, L_56, L_57, L_59, L_60, L_63, L_64, L_97, L_98, L_99, L_100, L_104, L_107, L_111, L_115, L_116, L_240] at *; omega)
    · (simp only [fa_lt, fa_le, fa_eq, L_m100, L_m10, L_m9, L_m4, L_m3, L_m2, L_m1, L_0, L_1, L_2, L_3, L_4, L_5, L_6, L_7, L_8, L_9, L_10, L_11, L_12, L_13, L_14, L_15, L_16, L_17, L_18, L_19, L_20, L_21, L_48, L_49, L_50, L_51, L_52, L_53, L_54, L_55, L_56, L_57, L_59, L_60, L_63, L_64, L_97, L_98, L_99, L_100, L_104, L_107, L_111, L_115, L_116, L_240] at *; omega)
theorem E_lose (hI : Inv σ μ) (x1 : Int32) : ∃ (r : Int32) (τ : Sg) (ν : Sg), fX6_lose x1 σ = some (r, τ) ∧ fX7_lose x1 μ = some (r, ν) ∧ Inv τ ν := by
  unfold fX6_lose fX7_lose fX7_lose_25 fX1_becomeNothing
  rcases sh_or x1 σ μ with ⟨a1, a2⟩ | ⟨a1, a2, hg, k, hk, rfl⟩
  · rw [a1, a2]
    exact ⟨-1, σ, μ, rfl, rfl, hI⟩
  · rw [a1, a2]
    simp only [if_pos hg, nI_clamp (show k < 2 ^ 31 by omega)]
    rcases nth_or (hI.2.1 k hk) with ⟨n1, n2, n3⟩ | ⟨n1, n2, n3⟩
    · rw [n1, if_pos n2, up_same n2]
      exact ⟨0, σ, μ, rfl, rfl, hI⟩
    · rw [n1, if_neg n2]
      refine ⟨1, _, _, rfl, rfl, hI.sheet hk (fun a b c => by rw [up_nc b, up_nc b]) (up_nc (by omega)) (fun a b => up_nc (by omega)) (fun j hj => up_nk hj) (fun j hj => by rw [up_nc (by omega)]) (fun j i _ _ => by rw [up_nc (by omega)]) (Or.inl ⟨?_, ?_, ?_⟩)⟩
      · rw [up_nk (by omega), up_eq]
      · rw [up_eq]
      · rw [up_eq]
theorem cov_or {s u v : Sg} {k n : Nat} (hn : n ≤ 60) (e1 : s (2 + k) 2 = nI n) (e2 : u 2 k = nI n) (x : Int32) : (fX1_covers k x 1 s = 0 ∧ fX7_within x 0 (u 2 k - 1) v = 0) ∨ (fX1_covers k x 1 s = 1 ∧ fX7_within x 0 (u 2 k - 1) v = 1 ∧ ∃ i : Nat, i < n ∧ x = nI i) := by
  have t1 := nI_toInt (n := n) (by omega)
  have t2 : (nI n - 1).toInt = (n : Int) - 1 := pk_sub_toInt (a := n) (b := 1) (by omega) (by omega)
  unfold fX1_covers
  rw [e1, e2]
  rcases tri x 61 (by decide) with h | h | ⟨i, hi, rfl⟩
  · left
    rcases wi x 0 (nI n - 1) v with ⟨w, hw⟩ | ⟨w, hw⟩
    · refine ⟨?_, w⟩
      repeat' split
      all_goals (first | rfl | (exfalso; simp only [fa_lt, fa_le, fa_eq, L_m100, L_m10, L_m9, L_m4, L_m3, L_m2, L_m1, L_0, L_1, L_2, L_3, L_4, L_5, L_6, L_7, L_8, L_9, L_10, L_11, L_12, L_13, L_14, L_15, L_16, L_17, L_18, L_19, L_20, L_21, L_48, L_49, L_50, L_51, L_52, L_53, L_54, L_55, L_56, L_57, L_59, L_60, L_63, L_64, L_97, L_98, L_99, L_100, L_104, L_107, L_111, L_115, L_116, L_240] at *; omega) | (exfalso; simp only [fa_lt, fa_le, fa_eq, L_m100, L_m10, L_m9, L_m4, L_m3, L_m2, L_m1, L_0, L_1, L_2, L_3, L_4, L_5, L_6, L_7, L_8, L_9, L_10, L_11, L_12, L_13, L_14, L_15, L_16, L_17, L_18, L_19, L_20, L_21, L_48, L_49, L_50, L_51, L_52, L_53, L_54, L_55, L_56, L_57, L_59, L_60, L_63, L_64, L_97, L_98, L_99, L_100, L_104, L_107, L_111, L_115, L_116, L_240] at *; done) | contradiction)
    · rw [L_0] at hw; omega
  · left
    rcases wi x 0 (nI n - 1) v with ⟨w, hw⟩ | ⟨w, hw⟩
    · refine ⟨?_, w⟩
      repeat' split
      all_goals (first | rfl | (exfalso; simp only [fa_lt, fa_le, fa_eq, L_m100, L_m10, L_m9, L_m4, L_m3, L_m2, L_m1, L_0, L_1, L_2, L_3, L_4, L_5, L_6, L_7, L_8, L_9, L_10, L_11, L_12, L_13, L_14, L_15, L_16, L_17, L_18, L_19, L_20, L_21, L_48, L_49, L_50, L_51, L_52, L_53, L_54, L_55, L_56, L_57, L_59, L_60, L_63, L_64, L_97, L_98, L_99, L_100, L_104, L_107, L_111, L_115, L_116, L_240] at *; omega) | (exfalso; simp only [fa_lt, fa_le, fa_eq, L_m100, L_m10, L_m9, L_m4, L_m3, L_m2, L_m1, L_0, L_1, L_2, L_3, L_4, L_5, L_6, L_7, L_8, L_9, L_10, L_11, L_12, L_13, L_14, L_15, L_16, L_17, L_18, L_19, L_20, L_21, L_48, L_49, L_50, L_51, L_52, L_53, L_54, L_55, L_56, L_57, L_59, L_60, L_63, L_64, L_97, L_98, L_99, L_100, L_104, L_107, L_111, L_115, L_116, L_240] at *; done) | contradiction)
    · rw [t2] at hw; omega
  · have t3 := nI_toInt (n := i) (by omega)
    have t4 : (nI n - nI i).toInt = (n : Int) - i := pk_sub_toInt (by omega) (by omega)
    rcases wi (nI i) 0 (nI n - 1) v with ⟨w, hw⟩ | ⟨w, hw⟩
    · left
      rw [L_0, t2, t3] at hw
      refine ⟨?_, w⟩
      repeat' split
      all_goals (first | rfl | (exfalso; simp only [fa_lt, fa_le, fa_eq, L_0, L_1, t1, t3, t4] at *; omega) | (exfalso; simp only [fa_lt, fa_le, fa_eq, L_0, L_1, t1, t3, t4] at *; done))
    · right
      rw [L_0, t2, t3] at hw
      refine ⟨?_, w, i, by omega, rfl⟩
      repeat' split
      all_goals (first | rfl | (exfalso; simp only [fa_lt, fa_le, fa_eq, L_0, L_1, t1, t3, t4] at *; omega) | (exfalso; simp only [fa_lt, fa_le, fa_eq, L_0, L_1, t1, t3, t4] at *; done))
theorem ix_eq (k i : Nat) : (60 * nI k) + nI i = nI (60 * k + i) := by
  rw [show (60 : Int32) = nI 60 from rfl, pk_mul, nI_add]
theorem Inv.setCell (hI : Inv σ μ) {k i : Nat} (hk : k < 4) (hi : i < 60) (hs : ShS σ μ k) (v : Int32) : Inv (up2 σ (6 + k) i v) (up2 μ 3 (60 * k + i) v) := by
  refine hI.sheet hk (fun a b c => up_nc c) (up_nc (by omega)) (fun a b => up_nc (by omega)) (fun j hj => by rw [up_nc (by omega)]) (fun j hj => by rw [up_nc (by omega)]) (fun j i' hj hi' => up_nk (by omega)) (Or.inr ?_)
  obtain ⟨q1, q2, q3, q4, q5⟩ := hs
  unfold ShS
  rw [up_nc (a := 6 + k) (b := 2 + k) (by omega), up_nc (a := 3) (b := 1) (by omega), up_nc (a := 3) (b := 2) (by omega)]
  refine ⟨q1, q2, q3, q4, fun j hj => ?_⟩
  by_cases e : j = i
  · subst e; rw [up_eq, up_eq]
  · rw [up_nk e, up_nk (by omega)]; exact q5 j hj
theorem E_put (hI : Inv σ μ) (x1 : Int32) (x2 : Int32) (x3 : Int32) : ∃ (r : Int32) (τ : Sg) (ν : Sg), fX6_put x1 x2 x3 σ = some (r, τ) ∧ fX7_put x1 x2 x3 μ = some (r, ν) ∧ Inv τ ν := by
  have hJ := hI.fault 0
  have c1 : ∀ k, (up2 μ 0 0 0) 1 k = μ 1 k := fun k => by rw [up_nc (by omega)]
  have c2 : ∀ k, (up2 μ 0 0 0) 2 k = μ 2 k := fun k => by rw [up_nc (by omega)]
  unfold fX6_put fX7_put fX6_faulted fX7_fails fX1_write
  simp only [← c1, ← c2]
  generalize up2 σ 0 4 0 = s at hJ ⊢
  generalize up2 μ 0 0 0 = u at hJ ⊢
  rcases sh_or x1 s u with ⟨a1, a2⟩ | ⟨a1, a2, hg, k, hk, rfl⟩
  · rw [a1, a2]
    exact ⟨-1, s, u, rfl, rfl, hJ⟩
  · rw [a1, a2]
    simp only [if_pos hg, nI_clamp (show k < 2 ^ 31 by omega)]
    rcases nth_or (hJ.2.1 k hk) with ⟨n1, n2, n3⟩ | ⟨n1, n2, n3⟩
    · rw [n1, if_pos n2]
      exact ⟨_, _, _, rfl, rfl, hJ.fault 1⟩
    · obtain ⟨n, hn, en⟩ := n3.2.2.2.1
      rw [n1, if_neg n2]
      rcases cov_or (v := u) hn (n3.2.2.1.trans en) en x2 with ⟨w1, w2⟩ | ⟨w1, w2, i, hi, rfl⟩
      · rw [w1, w2]
        exact ⟨_, _, _, rfl, rfl, hJ.fault 3⟩
      · have g1 := gIn_nI (t := i) (n := 60) (by omega) (by decide)
        have g2 := gIn_nI (t := 60 * k + i) (n := 240) (by omega) (by decide)
        rw [w1, w2]
        simp only [ix_eq, if_pos g1, if_pos g2, nI_clamp (show i < 2 ^ 31 by omega), nI_clamp (show 60 * k + i < 2 ^ 31 by omega), n3.1]
        by_cases z0 : u 1 k = 0
        · simp only [if_pos z0]
          exact ⟨1, _, _, rfl, rfl, hJ.setCell hk (by omega) n3 _⟩
        · by_cases z1 : u 1 k = 1
          · simp only [if_neg z0, if_pos z1]
            exact ⟨1, _, _, rfl, rfl, hJ.setCell hk (by omega) n3 _⟩
          · simp only [if_neg z0, if_neg z1]
            exact ⟨1, _, _, rfl, rfl, hJ.setCell hk (by omega) n3 _⟩
end PUT6
