section PUT8
variable {σ μ s u : Sg}
theorem ft_vals (k : Nat) (x1 x2 x3 : Int32) (s : Sg) : fX1_faultOfTaking k x1 x2 x3 s = 0 ∨ (¬ fX1_faultOfTaking k x1 x2 x3 s = 0 ∧ ¬ (-10 - fX1_faultOfTaking k x1 x2 x3 s) = 0) := by
  unfold fX1_faultOfTaking
  repeat' split
  all_goals decide
theorem refE (hJ : Inv (up2 σ 0 4 0) (up2 μ 0 0 0)) (x1 x2 x3 x4 z : Int32) (hz : z = 0 ∨ z = 1) :
    (fX7_isSheet x1 (up2 μ 0 0 0) = 0 ∧ fX6_refusalOfRow x1 x2 x3 x4 z σ = some (-1, up2 σ 0 4 0)) ∨
    (fX7_isSheet x1 (up2 μ 0 0 0) = 1 ∧ fX7_isSort x2 (up2 μ 0 0 0) = 0 ∧ fX6_refusalOfRow x1 x2 x3 x4 z σ = some (-2, up2 σ 0 4 0)) ∨
    (fX7_isSheet x1 (up2 μ 0 0 0) = 1 ∧ fX7_isSort x2 (up2 μ 0 0 0) = 1 ∧ z = 0 ∧ fX6_refusalOfRow x1 x2 x3 x4 z σ = some (-2, up2 σ 0 4 0)) ∨
    (fX7_isSheet x1 (up2 μ 0 0 0) = 1 ∧ fX7_isSort x2 (up2 μ 0 0 0) = 1 ∧ z = 1 ∧ ∃ f : Int32, ¬ f = 0 ∧ ¬ (-10 - f) = 0 ∧ fX7_against x1 x2 x3 x4 (up2 μ 0 0 0) = some f ∧ fX6_refusalOfRow x1 x2 x3 x4 z σ = some (-10 - f, up2 (up2 σ 0 4 0) 0 4 f)) ∨
    (fX7_isSheet x1 (up2 μ 0 0 0) = 1 ∧ fX7_isSort x2 (up2 μ 0 0 0) = 1 ∧ z = 1 ∧ fX7_against x1 x2 x3 x4 (up2 μ 0 0 0) = some 0 ∧ fX6_refusalOfRow x1 x2 x3 x4 z σ = some (0, up2 σ 0 4 0) ∧ ∃ k : Nat, k < 4 ∧ x1 = nI k ∧ ShS (up2 σ 0 4 0) (up2 μ 0 0 0) k ∧ ∃ i n len : Nat, x3 = nI i ∧ x4 = nI n ∧ i + n ≤ len ∧ len ≤ 60 ∧ (up2 μ 0 0 0) 2 k = nI len) := by
  unfold fX6_refusalOfRow fX6_faulted
  generalize up2 σ 0 4 0 = s at hJ ⊢
  generalize up2 μ 0 0 0 = u at hJ ⊢
  rcases sh_or x1 s u with ⟨a1, a2⟩ | ⟨a1, a2, hg, k, hk, rfl⟩
  · left
    rw [a1]
    exact ⟨a2, rfl⟩
  · rcases sort_or x2 s u with ⟨b1, b2⟩ | ⟨b1, b2⟩
    · right; left
      rw [a1, b1]
      exact ⟨a2, b2, rfl⟩
    · rcases hz with rfl | rfl
      · right; right; left
        rw [a1, b1]
        exact ⟨a2, b2, rfl, rfl⟩
      · obtain ⟨g1, g2⟩ := agE hk (hJ.2.1 k hk) x2 x3 x4
        rw [a1, b1]
        simp only [if_pos hg, nI_clamp (show k < 2 ^ 31 by omega), if_neg (show ¬ (1 : Int32) = 0 by decide)]
        rcases ft_vals k x2 x3 x4 s with h0 | ⟨h0, h1⟩
        · right; right; right; right
          obtain ⟨q1, q2, q3⟩ := g2 h0
          rw [h0] at g1
          simp only [if_pos h0]
          exact ⟨a2, b2, trivial, g1, trivial, k, hk, rfl, q1, q3⟩
        · right; right; right; left
          simp only [if_neg h0]
          exact ⟨a2, b2, trivial, _, h0, h1, g1, rfl⟩
theorem apart_sym {a b : Int32} (ha : rg a 9) (hb : rg b 9) (ν : Sg) : fX7_apart a b ν = fX7_apart b a ν := by
  obtain ⟨i, hi, rfl⟩ := ha
  obtain ⟨j, hj, rfl⟩ := hb
  unfold fX7_apart
  have := fin_lt (P := fun a => ∀ b : Fin 10, (if nI a ≤ nI b.val then (nI b.val - nI a) else (nI a - nI b.val)) = (if nI b.val ≤ nI a then (nI a - nI b.val) else (nI b.val - nI a))) (N := 10) (by decide +kernel) (i := i) (by omega)
  exact this ⟨j, by omega⟩
theorem all_tubes {k i n len N : Nat} (hI : Inv s u) (hk : k < 4) (hS : ShS s u k) (hn : i + n ≤ len) (hl : len ≤ 60) (el : u 2 k = nI len) (hN : N ≤ 6) (en : u 0 10 = nI N) (x5 : Int32) : ∀ (m q : Nat), q ≤ n → n - q < m → (fX2_hasAllTubes_3 s k (nI i) (nI n) m (nI q) = some 0 ∧ fX7_search_89 (nI n) x5 (nI (60 * k + i)) m (nI q) u = some (-1, u)) ∨ (fX2_hasAllTubes_3 s k (nI i) (nI n) m (nI q) = some 1 ∧ fX7_search_89 (nI n) x5 (nI (60 * k + i)) m (nI q) u = ((fX7_searchAll (nI (60 * k + i)) (nI n) x5 u).bind fun r3 => some (r3, u)) ∧ ∀ j, q ≤ j → j < n → ∃ t, t < N ∧ u 3 (60 * k + (i + j)) = nI t) := by
  intro m
  induction m with
  | zero => intro q h1 h2; omega
  | succ m ih =>
    intro q h1 h2
    rw [fX2_hasAllTubes_3, fX7_search_89]
    by_cases h : n ≤ q
    · have hc : nI n ≤ nI q := nI_le h (by omega)
      right
      simp only [if_pos hc]
      exact ⟨trivial, trivial, fun j a b => by omega⟩
    · have hc : ¬ nI n ≤ nI q := nI_ge (by omega) (by omega)
      have g2 := gIn_nI (t := 60 * k + (i + q)) (n := 240) (by omega) (by decide)
      have hr := readE (i := i + q) hk hS (by omega) hl el
      simp only [if_neg hc, nI_add, hr, Option.bind_some, if_pos g2, nI_clamp (show 60 * k + (i + q) < 2 ^ 31 by omega), nI_1, show 60 * k + i + q = 60 * k + (i + q) by omega]
      rcases tube_or hI (u 3 (60 * k + (i + q))) with ⟨a1, a2⟩ | ⟨a1, a2, t, N', ht, hN', et, en'⟩
      · left
        rw [a1, a2]
        exact ⟨rfl, rfl⟩
      · rw [a1, a2]
        simp only [if_neg (show ¬ (1 : Int32) = 0 by decide)]
        have e1 : N' = N := (nI_eq (by omega) (by omega)).mp (en'.symm.trans en)
        rcases ih (q + 1) (by omega) (by omega) with ⟨b1, b2⟩ | ⟨b1, b2, b3⟩
        · exact Or.inl ⟨b1, b2⟩
        · refine Or.inr ⟨b1, b2, fun j a b => ?_⟩
          by_cases e : j = q
          · subst e; exact ⟨t, by omega, et⟩
          · exact b3 j (by omega) b
theorem search_loop {k i n len N : Nat} (hI : Inv s u) (hk : k < 4) (hS : ShS s u k) (hn : i + n ≤ len) (hl : len ≤ 60) (el : u 2 k = nI len) (hN : N ≤ 6) (en : u 0 10 = nI N) (hT : ∀ j, 0 ≤ j → j < n → ∃ t, t < N ∧ u 3 (60 * k + (i + j)) = nI t) (x5 : Int32) : ∀ (m q : Nat) (a b f : Int32), q ≤ n → n - q < m → rg a 9 → ∃ r, fX2_searched_16 s k (nI i) (nI n) x5 m a b (nI q) f (nI q) = some r ∧ fX7_searchAll_13 u (nI (60 * k + i)) (nI n) x5 m b a f (nI q) = some r := by
  intro m
  induction m with
  | zero => intro q a b f h1 h2; omega
  | succ m ih =>
    intro q a b f h1 h2 ha
    rw [fX2_searched_16, fX7_searchAll_13]
    have hend : ∃ r, fX2_searched_85 s x5 b (nI q) f = some r ∧ fX7_searchAll_79 u x5 b f (nI q) = some r := by
      unfold fX2_searched_85 fX7_searchAll_79
      repeat' split
      all_goals exact ⟨_, rfl, rfl⟩
    by_cases h : n ≤ q
    · have hc : nI n ≤ nI q := nI_le h (by omega)
      simp only [if_pos hc]
      exact hend
    · have hc : ¬ nI n ≤ nI q := nI_ge (by omega) (by omega)
      by_cases hf : f = -9
      · have g2 := gIn_nI (t := 60 * k + (i + q)) (n := 240) (by omega) (by decide)
        have hr := readE (i := i + q) hk hS (by omega) hl el
        obtain ⟨t, ht, et⟩ := hT q (by omega) (by omega)
        obtain ⟨r, r1, r2, r3⟩ := alikeE hI ht hN en
        have hta : rg (nI t) 9 := ⟨t, by omega, rfl⟩
        have ed : (if 0 ≤ (nI t - a) then (nI t - a) else 0 - (nI t - a)) = fX7_apart a (nI t) u := (absd hta ha u).1.trans (apart_sym hta ha u)
        simp only [if_neg hc, if_pos hf, nI_add, hr, Option.bind_some, if_pos g2, nI_clamp (show 60 * k + (i + q) < 2 ^ 31 by omega), nI_1, show 60 * k + i + q = 60 * k + (i + q) by omega, et, r1, r2, ed]
        by_cases h0 : r = 0
        · simp only [if_pos h0]
          exact ih (q + 1) _ _ _ (by omega) (by omega) hta
        · simp only [if_neg h0]
          exact ih (q + 1) _ _ _ (by omega) (by omega) hta
      · simp only [if_neg hc, if_neg hf]
        exact hend
/-! sewing -/
theorem sew_in {x1 x2 : Int32} {t : Nat} (hI : Inv s u) (ht : t < 6) {K K' : Int32 → Int32 → Int32 → Int32 → Option Int32} (hK : ∀ a b c, ∃ r, K a b c (nI (t + 1)) = some r ∧ K' a b c (nI (t + 1)) = some r) : ∀ (m p : Nat) (a b c : Int32), p ≤ 6 → 6 - p < m → ∃ r, fX2_leastHarm_26 s x1 x2 (nI t) K m a b c (nI p) = some r ∧ fX7_sew_59 u x1 x2 (nI t) K' m a b c (nI p) = some r := by
  have hT := hI.tube ht
  have hg := gIn_nI (t := t) (n := 6) (by omega) (by decide)
  intro m
  induction m with
  | zero => intro p a b c h1 h2; omega
  | succ m ih =>
    intro p a b c h1 h2
    rw [fX2_leastHarm_26, fX7_sew_59, nI_1]
    by_cases h : 6 ≤ p
    · have hc : (6 : Int32) ≤ nI p := nI_le (a := 6) h (by omega)
      simp only [if_pos hc]
      exact hK a b c
    · have hc : ¬ (6 : Int32) ≤ nI p := nI_ge (a := p) (b := 6) (by omega) (by omega)
      have hp := gIn_nI (t := p) (n := 6) (by omega) (by decide)
      simp only [if_neg hc, if_pos hg, nI_clamp (show t < 2 ^ 31 by omega), hT.2.2.2.2.1.1]
      by_cases hz : u 9 t ≤ 0
      · simp only [if_pos hz]
        exact hK a b c
      · obtain ⟨f1, -⟩ := farE hI ht (a := u 0 5) (b := u 0 6) (hI.colourr.mono (by decide)) hI.sizer
        have hh : ∀ z0, fX2_harm_13 s t (nI p) z0 = some (fX5_farFrom t (u 0 5) (u 0 6) (s 10 5) s * u 4 p + u 10 t + z0) := fun z0 => by
          unfold fX2_harm_13
          rw [if_pos hp]
          simp only [nI_clamp (show p < 2 ^ 31 by omega)]
          rw [hI.seen (by omega), hT.2.2.2.2.2.1, hI.colour, hI.size]
        unfold fX2_harm
        simp only [if_neg hz, f1, Option.bind_some, if_pos hp, nI_clamp (show p < 2 ^ 31 by omega), hh, hI.sewing, fX7_sew_120, fX7_sew_135, fX2_leastHarm_74, nI_1]
        by_cases hx : nI p = x1
        · simp only [if_pos hx, Option.bind_some]
          repeat' split
          all_goals exact ih (p + 1) _ _ _ (by omega) (by omega)
        · simp only [if_neg hx, Option.bind_some]
          repeat' split
          all_goals exact ih (p + 1) _ _ _ (by omega) (by omega)
theorem sew_out {x1 x2 : Int32} {N : Nat} (hI : Inv s u) (hN : N ≤ 6) (en : u 0 10 = nI N) : ∀ (m t : Nat) (a b c : Int32), t ≤ N → N - t < m → ∃ r, fX2_leastHarm_14 s x1 x2 m a b c (nI t) = some r ∧ fX7_sew_47 u x1 x2 m a b c (nI t) = some r := by
  intro m
  induction m with
  | zero => intro t a b c h1 h2; omega
  | succ m ih =>
    intro t a b c h1 h2
    rw [fX2_leastHarm_14, fX7_sew_47, hI.n, en]
    by_cases h : N ≤ t
    · have hc : nI N ≤ nI t := nI_le h (by omega)
      simp only [if_pos hc]
      repeat' split
      all_goals exact ⟨_, rfl, rfl⟩
    · have hc : ¬ nI N ≤ nI t := nI_ge (by omega) (by omega)
      simp only [if_neg hc]
      have := sew_in (x1 := x1) (x2 := x2) hI (t := t) (by omega) (K := fX2_leastHarm_14 s x1 x2 m) (K' := fX7_sew_47 u x1 x2 m) (fun a b c => ih (t + 1) a b c (by omega) (by omega)) 1000 0 a b c (by omega) (by omega)
      rw [nI_0] at this
      exact this
theorem E_sew (hI : Inv σ μ) (x1 : Int32) (x2 : Int32) : ∃ (r : Int32), fX6_sew x1 x2 σ = some r ∧ fX7_sew x1 x2 μ = some r := by
  unfold fX6_sew fX7_sew fX2_leastHarm
  rw [place_eq x1 σ μ]
  obtain ⟨N, hN, en⟩ := hI.nr
  obtain ⟨r, r1, r2⟩ := sew_out (x1 := x1) (x2 := x2) hI hN en 1000 0 (-9) (-9) (-9) (by omega) (by omega)
  rw [nI_0] at r1 r2
  rw [r1, r2]
  rcases wi x1 0 5 μ with ⟨w, hw⟩ | ⟨w, hw⟩
  · rw [w]
    exact ⟨-1, rfl, rfl⟩
  · rcases wi x2 0 2 μ with ⟨v, hv⟩ | ⟨v, hv⟩
    · rw [w, v]
      refine ⟨-2, ?_, rfl⟩
      repeat' split
      all_goals (first | rfl | (exfalso; simp only [fa_lt, fa_le, fa_eq, L_m100, L_m10, L_m9, L_m4, L_m3, L_m2, L_m1, L_0, L_1, L_2, L_3, L_4, L_5, L_6, L_7, L_8, L_9, L_10, L_11, L_12, L_13, L_14, L_15, L_16, L_17, L_18, L_19, L_20, L_21, L_48, L_49, L_50, L_51, L_52, L_53, L_54, L_55, L_56, L_57, L_59, L_60, L_63, L_64, L_97, L_98, L_99, L_100, L_104, L_107, L_111, L_115, L_116, L_240] at *; omega) | (exfalso; simp only [fa_lt, fa_le, fa_eq, L_m100, L_m10, L_m9, L_m4, L_m3, L_m2, L_m1, L_0, L_1, L_2, L_3, L_4, L_5, L_6, L_7, L_8, L_9, L_10, L_11, L_12, L_13, L_14, L_15, L_16, L_17, L_18, L_19, L_20, L_21, L_48, L_49, L_50, L_51, L_52, L_53, L_54, L_55, L_56, L_57, L_59, L_60, L_63, L_64, L_97, L_98, L_99, L_100, L_104, L_107, L_111, L_115, L_116, L_240] at *; done) | contradiction)
    · rw [w, v]
      rcases open_or hI with ⟨e1, e2⟩ | ⟨e1, e2⟩
      · rw [e1, e2]
        refine ⟨-3, ?_, rfl⟩
        repeat' split
        all_goals (first | rfl | (exfalso; simp only [fa_lt, fa_le, fa_eq, L_m100, L_m10, L_m9, L_m4, L_m3, L_m2, L_m1, L_0, L_1, L_2, L_3, L_4, L_5, L_6, L_7, L_8, L_9, L_10, L_11, L_12, L_13, L_14, L_15, L_16, L_17, L_18, L_19, L_20, L_21, L_48, L_49, L_50, L_51, L_52, L_53, L_54, L_55, L_56, L_57, L_59, L_60, L_63, L_64, L_97, L_98, L_99, L_100, L_104, L_107, L_111, L_115, L_116, L_240] at *; omega) | (exfalso; simp only [fa_lt, fa_le, fa_eq, L_m100, L_m10, L_m9, L_m4, L_m3, L_m2, L_m1, L_0, L_1, L_2, L_3, L_4, L_5, L_6, L_7, L_8, L_9, L_10, L_11, L_12, L_13, L_14, L_15, L_16, L_17, L_18, L_19, L_20, L_21, L_48, L_49, L_50, L_51, L_52, L_53, L_54, L_55, L_56, L_57, L_59, L_60, L_63, L_64, L_97, L_98, L_99, L_100, L_104, L_107, L_111, L_115, L_116, L_240] at *; done) | contradiction)
      · rw [e1, if_neg e2]
        refine ⟨r, ?_, rfl⟩
        repeat' split
        all_goals (first | rfl | (exfalso; simp only [fa_lt, fa_le, fa_eq, L_m100, L_m10, L_m9, L_m4, L_m3, L_m2, L_m1, L_0, L_1, L_2, L_3, L_4, L_5, L_6, L_7, L_8, L_9, L_10, L_11, L_12, L_13, L_14, L_15, L_16, L_17, L_18, L_19, L_20, L_21, L_48, L_49, L_50, L_51, L_52, L_53, L_54, L_55, L_56, L_57, L_59, L_60, L_63, L_64, L_97, L_98, L_99, L_100, L_104, L_107, L_111, L_115, L_116, L_240] at *; omega) | (exfalso; simp only [fa_lt, fa_le, fa_eq, L_m100, L_m10, L_m9, L_m4, L_m3, L_m2, L_m1, L_0, L_1, L_2, L_3, L_4, L_5, L_6, L_7, L_8, L_9, L_10, L_11, L_12, L_13, L_14, L_15, L_16, L_17, L_18, L_19, L_20, L_21, L_48, L_49, L_50, L_51, L_52, L_53, L_54, L_55, L_56, L_57, L_59, L_60, L_63, L_64, L_97, L_98, L_99, L_100, L_104, L_107, L_111, L_115, L_116, L_240] at *; done) | contradiction)
end PUT8
