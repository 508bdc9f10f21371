section PUTD
variable {σ μ s u : Sg}
theorem or8 {D r : Nat} (hD : D < 8) (hr : r < 3) : D ||| 2 ^ r < 8 := fin_lt (P := fun D => ∀ r : Fin 3, D ||| 2 ^ r.val < 8) (N := 8) (by decide +kernel) hD ⟨r, hr⟩
theorem aresigns_loop {N k i n len : Nat} (hN : N ≤ 6) (hk : k < 4) (hS : ShS s u k) (hn : n ≤ 3) (hin : i + n ≤ len) (hl : len ≤ 60) (el : u 2 k = nI len) (x5 : Int32) : ∀ (m q D : Nat) (ν : Sg), Inv s ν → ν 3 = u 3 → ν 0 10 = nI N → (∀ j, j < q → ν 13 j = u 3 (60 * k + (i + j))) → D < 8 → q ≤ n → n - q < m →
    (fX6_areSigns_5 s k (nI i) (nI n) m (nI D) (nI q) = some 0 ∧ ∃ ν' : Sg, fX7_sieve_83 (nI k) (nI i) (nI n) x5 m (nI D) (nI q) ν = some (-2, ν') ∧ Inv s ν') ∨
    (fX6_areSigns_5 s k (nI i) (nI n) m (nI D) (nI q) = some 1 ∧ ∃ ν' : Sg, fX7_sieve_83 (nI k) (nI i) (nI n) x5 m (nI D) (nI q) ν = some (if x5 = 0 then nI (Sq s (fun j => u 3 (60 * k + (i + j))) N n) else nI (Lq s (fun j => u 3 (60 * k + (i + j))) N n), ν') ∧ Inv s ν') := by
  intro m
  induction m with
  | zero => intro q D ν _ _ _ _ _ h1 h2; omega
  | succ m ih =>
    intro q D ν hJ e3 en e13 hD h1 h2
    rw [fX6_areSigns_5, fX7_sieve_83]
    by_cases h : n ≤ q
    · have hc : nI n ≤ nI q := nI_le h (by omega)
      obtain rfl : q = n := by omega
      right
      have hJ2 : Inv s (up2 ν 0 24 (nI q)) := hJ.scr (Scr.rf.up0 (by omega) _)
      have := msieveE (s := s) (sg := fun j => u 3 (60 * k + (i + j))) (N := N) (n := q) hN hn hJ2 (by rw [up_nk (by omega)]; exact en) (up_eq _ _ _ _) (fun j hj => by rw [up_nc (by omega)]; exact e13 j hj)
      simp only [if_pos hc, this, Option.bind_some, up_eq]
      refine ⟨trivial, _, ?_, hJ2.scr (Scr.rf.up0 (k := 26) (by omega) (nI (Sq s (fun j => u 3 (60 * k + (i + j))) N q)))⟩
      by_cases h5 : x5 = 0
      · simp only [if_pos h5]
      · simp only [if_neg h5]
    · have hc : ¬ nI n ≤ nI q := nI_ge (by omega) (by omega)
      have g2 := gIn_nI (t := 60 * k + (i + q)) (n := 240) (by omega) (by decide)
      have g3 := gIn_nI (t := q) (n := 3) (by omega) (by decide)
      have hr := readE (i := i + q) hk hS (by omega) hl el
      have ex : (60 * nI k) + nI i + nI q = nI (60 * k + (i + q)) := by rw [ix_eq, nI_add, Nat.add_assoc]
      simp only [if_neg hc, nI_add, hr, Option.bind_some, ex, if_pos g2, if_pos g3, nI_clamp (show 60 * k + (i + q) < 2 ^ 31 by omega), nI_clamp (show q < 2 ^ 31 by omega), nI_1, e3]
      generalize hv : u 3 (60 * k + (i + q)) = v
      rcases wi v 0 2 ν with ⟨w, hw⟩ | ⟨w, w1, w2⟩
      · left
        simp only [w, if_true]
        refine ⟨?_, ν, rfl, hJ⟩
        repeat' split
        all_goals (first | rfl | (exfalso; simp only [fa_lt, fa_le, fa_eq, L_m100, L_m10, L_m9, L_m4, L_m3, L_m2, L_m1, L_0, L_1, L_2, L_3, L_4, L_5, L_6, L_7, L_8, L_9, L_10, L_11, L_12, L_13, L_14, L_15, L_16, L_17, L_18, L_19, L_20, L_21, L_48, L_49, L_50, L_51, L_52, L_53, L_54, L_55, L_56, L_57, L_59, L_60, L_63, L_64, L_97, L_98, L_99, L_100, L_104, L_107, L_111, L_115, L_116, L_240] at *; omega) | (exfalso; simp only [fa_lt, fa_le, fa_eq, L_m100, L_m10, L_m9, L_m4, L_m3, L_m2, L_m1, L_0, L_1, L_2, L_3, L_4, L_5, L_6, L_7, L_8, L_9, L_10, L_11, L_12, L_13, L_14, L_15, L_16, L_17, L_18, L_19, L_20, L_21, L_48, L_49, L_50, L_51, L_52, L_53, L_54, L_55, L_56, L_57, L_59, L_60, L_63, L_64, L_97, L_98, L_99, L_100, L_104, L_107, L_111, L_115, L_116, L_240] at *; done) | contradiction)
      · obtain ⟨r, hr3, rfl⟩ : ∃ r : Nat, r < 3 ∧ v = nI r := by
          rcases tri v 3 (by decide) with a | a | a
          · simp only [L_0] at w1; omega
          · simp only [L_2] at w2; omega
          · exact a
        have a1 : ¬ (3 : Int32) ≤ nI r := nI_ge (a := r) (b := 3) hr3 (by omega)
        rw [w, if_neg (nI_pos (by omega)), if_neg a1, bit_at ⟨D, by omega⟩ ⟨r, by omega⟩, one_sh ⟨r, by omega⟩, fa_or]
        simp only [if_neg (show ¬ (1 : Int32) = 0 by decide)]
        by_cases hb : D.testBit r = true
        · left
          simp only [hb, if_true, if_neg (show ¬ (1 : Int32) = 0 by decide)]
          exact ⟨trivial, ν, rfl, hJ⟩
        · simp only [hb, if_neg (show ¬ (0 : Int32) = 1 by decide), if_true]
          exact ih (q + 1) (D ||| 2 ^ r) (up2 ν 13 q (nI r)) (hJ.scr (Scr.rf.upc (by omega) _ _)) (by rw [up_nc (by omega)]; exact e3) (by rw [up_nc (by omega)]; exact en) (fun j hj => by
            by_cases e : j = q
            · subst e; rw [up_eq, hv]
            · rw [up_nk e]; exact e13 j (by omega)) (or8 hD hr3) (by omega) (by omega)
theorem sieve_in (hI : Inv σ μ) (x1 x2 x3 x4 x5 z : Int32) (hz : z = 0 ∨ z = 1) (hw : (z = 1 ∧ fX7_within x4 0 3 (up2 μ 0 0 0) = 1 ∧ x4.toInt ≤ 3 ∧ fX7_within x5 0 1 (up2 μ 0 0 0) = 1) ∨ (z = 0 ∧ (fX7_within x4 0 3 (up2 μ 0 0 0) = 0 ∨ (fX7_within x4 0 3 (up2 μ 0 0 0) = 1 ∧ fX7_within x5 0 1 (up2 μ 0 0 0) = 0)))) : ∃ (r : Int32) (τ : Sg) (ν : Sg), fX6_sieve_27 x1 x2 x3 x4 x5 z σ = some (r, τ) ∧ fX7_sieve x1 x2 x3 x4 x5 μ = some (r, ν) ∧ Inv τ ν := by
  have hJ := hI.fault 0
  have c1 : μ 0 10 = (up2 μ 0 0 0) 0 10 := by rw [up_nk (by omega)]
  have m0 : ¬ (1 : Int32) = 0 := by decide
  have m1 : ¬ (-1 : Int32) = 0 := by decide
  have m2 : ¬ (-2 : Int32) = 0 := by decide
  have hR := refE hJ x1 x2 x3 x4 z hz
  unfold fX6_sieve_27 fX7_sieve fX7_fails
  rw [c1]
  clear c1 hI
  generalize up2 σ 0 4 0 = s at hJ hR ⊢
  generalize up2 μ 0 0 0 = u at hJ hR hw ⊢
  rcases hR with ⟨p1, p2⟩ | ⟨p1, p2, p3⟩ | ⟨p1, p2, p3, p4⟩ | ⟨p1, p2, p3, f, f0, f1, f2, f3⟩ | ⟨p1, p2, p3, f2, f3, k, hk, rfl, hS, i, n, len, rfl, rfl, hn, hl, el⟩
  · simp only [p1, p2, Option.bind_some, if_neg m1, if_true]
    exact ⟨-1, s, u, rfl, rfl, hJ⟩
  · simp only [p1, p2, p3, Option.bind_some, if_neg m2, if_neg m0, if_true]
    exact ⟨-2, s, u, rfl, rfl, hJ⟩
  · rcases hw with ⟨q1, -⟩ | ⟨-, q2 | ⟨q2, q3⟩⟩
    · rw [p3] at q1; exact absurd q1 (by decide)
    · simp only [p1, p2, p4, q2, Option.bind_some, if_neg m2, if_neg m0, if_true]
      exact ⟨-2, s, u, rfl, rfl, hJ⟩
    · simp only [p1, p2, p4, q2, q3, Option.bind_some, if_neg m2, if_neg m0, if_true]
      exact ⟨-2, s, u, rfl, rfl, hJ⟩
  · rcases hw with ⟨-, q2, -, q3⟩ | ⟨q1, -⟩
    · refine ⟨-10 - f, up2 s 0 4 f, up2 u 0 0 f, ?_, ?_, hJ.fault f⟩
      · rw [f3, Option.bind_some]
        exact if_neg f1
      · rw [p1, p2, q2, q3, f2, Option.bind_some, if_neg m0, if_neg m0, if_neg m0, if_neg m0, if_neg f0]
    · rw [p3] at q1; exact absurd q1 (by decide)
  · rcases hw with ⟨-, q2, q4, q3⟩ | ⟨q1, -⟩
    · have hg := gIn_nI (t := k) (n := 4) (by omega) (by decide)
      have hn3 : n ≤ 3 := by
        rw [nI_toInt (by omega)] at q4
        omega
      simp only [p1, p2, q2, q3, f2, f3, Option.bind_some, if_true, if_neg m0, if_pos hg, nI_clamp (show k < 2 ^ 31 by omega)]
      rcases open_or hJ with ⟨e1, e2⟩ | ⟨e1, e2⟩
      · simp only [e1, e2, if_true]
        exact ⟨-3, s, u, rfl, rfl, hJ⟩
      · simp only [e1, if_neg e2, if_neg m0]
        obtain ⟨N, hN, en⟩ := hJ.nr
        have := aresigns_loop (N := N) hN hk hS hn3 hn hl el x5 1000 0 0 u hJ rfl en (fun j hj => by omega) (by omega) (by omega) (by omega)
        rw [nI_0] at this
        unfold fX6_areSigns
        rw [xsieveE hJ hN en hk hS (by omega) x5]
        rcases this with ⟨b1, ν', b2, b3⟩ | ⟨b1, ν', b2, b3⟩
        · rw [b1, b2]
          exact ⟨-2, s, ν', rfl, rfl, b3⟩
        · rw [b1, b2]
          refine ⟨_, s, ν', ?_, rfl, b3⟩
          rw [Option.bind_some, if_neg m0]
          by_cases h5 : x5 = 0
          · simp only [if_pos h5, Option.bind_some]
          · simp only [if_neg h5, Option.bind_some]
    · rw [p3] at q1; exact absurd q1 (by decide)
theorem E_sieve (hI : Inv σ μ) (x1 : Int32) (x2 : Int32) (x3 : Int32) (x4 : Int32) (x5 : Int32) : ∃ (r : Int32) (τ : Sg) (ν : Sg), fX6_sieve x1 x2 x3 x4 x5 σ = some (r, τ) ∧ fX7_sieve x1 x2 x3 x4 x5 μ = some (r, ν) ∧ Inv τ ν := by
  unfold fX6_sieve
  rcases wi x4 0 3 (up2 μ 0 0 0) with ⟨w, hw⟩ | ⟨w, hw⟩
  · obtain ⟨r, τ, ν, h1, h2, h3⟩ := sieve_in hI x1 x2 x3 x4 x5 0 (Or.inl rfl) (Or.inr ⟨rfl, Or.inl w⟩)
    refine ⟨r, τ, ν, ?_, h2, h3⟩
    rw [h1]
    repeat' split
    all_goals (first | rfl | (exfalso; simp only [fa_lt, fa_le, fa_eq, L_m100, L_m10, L_m9, L_m4, L_m3, L_m2, L_m1, L_0, L_1, L_2, L_3, L_4, L_5, L_6, L_7, L_8, L_9, L_10, L_11, L_12, L_13, L_14, L_15, L_16, L_17, L_18, L_19, L_20, L_21, L_48, L_49, L_50, L_51, L_52, L_53, L_54, L_55, L_56, L_57, L_59, L_60, L_63, L_64, L_97, L_98, L_99, L_100, L_104, L_107, L_111, L_115, L_116, L_240] at *; omega) | (exfalso; simp only [fa_lt, fa_le, fa_eq, L_m100, L_m10, L_m9, L_m4, L_m3, L_m2, L_m1, L_0, L_1, L_2, L_3, L_4, L_5, L_6, L_7, L_8, L_9, L_10, L_11, L_12, L_13, L_14, L_15, L_16, L_17, L_18, L_19, L_20, L_21, L_48, L_49, L_50, L_51, L_52, L_53, L_54, L_55, L_56, L_57, L_59, L_60, L_63, L_64, L_97, L_98, L_99, L_100, L_104, L_107, L_111, L_115, L_116, L_240] at *; done) | contradiction)
  · rcases wi x5 0 1 (up2 μ 0 0 0) with ⟨v, hv⟩ | ⟨v, hv⟩
    · obtain ⟨r, τ, ν, h1, h2, h3⟩ := sieve_in hI x1 x2 x3 x4 x5 0 (Or.inl rfl) (Or.inr ⟨rfl, Or.inr ⟨w, v⟩⟩)
      refine ⟨r, τ, ν, ?_, h2, h3⟩
      rw [h1]
      repeat' split
      all_goals (first | rfl | (exfalso; simp only [fa_lt, fa_le, fa_eq, L_m100, L_m10, L_m9, L_m4, L_m3, L_m2, L_m1, L_0, L_1, L_2, L_3, L_4, L_5, L_6, L_7, L_8, L_9, L_10, L_11, L_12, L_13, L_14, L_15, L_16, L_17, L_18, L_19, L_20, L_21, L_48, L_49, L_50, L_51, L_52, L_53, L_54, L_55, L_56, L_57, L_59, L_60, L_63, L_64, L_97, L_98, L_99, L_100, L_104, L_107, L_111, L_115, L_116, L_240] at *; omega) | (exfalso; simp only [fa_lt, fa_le, fa_eq, L_m100, L_m10, L_m9, L_m4, L_m3, L_m2, L_m1, L_0, L_1, L_2, L_3, L_4, L_5, L_6, L_7, L_8, L_9, L_10, L_11, L_12, L_13, L_14, L_15, L_16, L_17, L_18, L_19, L_20, L_21, L_48, L_49, L_50, L_51, L_52, L_53, L_54, L_55, L_56, L_57, L_59, L_60, L_63, L_64, L_97, L_98, L_99, L_100, L_104, L_107, L_111, L_115, L_116, L_240] at *; done) | contradiction)
    · obtain ⟨r, τ, ν, h1, h2, h3⟩ := sieve_in hI x1 x2 x3 x4 x5 1 (Or.inr rfl) (Or.inl ⟨rfl, w, by simp only [L_3] at hw; omega, v⟩)
      refine ⟨r, τ, ν, ?_, h2, h3⟩
      rw [← h1]
      repeat' split
      all_goals (first | rfl | (exfalso; simp only [fa_lt, fa_le, fa_eq, L_m100, L_m10, L_m9, L_m4, L_m3, L_m2, L_m1, L_0, L_1, L_2, L_3, L_4, L_5, L_6, L_7, L_8, L_9, L_10, L_11, L_12, L_13, L_14, L_15, L_16, L_17, L_18, L_19, L_20, L_21, L_48, L_49, L_50, L_51, L_52, L_53, L_54, L_55, L_56, L_57, L_59, L_60, L_63, L_64, L_97, L_98, L_99, L_100, L_104, L_107, L_111, L_115, L_116, L_240] at *; omega) | (exfalso; simp only [fa_lt, fa_le, fa_eq, L_m100, L_m10, L_m9, L_m4, L_m3, L_m2, L_m1, L_0, L_1, L_2, L_3, L_4, L_5, L_6, L_7, L_8, L_9, L_10, L_11, L_12, L_13, L_14, L_15, L_16, L_17, L_18, L_19, L_20, L_21, L_48, L_49, L_50, L_51, L_52, L_53, L_54, L_55, L_56, L_57, L_59, L_60, L_63, L_64, L_97, L_98, L_99, L_100, L_104, L_107, L_111, L_115, L_116, L_240] at *; done) | contradiction)
end PUTD
