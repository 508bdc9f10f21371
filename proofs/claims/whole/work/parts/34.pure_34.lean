section PUT4
variable {σ μ : Sg}
theorem all_loop (hI : Inv σ μ) {N : Nat} (hN : N ≤ 6) (en : μ 0 10 = nI N) : ∀ (m t s a : Nat), t ≤ N → N - t < m → a ≤ s → s ≤ 9 * t → ∃ S A : Nat, A ≤ S ∧ S ≤ 54 ∧ fX2_buttons_4 σ m (nI s) (nI t) = some (nI S) ∧ fX7_allButtons_4 μ m (nI s) (nI t) = some (nI S) ∧ fX2_alikeButtons_4 σ m (nI a) (nI t) = some (nI A) ∧ fX7_alikeButtons_4 μ m (nI a) (nI t) = some (nI A) := by
  intro m
  induction m with
  | zero => intro t s a h1 h2; omega
  | succ m ih =>
    intro t s a h1 h2 h3 h4
    rw [fX2_buttons_4, fX7_allButtons_4, fX2_alikeButtons_4, fX7_alikeButtons_4, hI.n, en]
    by_cases h : N ≤ t
    · have hc : nI N ≤ nI t := nI_le h (by omega)
      simp only [if_pos hc]
      exact ⟨s, a, h3, by omega, rfl, rfl, rfl, rfl⟩
    · have hc : ¬ nI N ≤ nI t := nI_ge (by omega) (by omega)
      have hg := gIn_nI (t := t) (n := 6) (by omega) (by decide)
      have hT := hI.tube (t := t) (by omega)
      obtain ⟨k, hk, ek⟩ := hT.2.2.2.2.1.2
      obtain ⟨r, r1, r2, r3⟩ := alikeE hI (t := t) (by omega) hN en
      simp only [if_neg hc, if_pos hg, nI_clamp (show t < 2 ^ 31 by omega), hT.2.2.2.2.1.1, r1, r2, Option.bind_some, ek, nI_1]
      rcases r3 with rfl | rfl
      · simp only [if_pos, Int32.add_zero, nI_add]
        exact ih (t + 1) (s + k) a (by omega) (by omega) (by omega) (by omega)
      · simp only [if_neg (show ¬ (1 : Int32) = 0 by decide), nI_add]
        exact ih (t + 1) (s + k) (a + k) (by omega) (by omega) (by omega) (by omega)
theorem allE (hI : Inv σ μ) : ∃ S A : Nat, A ≤ S ∧ S ≤ 54 ∧ fX2_buttons σ = some (nI S) ∧ fX7_allButtons μ = some (nI S) ∧ fX2_alikeButtons σ = some (nI A) ∧ fX7_alikeButtons μ = some (nI A) := by
  obtain ⟨N, hN, en⟩ := hI.nr
  exact all_loop hI hN en 1000 0 0 0 (by omega) (by omega) (by omega) (by omega)
theorem E_many (hI : Inv σ μ) (x1 : Int32) : ∃ (r : Int32), fX6_many x1 σ = some r ∧ fX7_many x1 μ = some r := by
  obtain ⟨S, A, -, -, h1, h2, -, -⟩ := allE hI
  unfold fX6_many fX7_many
  rw [h1, h2, hI.n, hI.near, hI.2.2.2.1.1]
  repeat' split
  all_goals exact ⟨_, rfl, rfl⟩
theorem set_loop (hI : Inv σ μ) {N : Nat} (hN : N ≤ 6) (en : μ 0 10 = nI N) (x1 : Int32) : ∀ (m t : Nat) (x2 : Int32), t ≤ N → N - t < m → ∃ r, fX2_cheapest_5 σ x1 m x2 (nI t) = some r ∧ fX7_set_28 μ x1 m x2 (nI t) = some r := by
  intro m
  induction m with
  | zero => intro t x2 h1 h2; omega
  | succ m ih =>
    intro t x2 h1 h2
    rw [fX2_cheapest_5, fX7_set_28, hI.n, en]
    by_cases h : N ≤ t
    · have hc : nI N ≤ nI t := nI_le h (by omega)
      simp only [if_pos hc]
      exact ⟨_, rfl, rfl⟩
    · have hc : ¬ nI N ≤ nI t := nI_ge (by omega) (by omega)
      have hg := gIn_nI (t := t) (n := 6) (by omega) (by decide)
      have hT := hI.tube (t := t) (by omega)
      simp only [if_neg hc, if_pos hg, nI_clamp (show t < 2 ^ 31 by omega), hT.2.2.2.2.1.1, hT.2.2.2.2.2.1, nI_1, fX7_set_64]
      repeat' split
      all_goals exact ih (t + 1) _ (by omega) (by omega)
theorem E_set (hI : Inv σ μ) (x1 : Int32) : ∃ (r : Int32), fX6_set x1 σ = some r ∧ fX7_set x1 μ = some r := by
  obtain ⟨N, hN, en⟩ := hI.nr
  obtain ⟨r, h1, h2⟩ := set_loop hI hN en x1 1000 0 (-9) (by omega) (by omega)
  unfold fX6_set fX7_set fX2_cheapest
  rw [show fX2_cheapest_5 σ x1 1000 (-9) 0 = some r from h1, show fX7_set_28 μ x1 1000 (-9) 0 = some r from h2]
  rcases wi x1 1 9 μ with ⟨w, hw⟩ | ⟨w, hw⟩
  · rw [w]
    refine ⟨-2, ?_, rfl⟩
    repeat' split
    all_goals (first | rfl | (exfalso; simp only [fa_lt, fa_le, fa_eq, L_m100, L_m10, L_m9, L_m4, L_m3, L_m2, L_m1, L_0, L_1, L_2, L_3, L_4, L_5, L_6, L_7, L_8, L_9, L_10, L_11, L_12, L_13, L_14, L_15, L_16, L_17, L_18, L_19, L_20, L_21, L_48, L_49, L_50, L_51, L_52, L_53, L_54, L_55, L_56, L_57, L_59, L_60, L_63, L_64, L_97, L_98, L_99, L_100, L_104, L_107, L_111, L_115, L_116, L_240] at *; omega) | (exfalso; simp only [fa_lt, fa_le, fa_eq, L_m100, L_m10, L_m9, L_m4, L_m3, L_m2, L_m1, L_0, L_1, L_2, L_3, L_4, L_5, L_6, L_7, L_8, L_9, L_10, L_11, L_12, L_13, L_14, L_15, L_16, L_17, L_18, L_19, L_20, L_21, L_48, L_49, L_50, L_51, L_52, L_53, L_54, L_55, L_56, L_57, L_59, L_60, L_63, L_64, L_97, L_98, L_99, L_100, L_104, L_107, L_111, L_115, L_116, L_240] at *; done) | contradiction)
  · rw [w]
    rcases open_or hI with ⟨e1, e2⟩ | ⟨e1, e2⟩
    · rw [e1, e2]
      refine ⟨-3, ?_, rfl⟩
      repeat' split
      all_goals (first | rfl | (exfalso; simp only [fa_lt, fa_le, fa_eq, L_m100, L_m10, L_m9, L_m4, L_m3, L_m2, L_m1, L_0, L_1, L_2, L_3, L_4, L_5, L_6, L_7, L_8, L_9, L_10, L_11, L_12, L_13, L_14, L_15, L_16, L_17, L_18, L_19, L_20, L_21, L_48, L_49, L_50, L_51, L_52, L_53, L_54, L_55, L_56, L_57, L_59, L_60, L_63, L_64, L_97, L_98, L_99, L_100, L_104, L_107, L_111, L_115, L_116, L_240] at *; omega) | (exfalso; simp only [fa_lt, fa_le, fa_eq, L_m100, L_m10, L_m9, L_m4, L_m3, L_m2, L_m1, L_0, L_1, L_2, L_3, L_4, L_5, L_6, L_7, L_8, L_9, L_10, L_11, L_12, L_13, L_14, L_15, L_16, L_17, L_18, L_19, L_20, L_21, L_48, L_49, L_50, L_51, L_52, L_53, L_54, L_55, L_56, L_57, L_59, L_60, L_63, L_64, L_97, L_98, L_99, L_100, L_104, L_107, L_111, L_115, L_116, L_240] at *; done) | contradiction)
    · rw [e1]
      refine ⟨r, ?_, ?_⟩
      · repeat' split
        all_goals (first | rfl | (exfalso; simp only [fa_lt, fa_le, fa_eq, L_m100, L_m10, L_m9, L_m4, L_m3, L_m2, L_m1, L_0, L_1, L_2, L_3, L_4, L_5, L_6, L_7, L_8, L_9, L_10, L_11, L_12, L_13, L_14, L_15, L_16, L_17, L_18, L_19, L_20, L_21, L_48, L_49, L_50, L_51, L_52, L_53, L_54, L_55, L_56, L_57, L_59, L_60, L_63, L_64, L_97, L_98, L_99, L_100, L_104, L_107, L_111, L_115, L_116, L_240] at *; omega) | (exfalso; simp only [fa_lt, fa_le, fa_eq, L_m100, L_m10, L_m9, L_m4, L_m3, L_m2, L_m1, L_0, L_1, L_2, L_3, L_4, L_5, L_6, L_7, L_8, L_9, L_10, L_11, L_12, L_13, L_14, L_15, L_16, L_17, L_18, L_19, L_20, L_21, L_48, L_49, L_50, L_51, L_52, L_53, L_54, L_55, L_56, L_57, L_59, L_60, L_63, L_64, L_97, L_98, L_99, L_100, L_104, L_107, L_111, L_115, L_116, L_240] at *; done) | contradiction)
      · rw [if_neg (by decide), if_neg e2]
theorem Inv.addReading (hI : Inv σ μ) {c t N : Nat} (hc : c < 8) (e8 : μ 0 30 = nI c) (ht : t < N) (hN : N ≤ 6) (en : μ 0 10 = nI N) (b : Int32) : Inv (up2 (up2 (up2 σ 20 c (nI t)) 21 c b) 19 2 (nI (c + 1))) (up2 (up2 (up2 μ 16 c (nI t)) 17 c b) 0 30 (nI (c + 1))) := by
  obtain ⟨⟨ec, -⟩, h2, h3⟩ := hI.2.2.2
  refine ⟨⟨?_, ?_⟩, hI.2.1.congr (fun a h1 h2 => by rw [up_nc (by omega), up_nc (by omega), up_nc (by omega)]) (by rw [up_nc (by omega), up_nc (by omega), up_nc (by omega)]) (by rw [up_nc (by omega), up_nc (by omega), up_nc (by omega)]) (by rw [up_nc (by omega), up_nc (by omega), up_nc (by omega)]), hI.2.2.1.congr (fun k h1 h2 => by rw [up_nc (by omega), up_nc (by omega), up_nc (by omega)]) (by rw [up_nc (by omega), up_nc (by omega), up_nc (by omega)]) (fun a h1 h2 => by rw [up_nc (by omega), up_nc (by omega), up_nc (by omega)]) (fun k hk => by rw [up_nk (by omega), up_nc (by omega), up_nc (by omega)]) (fun a h1 h2 => by rw [up_nc (by omega), up_nc (by omega), up_nc (by omega)]), ⟨?_, ?_⟩, ?_, ?_⟩
  · rw [up_nc (by omega), up_nc (by omega), up_nc (by omega), up_nk (by omega), up_nc (by omega), up_nc (by omega)]; exact hI.1.1
  · rw [up_nc (by omega), up_nc (by omega), up_nc (by omega), up_nk (by omega), up_nc (by omega), up_nc (by omega)]; exact hI.1.2
  · rw [up_eq, up_eq]
  · rw [up_eq]; exact ⟨c + 1, by omega, rfl⟩
  · intro q hq
    simp only [up_at]
    obtain ⟨q1, q2⟩ := h2 q hq
    by_cases e : q = c
    · subst e
      simp
    · simp [e, q1, q2]
  · rw [up_eq]
    intro q hq
    rw [nI_clamp (by omega)] at hq
    simp only [up_at]
    by_cases e : q = c
    · subst e
      simp only [Nat.reduceEqDiff, false_and, and_false, and_self, if_true, if_false, en, nI_clamp (show N < 2 ^ 31 by omega)]
      exact gIn_nI ht (by omega)
    · have := h3 q (by rw [e8, nI_clamp (by omega)]; omega)
      simp only [e, Nat.reduceEqDiff, false_and, and_false, and_self, if_true, if_false]
      exact this
theorem E_reading (hI : Inv σ μ) (x1 : Int32) (x2 : Int32) (hx2 : x2 = 0 ∨ x2 = 1) : ∃ (r : Int32) (τ : Sg) (ν : Sg), fX6_reading x1 x2 σ = some (r, τ) ∧ fX7_reading x1 x2 μ = some (r, ν) ∧ Inv τ ν := by
  obtain ⟨⟨ec, c, hc, e8⟩, h2, h3⟩ := hI.2.2.2
  unfold fX6_reading fX7_reading fX0_add
  rcases tube_or hI x1 with ⟨a1, a2⟩ | ⟨a1, a2, t, N, ht, hN, rfl, en⟩
  · rw [a1, a2]
    exact ⟨-1, σ, μ, rfl, rfl, hI⟩
  · rw [a1, a2, ec, e8]
    by_cases h8 : c = 8
    · subst h8
      exact ⟨-4, σ, μ, rfl, rfl, hI⟩
    · have c1 : nI c < 8 := nI_lt (show c < 8 by omega) (by decide)
      have c2 : ¬ nI c = 8 := by
        rw [show (8 : Int32) = nI 8 from rfl, nI_eq (by omega) (by omega)]
        omega
      have hg := gIn_nI (t := c) (n := 8) (by omega) (by decide)
      have e1 : nI c + 1 - 1 = nI c := by rw [nI_1, nI_pred]
      simp only [if_pos c1, if_neg c2, if_pos hg, nI_clamp (show c < 2 ^ 31 by omega), nI_1, nI_pred]
      exact ⟨nI c, _, _, rfl, rfl, hI.addReading (by omega) e8 ht hN en _⟩
theorem markE (hI : Inv σ μ) (v : Int32) : Inv (fX6_mark v σ) (fX7_begins v μ) := by
  unfold fX6_mark fX7_begins
  rw [hI.1.1]
  exact hI.trace _
theorem E_tell (hI : Inv σ μ) (x1 : Int32) : ∃ (r : Int32) (τ : Sg) (ν : Sg), fX6_tell x1 σ = some (r, τ) ∧ fX7_tell x1 μ = some (r, ν) ∧ Inv τ ν := by
  unfold fX6_tell fX7_tell
  rcases tube_or hI x1 with ⟨a1, a2⟩ | ⟨a1, a2, t, N, ht, hN, rfl, en⟩
  · rw [a1, a2]
    exact ⟨-1, σ, μ, rfl, rfl, hI⟩
  · have hg := gIn_nI (t := t) (n := 6) (by omega) (by decide)
    have hT := hI.tube (t := t) (by omega)
    obtain ⟨k, hk, ek⟩ := hT.1.2
    obtain ⟨p, hp, ep⟩ := hT.2.2.2.2.2.2
    have pe : ∀ (v : Int32) (s : Sg), (fX6_mark v s) (13 + t) 5 = s (13 + t) 5 := fun v s => by unfold fX6_mark; rw [up_nc (by omega)]
    rw [a1, a2]
    simp only [if_pos hg, nI_clamp (show t < 2 ^ 31 by omega), hT.1.1, fX6_oldTelling, fX6_shadedTelling, fX6_tubeTelling, pe, hT.2.2.2.2.2.1, ek, ep]
    match k, hk with
    | 0, _ => exact ⟨_, _, _, rfl, rfl, markE hI 1⟩
    | 1, _ => exact ⟨_, _, _, rfl, rfl, markE (markE hI 2) 1⟩
    | 2, _ =>
      refine ⟨2 * nI p + 100, _, _, ?_, rfl, markE (markE (markE (markE hI 3) 2) 1) 1⟩
      have := fin_lt (P := fun p => nI p + 100 + nI p = 2 * nI p + 100) (N := 10) (by decide +kernel) (i := p) (by omega)
      rw [← this]
      rfl
theorem E_rattle (hI : Inv σ μ) (x1 : Int32) : ∃ (r : Int32) (τ : Sg) (ν : Sg), fX6_rattle x1 σ = some (r, τ) ∧ fX7_rattle x1 μ = some (r, ν) ∧ Inv τ ν := by
  unfold fX6_rattle fX7_rattle fX7_rattle_26
  rcases tube_or hI x1 with ⟨a1, a2⟩ | ⟨a1, a2, t, N, ht, hN, rfl, en⟩
  · rw [a1, a2]
    exact ⟨-1, σ, μ, rfl, rfl, hI⟩
  · have hg := gIn_nI (t := t) (n := 6) (by omega) (by decide)
    have hT := hI.tube (t := t) (by omega)
    have pe : ∀ (v : Int32) (s : Sg), (fX7_begins v s) 5 t = s 5 t := fun v s => by unfold fX7_begins; rw [up_nc (by omega)]
    rw [a1, a2]
    simp only [if_pos hg, nI_clamp (show t < 2 ^ 31 by omega), hT.1.1, pe, fX6_oldRattling, fX6_lentRattling]
    by_cases hk : μ 5 t = 2
    · simp only [if_pos hk]
      exact ⟨_, _, _, rfl, rfl, markE hI 5⟩
    · simp only [if_neg hk]
      exact ⟨_, _, _, rfl, rfl, markE hI 4⟩
theorem E_as (hI : Inv σ μ) (x1 : Int32) (x2 : Int32) : ∃ (r : Int32) (τ : Sg) (ν : Sg), fX6_as x1 x2 σ = some (r, τ) ∧ fX7_as x1 x2 μ = some (r, ν) ∧ Inv τ ν := by
  have hJ := hI.fault 0
  unfold fX6_as fX7_as
  rcases tube_or hJ x1 with ⟨a1, a2⟩ | ⟨a1, a2, t, N, ht, hN, rfl, en⟩
  · rw [a1, a2]
    exact ⟨-1, _, _, rfl, rfl, hJ⟩
  · have hg := gIn_nI (t := t) (n := 6) (by omega) (by decide)
    have hT := hJ.tube (t := t) (by omega)
    rw [a1, a2]
    simp only [if_pos hg, nI_clamp (show t < 2 ^ 31 by omega), hT.1.1, fX6_faulted, fX7_fails]
    rcases wi x2 0 2 (up2 μ 0 0 0) with ⟨w, hw⟩ | ⟨w, hw⟩
    · rw [w]
      refine ⟨-2, up2 σ 0 4 0, up2 μ 0 0 0, ?_, rfl, hJ⟩
      repeat' split
      all_goals (first | rfl | (exfalso; simp only [fa_lt, fa_le, fa_eq, L_m100, L_m10, L_m9, L_m4, L_m3, L_m2, L_m1, L_0, L_1, L_2, L_3, L_4, L_5, L_6, L_7, L_8, L_9, L_10, L_11, L_12, L_13, L_14, L_15, L_16, L_17, L_18, L_19, L_20, L_21, L_48, L_49, L_50, L_51, L_52, L_53, L_54, L_55, L_56, L_57, L_59, L_60, L_63, L_64, L_97, L_98, L_99, L_100, L_104, L_107, L_111, L_115, L_116, L_240] at *; omega) | (exfalso; simp only [fa_lt, fa_le, fa_eq, L_m100, L_m10, L_m9, L_m4, L_m3, L_m2, L_m1, L_0, L_1, L_2, L_3, L_4, L_5, L_6, L_7, L_8, L_9, L_10, L_11, L_12, L_13, L_14, L_15, L_16, L_17, L_18, L_19, L_20, L_21, L_48, L_49, L_50, L_51, L_52, L_53, L_54, L_55, L_56, L_57, L_59, L_60, L_63, L_64, L_97, L_98, L_99, L_100, L_104, L_107, L_111, L_115, L_116, L_240] at *; done) | contradiction)
    · rw [w]
      by_cases hk : (up2 μ 0 0 0) 5 t < x2
      · refine ⟨-10 - 2, up2 (up2 σ 0 4 0) 0 4 2, up2 (up2 μ 0 0 0) 0 0 2, ?_, ?_, hJ.fault 2⟩
        · simp only [if_pos hk]
          repeat' split
          all_goals (first | rfl | (exfalso; simp only [fa_lt, fa_le, fa_eq, L_m100, L_m10, L_m9, L_m4, L_m3, L_m2, L_m1, L_0, L_1, L_2, L_3, L_4, L_5, L_6, L_7, L_8, L_9, L_10, L_11, L_12, L_13, L_14, L_15, L_16, L_17, L_18, L_19, L_20, L_21, L_48, L_49, L_50, L_51, L_52, L_53, L_54, L_55, L_56, L_57, L_59, L_60, L_63, L_64, L_97, L_98, L_99, L_100, L_104, L_107, L_111, L_115, L_116, L_240] at *; omega) | (exfalso; simp only [fa_lt, fa_le, fa_eq, L_m100, L_m10, L_m9, L_m4, L_m3, L_m2, L_m1, L_0, L_1, L_2, L_3, L_4, L_5, L_6, L_7, L_8, L_9, L_10, L_11, L_12, L_13, L_14, L_15, L_16, L_17, L_18, L_19, L_20, L_21, L_48, L_49, L_50, L_51, L_52, L_53, L_54, L_55, L_56, L_57, L_59, L_60, L_63, L_64, L_97, L_98, L_99, L_100, L_104, L_107, L_111, L_115, L_116, L_240] at *; done) | contradiction)
        · rw [if_neg (by decide)]
          exact if_pos hk
      · refine ⟨1, up2 σ 0 4 0, up2 μ 0 0 0, ?_, ?_, hJ⟩
        · simp only [if_neg hk]
          repeat' split
          all_goals (first | rfl | (exfalso; simp only [fa_lt, fa_le, fa_eq, L_m100, L_m10, L_m9, L_m4, L_m3, L_m2, L_m1, L_0, L_1, L_2, L_3, L_4, L_5, L_6, L_7, L_8, L_9, L_10, L_11, L_12, L_13, L_14, L_15, L_16, L_17, L_18, L_19, L_20, L_21, L_48, L_49, L_50, L_51, L_52, L_53, L_54, L_55, L_56, L_57, L_59, L_60, L_63, L_64, L_97, L_98, L_99, L_100, L_104, L_107, L_111, L_115, L_116, L_240] at *; omega) | (exfalso; simp only [fa_lt, fa_le, fa_eq, L_m100, L_m10, L_m9, L_m4, L_m3, L_m2, L_m1, L_0, L_1, L_2, L_3, L_4, L_5, L_6, L_7, L_8, L_9, L_10, L_11, L_12, L_13, L_14, L_15, L_16, L_17, L_18, L_19, L_20, L_21, L_48, L_49, L_50, L_51, L_52, L_53, L_54, L_55, L_56, L_57, L_59, L_60, L_63, L_64, L_97, L_98, L_99, L_100, L_104, L_107, L_111, L_115, L_116, L_240] at *; done) | contradiction)
        · rw [if_neg (by decide)]
          exact if_neg hk
end PUT4
