section PUTG
variable {σ μ s u : Sg} {N : Nat}
theorem walk1 : walk 1 999 r0 = true := by decide +kernel
theorem walk2 : walk 2 999 r0 = true := by decide +kernel
theorem walk3 : walk 3 999 r0 = true := by decide +kernel
theorem walk4 : walk 4 999 r0 = true := by decide +kernel
theorem walk5 : walk 5 999 r0 = true := by decide +kernel
theorem walk_all (hN : N ≤ 6) (h0 : 0 < N) : walk N 999 r0 = true := by
  match N, hN, h0 with
  | 1, _, _ => exact walk1
  | 2, _, _ => exact walk2
  | 3, _, _ => exact walk3
  | 4, _, _ => exact walk4
  | 5, _, _ => exact walk5
  | 6, _, _ => exact walk6
theorem first_all (hN : N ≤ 6) : fX7_quickOf (cs N r0) = some (nI (N * N)) := fin_lt (P := fun N => fX7_quickOf (cs N r0) = some (nI (N * N))) (N := 7) (by decide +kernel) (by omega)
theorem walk_out {n r : Nat} (h : walk N (n + 1) r = true) : ∃ z y d, fX7_quickOf (cs N r) = some z ∧ fX7_nextRow (cs N r) = some (y, d) ∧ nI (N * N) ≤ z ∧ ((y = 0 ∧ 0 < n) ∨ (y = 1 ∧ same N d (pk6 d) = true ∧ walk N n (pk6 d) = true)) := by
  rw [walk] at h
  rcases hq : fX7_quickOf (cs N r) with _ | z
  · rw [hq] at h; exact absurd h (by simp)
  · rcases hn : fX7_nextRow (cs N r) with _ | ⟨y, d⟩
    · rw [hq, hn] at h; exact absurd h (by simp)
    · rw [hq, hn] at h
      simp only [Bool.and_eq_true, force_eq] at h
      refine ⟨z, y, d, rfl, rfl, of_decide_eq_true h.1, ?_⟩
      by_cases hy : y = 0
      · left
        have := h.2
        rw [if_pos hy] at this
        exact ⟨hy, of_decide_eq_true this⟩
      · right
        have := h.2
        rw [if_neg hy, Bool.and_eq_true, Bool.and_eq_true] at this
        exact ⟨of_decide_eq_true this.1, this.2.1, this.2.2⟩
theorem walk_more : ∀ {n r : Nat}, walk N n r = true → walk N (n + 1) r = true := by
  intro n
  induction n with
  | zero => intro r h; exact absurd h (by simp [walk])
  | succ n ih =>
    intro r h
    obtain ⟨z, y, d, h1, h2, h3, h4⟩ := walk_out h
    rw [walk, h1, h2]
    simp only [Bool.and_eq_true, force_eq]
    refine ⟨decide_eq_true h3, ?_⟩
    rcases h4 with ⟨rfl, h5⟩ | ⟨rfl, h5, h6⟩
    · rw [if_pos rfl]; exact decide_eq_true (by omega)
    · rw [if_neg (by decide), Bool.and_eq_true, Bool.and_eq_true]
      exact ⟨decide_eq_true rfl, h5, ih h6⟩
theorem sq_ne : ∀ N : Fin 7, ¬ nI (N.val * N.val) = -9 := by decide +kernel
theorem fr_end (x1 x2 : Int32) {n : Nat} (hn : 0 < n) (ν : Sg) : fX7_findRow_21 x1 n x2 0 ν = some (x2, ν) := by
  obtain ⟨m, rfl⟩ : ∃ m, n = m + 1 := ⟨n - 1, by omega⟩
  rw [fX7_findRow_21, if_pos rfl]
theorem walk_run (hN : N ≤ 6) : ∀ (n r : Nat) (ν : Sg), walk N n r = true → Ag N ν (cs N r) → ν 0 10 = nI N → ∃ τ, fX7_findRow_21 1 n (nI (N * N)) 1 ν = some (nI (N * N), τ) ∧ Kq ν τ := by
  intro n
  induction n with
  | zero => intro r ν h; exact absurd h (by simp [walk])
  | succ n ih =>
    intro r ν h hA e
    obtain ⟨z, y, d, h1, h2, h3, h4⟩ := walk_out h
    rw [fX7_findRow_21, if_neg (by decide), if_neg (by decide), quickE hN hA e rfl, h1, Option.bind_some]
    unfold fX7_findRow_40
    rw [if_neg (sq_ne ⟨N, by omega⟩), if_pos h3]
    obtain ⟨τ, t1, t2, t3⟩ := next_ag hN hA h2
    rw [t1, Option.bind_some]
    rcases h4 with ⟨rfl, h5⟩ | ⟨rfl, h5, h6⟩
    · exact ⟨τ, fr_end _ _ h5 τ, t3⟩
    · obtain ⟨τ2, w1, w2⟩ := ih (pk6 d) τ h6 (same_ag hN h5 t2) (by rw [t3 0 (by omega)]; exact e)
      exact ⟨τ2, w1, t3.tr w2⟩
theorem Scr.kq {ν τ : Sg} (h : Kq ν τ) : Scr ν τ := ⟨fun k _ _ _ _ _ => by rw [h 0 (by omega)], fun a _ _ _ _ e _ => h a e⟩
theorem Scr.k15 {ν τ : Sg} (h : ∀ a, a ≠ 15 → τ a = ν a) : Scr ν τ := ⟨fun k _ _ _ _ _ => by rw [h 0 (by omega)], fun a _ _ _ _ _ f => h a f⟩
theorem findE (hN : N ≤ 6) (h0 : 0 < N) {ν : Sg} (en : ν 0 10 = nI N) : ∃ τ, fX7_findRow 1 ν = some (nI (N * N), τ) ∧ Scr ν τ ∧ ∀ k, k < N → τ 15 k = nI k := by
  unfold fX7_findRow
  rw [if_neg (by decide), en]
  obtain ⟨ν1, b1, b2, b3, b4⟩ := beginE hN ν
  have e1 : ν1 0 10 = nI N := by rw [b2.1 10 (by omega) (by omega) (by omega) (by omega) (by omega)]; exact en
  rw [b1, Option.bind_some, fX7_findRow_21, if_neg (by decide), if_neg (by decide), quickE hN b3 e1 rfl, first_all hN, Option.bind_some]
  unfold fX7_findRow_40
  rw [if_pos rfl]
  obtain ⟨ν2, c1, c2, c3, -⟩ := fr60 hN 1 (nI (N * N)) (fX7_findRow_21 1 999) 1000 0 ν1 b3.1.1 (by omega) (by omega)
  rw [nI_0] at c1
  rw [c1]
  have A2 : Ag N ν2 (cs N r0) := ⟨⟨by rw [c2 0 (by omega)]; exact b3.1.1, rfl⟩, fun k hk => by rw [c2 14 (by omega)]; exact b3.2 k hk⟩
  have e2 : ν2 0 10 = nI N := by rw [c2 0 (by omega)]; exact e1
  obtain ⟨z, y, d, h1, h2, h3, h4⟩ := walk_out (walk_all hN h0)
  obtain ⟨τ, t1, t2, t3⟩ := next_ag hN A2 h2
  rw [t1, Option.bind_some]
  have f15 : ∀ k, k < N → ν2 15 k = nI k := fun k hk => by rw [c3 k (by omega) hk]; exact b4 k hk
  rcases h4 with ⟨rfl, h5⟩ | ⟨rfl, h5, h6⟩
  · exact ⟨τ, fr_end _ _ (by omega) τ, (b2.tr (Scr.k15 c2)).tr (Scr.kq t3), fun k hk => by rw [t3 15 (by omega)]; exact f15 k hk⟩
  · have h7 : walk N 999 (pk6 d) = true := walk_more h6
    obtain ⟨τ2, w1, w2⟩ := walk_run hN 999 (pk6 d) τ h7 (same_ag hN h5 t2) (by rw [t3 0 (by omega)]; exact e2)
    exact ⟨τ2, w1, ((b2.tr (Scr.k15 c2)).tr (Scr.kq t3)).tr (Scr.kq w2), fun k hk => by rw [w2 15 (by omega), t3 15 (by omega)]; exact f15 k hk⟩
theorem E_quick (hI : Inv σ μ) (x1 : Int32) : ∃ (r : Int32) (ν : Sg), fX6_quick x1 σ = r ∧ fX7_quick x1 μ = some (r, ν) ∧ Inv σ ν := by
  unfold fX6_quick fX7_quick
  by_cases hx : (-1 : Int32) ≤ x1
  · rw [if_pos hx, if_pos hx]
    rcases open_or hI with ⟨e1, e2⟩ | ⟨e1, e2⟩
    · rw [e1, e2, if_pos rfl, if_pos rfl]
      exact ⟨-3, μ, rfl, rfl, hI⟩
    · rw [e1, if_neg (by decide), if_neg e2]
      obtain ⟨N, hN, en⟩ := hI.nr
      have h0 : 0 < N := by
        rcases Nat.eq_zero_or_pos N with h | h
        · subst h; exact absurd en e2
        · exact h
      obtain ⟨τ, f1, f2, f3⟩ := findE hN h0 en
      have hJ := hI.scr f2
      rw [f1, hI.n, en, Option.bind_some]
      by_cases h1 : x1 = -1
      · rw [if_pos h1, pk_mul]
        refine ⟨_, τ, rfl, ?_, hJ⟩
        rw [if_pos h1]
      · rw [if_neg h1]
        have et : τ 0 10 = nI N := by rw [f2.1 10 (by omega) (by omega) (by omega) (by omega) (by omega)]; exact en
        have hp : ¬ x1 < 0 := by (simp only [fa_lt, fa_le, fa_eq, L_m100, L_m10, L_m9, L_m4, L_m3, L_m2, L_m1, L_0, L_1, L_2, L_3, L_4, L_5, L_6, L_7, L_8, L_9, L_10, L_11, L_12, L_13, L_14, L_15, L_16, L_17, L_18, L_19, L_20, L_21, L_48, L_49, L_50, L_51, L_52, L_53, L_54, L_55, L_56, L_57, L_59, L_60, L_63, L_64, L_97, L_98, L_99, L_100, L_104, L_107, L_111, L_115, L_116, L_240] at *; omega)
        unfold fX7_isTube
        dsimp only
        rw [if_neg h1, if_neg hp]
        simp only [et]
        by_cases h2 : nI N ≤ x1
        · simp only [if_pos h2, if_true]
          exact ⟨-9, τ, rfl, rfl, hJ⟩
        · obtain ⟨t, ht, rfl⟩ := nI_of hp
          simp only [if_neg h2, if_neg (show ¬ (1 : Int32) = 0 by decide)]
          rw [nI_leI (by omega) ht] at h2
          have g := gIn_nI (t := t) (n := 6) (by omega) (by decide)
          rw [if_pos g, nI_clamp (by omega), f3 t (by omega)]
          exact ⟨nI t, τ, rfl, rfl, hJ⟩
  · rw [if_neg hx, if_neg hx]
    exact ⟨-1, μ, rfl, rfl, hI⟩
end PUTG
