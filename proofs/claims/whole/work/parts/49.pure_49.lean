section PUTJ
variable {σ μ : Sg}
theorem small_all {S d : Nat} (hS : S ≤ 54) (hd : d ≤ 9) : ff S d < 2 ^ 52 ∧ pas S d < 2 ^ 33 := by
  have := fin_lt (P := fun S => ∀ d : Fin 10, ff S d.val < 2 ^ 52 ∧ ff S d.val / fct d.val < 2 ^ 33) (N := 55) (by decide +kernel) (i := S) (by omega) ⟨d, by omega⟩
  rw [pas_q]
  exact this
theorem share_tin {S A d : Nat} (hS : S ≤ 54) (hA : A ≤ S) (hd : d ≤ 9) (hdS : d ≤ S) (x2 : Int32) (s u : Sg) (hal : fX7_alikeButtons u = some (nI A)) : ∃ r : Int64, fX4_share (nI S) (nI A) (nI d) x2 s = some r ∧ fX7_tin_45 u x2 (nI S) (nI d) = some r := by
  obtain ⟨b1, b2⟩ := small_all hS hd
  have hpl : pas (S - A) d ≤ pas S d := pas_le (by omega)
  have hp0 : 0 < pas S d := pas_pos hdS
  have hf0 := fct_pos d
  have e1 : ff S d = fct d * pas S d := ff_pas S d
  have e2 : ff (S - A) d = fct d * pas (S - A) d := ff_pas (S - A) d
  have hfl : ff (S - A) d ≤ ff S d := by rw [e1, e2]; exact Nat.mul_le_mul_left _ hpl
  have e3 : ff S d - ff (S - A) d = fct d * (pas S d - pas (S - A) d) := by rw [e1, e2, Nat.mul_sub]
  have hg0 : 0 < Nat.gcd (pas S d) (pas S d - pas (S - A) d) := Nat.gcd_pos_of_pos_left _ hp0
  have hgl : Nat.gcd (pas S d) (pas S d - pas (S - A) d) ≤ pas S d := Nat.gcd_le_left _ hp0
  have e4 : Nat.gcd (ff S d - ff (S - A) d) (ff S d) = fct d * Nat.gcd (pas S d) (pas S d - pas (S - A) d) := by
    rw [e3, e1, Nat.gcd_mul_left, Nat.gcd_comm]
  have hG0 : 0 < fct d * Nat.gcd (pas S d) (pas S d - pas (S - A) d) := Nat.mul_pos hf0 hg0
  have hGl : fct d * Nat.gcd (pas S d) (pas S d - pas (S - A) d) ≤ ff S d := by rw [e1]; exact Nat.mul_le_mul_left _ hgl
  have c1 := comm_loop s 33 1000 0 (pas S d) (pas S d - pas (S - A) d) (by omega) (by omega) (by omega) (by omega) (by omega)
  rw [nI_0] at c1
  have c2 := least_loop u (lN (ff S d - ff (S - A) d)) (lN (ff S d)) x2 52 1000 (ff S d - ff (S - A) d) (ff S d) (by omega) (by omega) (by omega) (by omega)
  rw [e4] at c2
  have w1 := waysE s (S := S) (d := d) hS (by omega)
  have w2 := waysE s (S := S - A) (d := d) (by omega) (by omega)
  have f1 := fallE u (n := S) (d := d) hS (by omega)
  have f2 := fallE u (n := S - A) (d := d) (by omega) (by omega)
  have c1' : fX4_commonDivisor (lN (pas S d)) (lN (pas S d - pas (S - A) d)) s = some (lN (Nat.gcd (pas S d) (pas S d - pas (S - A) d))) := c1
  unfold fX4_share fX7_tin_45 fX7_inLeastTerms
  rw [pk_sub hA, w1, w2, f1, hal]
  simp only [Option.bind_some]
  rw [pk_sub hA, f2]
  simp only [Option.bind_some]
  rw [lN_sub hpl, lN_sub hfl, c1', c2, if_pos (lne0 hG0 (by omega))]
  simp only [Option.bind_some]
  have hn1 : ¬ lN (Nat.gcd (pas S d) (pas S d - pas (S - A) d)) < 1 := fun q => by
    have := (pk_lLT (a := Nat.gcd (pas S d) (pas S d - pas (S - A) d)) (b := 1) (by omega) (by decide)).mp q
    omega
  rw [if_neg hn1, if_pos (lne0 hg0 (by omega)), if_pos (lne0 hg0 (by omega)), if_pos (lne0 hG0 (by omega))]
  rw [pk_lDiv (by omega) hg0 (by omega), pk_lDiv (by omega) hg0 (by omega), pk_lDiv (by omega) hG0 (by omega), pk_lDiv (by omega) hG0 (by omega)]
  have q1 : (ff S d - ff (S - A) d) / (fct d * Nat.gcd (pas S d) (pas S d - pas (S - A) d)) = (pas S d - pas (S - A) d) / Nat.gcd (pas S d) (pas S d - pas (S - A) d) := by
    rw [e3, Nat.mul_div_mul_left _ _ hf0]
  have q2 : ff S d / (fct d * Nat.gcd (pas S d) (pas S d - pas (S - A) d)) = pas S d / Nat.gcd (pas S d) (pas S d - pas (S - A) d) := by
    rw [e1, Nat.mul_div_mul_left _ _ hf0]
  rw [q1, q2]
  by_cases h : x2 = 0
  · simp only [if_pos h, Option.bind_some]
    exact ⟨_, rfl, rfl⟩
  · simp only [if_neg h, Option.bind_some]
    exact ⟨_, rfl, rfl⟩
theorem E_tin (hI : Inv σ μ) (x1 : Int32) (x2 : Int32) : ∃ (r : Int64), fX6_tin x1 x2 σ = some r ∧ fX7_tin x1 x2 μ = some r := by
  have m0 : ¬ (1 : Int32) = 0 := by decide
  unfold fX6_tin fX7_tin
  rcases wi x1 0 9 μ with ⟨w, hw⟩ | ⟨w, hw⟩
  · rw [w, if_pos rfl]
    refine ⟨-9223372036854775808, ?_, rfl⟩
    by_cases h1 : x1 < 0
    · rw [if_pos h1]
    · have h2 : 9 < x1 := by (simp only [fa_lt, fa_le, fa_eq, L_m100, L_m10, L_m9, L_m4, L_m3, L_m2, L_m1, L_0, L_1, L_2, L_3, L_4, L_5, L_6, L_7, L_8, L_9, L_10, L_11, L_12, L_13, L_14, L_15, L_16, L_17, L_18, L_19, L_20, L_21, L_48, L_49, L_50, L_51, L_52, L_53, L_54, L_55, L_56, L_57, L_59, L_60, L_63, L_64, L_97, L_98, L_99, L_100, L_104, L_107, L_111, L_115, L_116, L_240] at *; omega)
      rw [if_neg h1, if_pos h2]
  · have h1 : ¬ x1 < 0 := by (simp only [fa_lt, fa_le, fa_eq, L_m100, L_m10, L_m9, L_m4, L_m3, L_m2, L_m1, L_0, L_1, L_2, L_3, L_4, L_5, L_6, L_7, L_8, L_9, L_10, L_11, L_12, L_13, L_14, L_15, L_16, L_17, L_18, L_19, L_20, L_21, L_48, L_49, L_50, L_51, L_52, L_53, L_54, L_55, L_56, L_57, L_59, L_60, L_63, L_64, L_97, L_98, L_99, L_100, L_104, L_107, L_111, L_115, L_116, L_240] at *; omega)
    have h2 : ¬ 9 < x1 := by (simp only [fa_lt, fa_le, fa_eq, L_m100, L_m10, L_m9, L_m4, L_m3, L_m2, L_m1, L_0, L_1, L_2, L_3, L_4, L_5, L_6, L_7, L_8, L_9, L_10, L_11, L_12, L_13, L_14, L_15, L_16, L_17, L_18, L_19, L_20, L_21, L_48, L_49, L_50, L_51, L_52, L_53, L_54, L_55, L_56, L_57, L_59, L_60, L_63, L_64, L_97, L_98, L_99, L_100, L_104, L_107, L_111, L_115, L_116, L_240] at *; omega)
    rw [w, if_neg m0, if_neg h1, if_neg h2]
    rcases wi x2 0 1 μ with ⟨v, hv⟩ | ⟨v, hv⟩
    · rw [v, if_pos rfl]
      refine ⟨-9223372036854775808, ?_, rfl⟩
      by_cases h3 : x2 < 0
      · rw [if_pos h3]
      · have h4 : 1 < x2 := by (simp only [fa_lt, fa_le, fa_eq, L_m100, L_m10, L_m9, L_m4, L_m3, L_m2, L_m1, L_0, L_1, L_2, L_3, L_4, L_5, L_6, L_7, L_8, L_9, L_10, L_11, L_12, L_13, L_14, L_15, L_16, L_17, L_18, L_19, L_20, L_21, L_48, L_49, L_50, L_51, L_52, L_53, L_54, L_55, L_56, L_57, L_59, L_60, L_63, L_64, L_97, L_98, L_99, L_100, L_104, L_107, L_111, L_115, L_116, L_240] at *; omega)
        rw [if_neg h3, if_pos h4]
    · have h3 : ¬ x2 < 0 := by (simp only [fa_lt, fa_le, fa_eq, L_m100, L_m10, L_m9, L_m4, L_m3, L_m2, L_m1, L_0, L_1, L_2, L_3, L_4, L_5, L_6, L_7, L_8, L_9, L_10, L_11, L_12, L_13, L_14, L_15, L_16, L_17, L_18, L_19, L_20, L_21, L_48, L_49, L_50, L_51, L_52, L_53, L_54, L_55, L_56, L_57, L_59, L_60, L_63, L_64, L_97, L_98, L_99, L_100, L_104, L_107, L_111, L_115, L_116, L_240] at *; omega)
      have h4 : ¬ 1 < x2 := by (simp only [fa_lt, fa_le, fa_eq, L_m100, L_m10, L_m9, L_m4, L_m3, L_m2, L_m1, L_0, L_1, L_2, L_3, L_4, L_5, L_6, L_7, L_8, L_9, L_10, L_11, L_12, L_13, L_14, L_15, L_16, L_17, L_18, L_19, L_20, L_21, L_48, L_49, L_50, L_51, L_52, L_53, L_54, L_55, L_56, L_57, L_59, L_60, L_63, L_64, L_97, L_98, L_99, L_100, L_104, L_107, L_111, L_115, L_116, L_240] at *; omega)
      rw [v, if_neg m0, if_neg h3, if_neg h4]
      rcases open_or hI with ⟨e1, e2⟩ | ⟨e1, e2⟩
      · rw [e1, e2, if_pos rfl, if_pos rfl]
        exact ⟨_, rfl, rfl⟩
      · rw [e1, if_neg m0, if_neg e2]
        obtain ⟨S, A, hA, hS, a1, a2, a3, a4⟩ := allE hI
        obtain ⟨d, hd, rfl⟩ := nI_of h1
        have hd9 : d ≤ 9 := by
          rw [nI_toInt hd, L_9] at hw
          omega
        rw [a1, a2, a3]
        simp only [Option.bind_some]
        by_cases h : S ≤ d
        · rw [if_pos (nI_le h hd)]
          have e5 : (if nI S < nI d then nI S else nI d) = nI S := by
            by_cases h6 : S = d
            · subst h6; split <;> rfl
            · rw [if_pos (nI_lt (by omega) hd)]
          obtain ⟨r, r1, r2⟩ := share_tin (S := S) (A := A) (d := S) hS hA (by omega) (by omega) x2 σ μ a4
          rw [e5, r1, r2]
          exact ⟨r, rfl, rfl⟩
        · rw [if_neg (nI_ge (by omega) (by omega)), if_neg (nI_nlt (by omega) (by omega))]
          obtain ⟨r, r1, r2⟩ := share_tin (S := S) (A := A) (d := d) hS hA (by omega) (by omega) x2 σ μ a4
          rw [r1, r2]
          exact ⟨r, rfl, rfl⟩
end PUTJ
