section PUTK
variable {σ μ s u : Sg}
/-! how many are to be drawn until it is as likely as not -/
def hchk (S A : Nat) : Nat → Nat → Bool
  | 0, _ => false
  | n + 1, d => decide (d ≤ S) && decide (ff S (min A d) < 2 ^ 62) && decide (ff (S - max A d) (min A d) < 2 ^ 61) && (decide (ff S d / fct d < 2 * (ff (S - A) d / fct d)) == decide (ff S (min A d) < 2 * ff (S - max A d) (min A d))) && (if ff S d / fct d < 2 * (ff (S - A) d / fct d) then hchk S A n (d + 1) else true)
theorem hchk_all : (List.range 55).all (fun S => (List.range S).all (fun A => hchk S (A + 1) 60 0)) = true := by decide +kernel
theorem hchk_at {S A : Nat} (hS : S ≤ 54) (h0 : 0 < A) (hA : A ≤ S) : hchk S A 60 0 = true := by
  have h1 := List.all_eq_true.mp hchk_all S (List.mem_range.mpr (by omega))
  have h2 := List.all_eq_true.mp h1 (A - 1) (List.mem_range.mpr (by omega))
  rw [show A - 1 + 1 = A by omega] at h2
  exact h2
theorem isHalfE {S A d : Nat} (hS : S ≤ 54) (hA : A ≤ S) (hd : d ≤ S) (b1 : ff S (min A d) < 2 ^ 62) (b2 : ff (S - max A d) (min A d) < 2 ^ 61) : fX7_isHalf (nI S) (nI A) (nI d) u = some (if ff S (min A d) < 2 * ff (S - max A d) (min A d) then 0 else 1) := by
  have key : ∀ z mx : Nat, z ≤ 54 → mx ≤ S → ff S z < 2 ^ 62 → ff (S - mx) z < 2 ^ 61 → fX7_isHalf_26 u (nI S) (nI z) (nI (S - mx)) = some (if ff S z < 2 * ff (S - mx) z then 0 else 1) := by
    intro z mx hz hm c1 c2
    unfold fX7_isHalf_26
    rw [fallE u (n := S - mx) (by omega) hz, fallE u (n := S) hS hz]
    simp only [Option.bind_some]
    rw [show (2 : Int64) = lN 2 from rfl, lN_mul]
    by_cases h : ff S z < 2 * ff (S - mx) z
    · rw [if_pos h, if_pos ((cmpP (by omega) (by omega)).mpr h)]
    · rw [if_neg h, if_neg (fun q => h ((cmpP (by omega) (by omega)).mp q))]
  unfold fX7_isHalf fX7_isHalf_10
  by_cases h : A ≤ d
  · rw [Nat.min_eq_left h] at b1 b2 ⊢
    rw [Nat.max_eq_right h] at b2 ⊢
    rw [if_pos (nI_le h (by omega)), if_pos (nI_le h (by omega)), pk_sub hd]
    exact key A d (by omega) hd b1 b2
  · have h' : d ≤ A := by omega
    rw [Nat.min_eq_right h'] at b1 b2 ⊢
    rw [Nat.max_eq_left h'] at b2 ⊢
    rw [if_neg (nI_ge (by omega) (by omega)), if_neg (nI_ge (by omega) (by omega)), pk_sub hA]
    exact key d A (by omega) hA b1 b2
theorem half_step {S A d m : Nat} (hS : S ≤ 54) (hA : A ≤ S) (hd : d ≤ S) : fX4_fewestForHalf_2 s (nI S) (nI A) (m + 1) (nI d) = if pas S d < 2 * pas (S - A) d then fX4_fewestForHalf_2 s (nI S) (nI A) m (nI (d + 1)) else some (nI d) := by
  have h1 : pas S d ≤ 2 ^ 54 := Nat.le_trans (pas_two _ _) (Nat.pow_le_pow_right (by decide) hS)
  have h2 : pas (S - A) d ≤ 2 ^ 54 := Nat.le_trans (pas_two _ _) (Nat.pow_le_pow_right (by decide) (by omega))
  rw [fX4_fewestForHalf_2, if_neg (nI_nlt hd (by omega)), pk_sub hA, waysE s (S := S - A) (d := d) (by omega) (by omega), waysE s (S := S) (d := d) hS (by omega)]
  simp only [Option.bind_some]
  rw [show (2 : Int64) = lN 2 from rfl, lN_mul, nI_1]
  by_cases h : pas S d < 2 * pas (S - A) d
  · rw [if_pos h, if_pos ((cmpP (by omega) (by omega)).mpr h)]
  · rw [if_neg h, if_neg (fun q => h ((cmpP (by omega) (by omega)).mp q))]
theorem half_none {S : Nat} (hS : S ≤ 54) : ∀ (m d : Nat), d ≤ S + 1 → S + 1 - d < m → fX4_fewestForHalf_2 s (nI S) (nI 0) m (nI d) = some (-9) := by
  intro m
  induction m with
  | zero => intro d h1 h2; omega
  | succ m ih =>
    intro d h1 h2
    by_cases h : d ≤ S
    · have := pas_pos h
      rw [half_step hS (by omega) h, Nat.sub_zero, if_pos (by omega)]
      exact ih (d + 1) (by omega) (by omega)
    · rw [fX4_fewestForHalf_2, if_pos (nI_lt (by omega) (by omega))]
theorem half_both {S A : Nat} (hS : S ≤ 54) (h0 : 0 < A) (hA : A ≤ S) : ∀ (n d m m' : Nat), hchk S A n d = true → n ≤ m → n ≤ m' → ∃ r, fX4_fewestForHalf_2 s (nI S) (nI A) m (nI d) = some r ∧ fX7_half_22 u (nI S) (nI A) m' (nI d) = some r := by
  intro n
  induction n with
  | zero => intro d m m' h; exact absurd h (by simp [hchk])
  | succ n ih =>
    intro d m m' h h1 h2
    obtain ⟨m, rfl⟩ : ∃ j, m = j + 1 := ⟨m - 1, by omega⟩
    obtain ⟨m', rfl⟩ : ∃ j, m' = j + 1 := ⟨m' - 1, by omega⟩
    rw [hchk] at h
    simp only [Bool.and_eq_true, decide_eq_true_eq, beq_iff_eq, decide_eq_decide] at h
    obtain ⟨⟨⟨⟨k1, k2⟩, k3⟩, k4⟩, k5⟩ := h
    rw [half_step hS hA k1, fX7_half_22, if_neg (nI_nlt k1 (by omega)), if_neg (nI_nle h0 (by omega)), isHalfE hS hA k1 k2 k3, Option.bind_some, nI_1]
    rw [← pas_q, ← pas_q] at k4 k5
    by_cases h : pas S d < 2 * pas (S - A) d
    · rw [if_pos h, if_pos (k4.mp h), if_pos rfl]
      rw [if_pos h] at k5
      exact ih (d + 1) m m' k5 (by omega) (by omega)
    · rw [if_neg h, if_neg (fun q => h (k4.mpr q)), if_neg (by decide)]
      exact ⟨_, rfl, rfl⟩
theorem E_half (hI : Inv σ μ) : ∃ (r : Int32), fX6_half σ = some r ∧ fX7_half μ = some r := by
  have m0 : ¬ (1 : Int32) = 0 := by decide
  unfold fX6_half fX7_half fX4_fewestForHalf
  rcases open_or hI with ⟨e1, e2⟩ | ⟨e1, e2⟩
  · rw [e1, e2, if_pos rfl, if_pos rfl]
    exact ⟨_, rfl, rfl⟩
  · rw [e1, if_neg m0, if_neg e2]
    obtain ⟨S, A, hA, hS, a1, a2, a3, a4⟩ := allE hI
    rw [a1, a2, a3, a4]
    simp only [Option.bind_some]
    rcases Nat.eq_zero_or_pos A with rfl | h0
    · have := half_none (s := σ) hS 1000 0 (by omega) (by omega)
      rw [show fX4_fewestForHalf_2 σ (nI S) (nI 0) 1000 0 = some (-9) from this, fX7_half_22, if_neg (nI_pos (by omega)), if_pos (by decide)]
      exact ⟨-9, rfl, rfl⟩
    · obtain ⟨r, r1, r2⟩ := half_both (s := σ) (u := μ) hS h0 hA 60 0 1000 1000 (hchk_at hS h0 hA) (by omega) (by omega)
      rw [nI_0] at r1 r2
      rw [r1, r2]
      exact ⟨r, rfl, rfl⟩
end PUTK
