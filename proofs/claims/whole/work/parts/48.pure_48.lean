section PUTI
/-! drawing from the TIN -/
def ff (n : Nat) : Nat → Nat
  | 0 => 1
  | d + 1 => ff n d * (n - d)
def fct : Nat → Nat
  | 0 => 1
  | d + 1 => (d + 1) * fct d
def pas : Nat → Nat → Nat
  | _, 0 => 1
  | 0, _ + 1 => 0
  | n + 1, d + 1 => pas n d + pas n (d + 1)
theorem fct_pos (d : Nat) : 0 < fct d := by
  induction d with
  | zero => exact Nat.one_pos
  | succ d ih => rw [fct]; exact Nat.mul_pos (by omega) ih
theorem ff_0 (d : Nat) : ff 0 (d + 1) = 0 := by rw [ff]; simp
theorem ff_s (n : Nat) : ∀ d, ff (n + 1) (d + 1) = (n + 1) * ff n d := by
  intro d
  induction d with
  | zero => simp [ff]
  | succ d ih => rw [ff, ih, ff, Nat.mul_assoc, show n + 1 - (d + 1) = n - d by omega]
theorem ff_gt {n : Nat} : ∀ {d : Nat}, n < d → ff n d = 0 := by
  intro d
  induction d with
  | zero => intro h; omega
  | succ d ih =>
    intro h
    rw [ff]
    by_cases e : n < d
    · rw [ih e]; simp
    · rw [show n - d = 0 by omega]; simp
theorem ff_pas : ∀ n d, ff n d = fct d * pas n d := by
  intro n
  induction n with
  | zero =>
    intro d
    cases d with
    | zero => simp [ff, fct, pas]
    | succ d => rw [ff_0]; simp [pas]
  | succ n ih =>
    intro d
    cases d with
    | zero => simp [ff, fct, pas]
    | succ d =>
      rw [ff_s, pas, Nat.mul_add, ← ih (d + 1), fct, Nat.mul_assoc, ← ih d, ff]
      by_cases h : n < d
      · rw [ff_gt h]; simp
      · rw [Nat.mul_comm (ff n d) (n - d), ← Nat.add_mul]
        congr 1
        omega
theorem pas_q (n d : Nat) : pas n d = ff n d / fct d := by
  rw [ff_pas, Nat.mul_div_cancel_left _ (fct_pos d)]
theorem pas_gt {n d : Nat} (h : n < d) : pas n d = 0 := by rw [pas_q, ff_gt h]; simp
theorem pas_two (n : Nat) : ∀ d, pas n d ≤ 2 ^ n := by
  induction n with
  | zero => intro d; cases d <;> simp [pas]
  | succ n ih =>
    intro d
    cases d with
    | zero => rw [pas]; exact Nat.one_le_two_pow
    | succ d =>
      rw [pas, Nat.pow_succ]
      have := ih d
      have := ih (d + 1)
      omega
theorem pas_abs (m k : Nat) : (k + 1) * pas (m + k + 1) (k + 1) = pas (m + k) k * (m + (k + 1)) := by
  have h1 := ff_pas (m + k + 1) (k + 1)
  have h2 := ff_pas (m + k) k
  rw [ff_s, h2, fct] at h1
  apply Nat.eq_of_mul_eq_mul_left (fct_pos k)
  rw [← Nat.mul_assoc, Nat.mul_comm (fct k) (k + 1), ← h1, Nat.mul_comm (pas (m + k) k), show m + (k + 1) = m + k + 1 by omega]
  rw [← Nat.mul_assoc, ← Nat.mul_assoc, Nat.mul_comm (m + k + 1) (fct k)]
theorem pas_mono (n d : Nat) : pas n d ≤ pas (n + 1) d := by
  cases d with
  | zero => simp [pas]
  | succ d => rw [pas]; omega
theorem pas_le {n m d : Nat} (h : n ≤ m) : pas n d ≤ pas m d := by
  obtain ⟨k, rfl⟩ := Nat.exists_eq_add_of_le h
  clear h
  induction k with
  | zero => exact Nat.le_refl _
  | succ k ih => exact Nat.le_trans ih (pas_mono (n + k) d)
theorem pas_pos {n : Nat} : ∀ {d : Nat}, d ≤ n → 0 < pas n d := by
  induction n with
  | zero => intro d h; obtain rfl : d = 0 := by omega
            simp [pas]
  | succ n ih =>
    intro d h
    cases d with
    | zero => simp [pas]
    | succ d => rw [pas]; have := ih (d := d) (by omega); omega
theorem ways_loop (σ : Sg) {S d : Nat} (hS : S ≤ 54) (hd : d ≤ S) : ∀ (m k : Nat), k ≤ d → d - k < m → fX4_waysToDraw_12 σ (nI S) (nI d) m (lN (pas (S - d + k) k)) (nI (k + 1)) = some (lN (pas S d)) := by
  intro m
  induction m with
  | zero => intro k h1 h2; omega
  | succ m ih =>
    intro k h1 h2
    rw [fX4_waysToDraw_12]
    by_cases h : d < k + 1
    · have hc : nI d < nI (k + 1) := nI_lt h (by omega)
      obtain rfl : k = d := by omega
      rw [if_pos hc, show S - k + k = S by omega]
    · have hc : ¬ nI d < nI (k + 1) := nI_nlt (by omega) (by omega)
      have hz : ¬ (nI (k + 1)).toInt64 = 0 := by
        rw [nI_l (by omega)]
        intro q
        have := (lN_eq (a := k + 1) (b := 0) (by omega) (by omega)).mp q
        omega
      have hb : pas (S - d + k) k * (S - d + (k + 1)) < 2 ^ 63 := by
        have h3 : pas (S - d + k) k ≤ 2 ^ 54 := Nat.le_trans (pas_two _ k) (Nat.pow_le_pow_right (by decide) (by omega))
        calc pas (S - d + k) k * (S - d + (k + 1)) ≤ 2 ^ 54 * 54 := Nat.mul_le_mul h3 (by omega)
          _ < 2 ^ 63 := by decide
      have e1 : pas (S - d + k) k * (S - d + (k + 1)) / (k + 1) = pas (S - d + (k + 1)) (k + 1) := by
        rw [← pas_abs, Nat.mul_div_cancel_left _ (by omega)]
        rfl
      rw [if_neg hc, if_pos hz, pk_sub (by omega), nI_add, nI_l (by omega), nI_l (by omega), lN_mul, pk_lDiv hb (by omega) (by omega), e1, nI_1]
      exact ih (k + 1) (by omega) (by omega)
theorem waysE (σ : Sg) {S d : Nat} (hS : S ≤ 54) (hd : d ≤ 54) : fX4_waysToDraw (nI S) (nI d) σ = some (lN (pas S d)) := by
  unfold fX4_waysToDraw
  by_cases h : d ≤ S
  · have := ways_loop σ hS h 1000 0 (by omega) (by omega)
    rw [if_pos (nI_le h (by omega))]
    rw [show pas (S - d + 0) 0 = 1 by simp [pas]] at this
    exact this
  · rw [if_neg (nI_ge (by omega) (by omega)), pas_gt (by omega)]
    rfl
theorem fall_loop (σ : Sg) {n d : Nat} (hn : n ≤ 54) (hd : d ≤ 54) : ∀ (m k : Nat), k ≤ d → d - k < m → fX7_falling_5 σ (nI n) (nI d) m (lN (ff n k)) (nI k) = some (lN (ff n d)) := by
  intro m
  induction m with
  | zero => intro k h1 h2; omega
  | succ m ih =>
    intro k h1 h2
    rw [fX7_falling_5]
    by_cases h : d ≤ k
    · have hc : nI d ≤ nI k := nI_le h (by omega)
      obtain rfl : k = d := by omega
      rw [if_pos hc]
    · have hc : ¬ nI d ≤ nI k := nI_ge (by omega) (by omega)
      have hih := ih (k + 1) (by omega) (by omega)
      rw [ff] at hih
      rw [if_neg hc, nI_1]
      by_cases hk : n ≤ k
      · have : nI n - nI k ≤ 0 := by
          rw [fa_le, pk_sub_toInt (by omega) (by omega), L_0]
          omega
        rw [if_pos this, ← hih, show n - k = 0 by omega, ← lN_mul]
        rfl
      · rw [pk_sub (by omega), if_neg (nI_nle (by omega) (by omega)), nI_l (by omega), lN_mul]
        exact hih
theorem fallE (σ : Sg) {n d : Nat} (hn : n ≤ 54) (hd : d ≤ 54) : fX7_falling (nI n) (nI d) σ = some (lN (ff n d)) := fall_loop σ hn hd 1000 0 (by omega) (by omega)
theorem gcd_st (a b : Nat) : Nat.gcd b (a % b) = Nat.gcd a b := by
  rw [Nat.gcd_comm b, ← Nat.gcd_rec, Nat.gcd_comm]
theorem cmp0 {b : Nat} (hb : b < 2 ^ 63) : lg_cmp (lN b) 0 = 0 ↔ b = 0 := by
  unfold lg_cmp
  by_cases h : b = 0
  · subst h
    exact ⟨fun _ => rfl, fun _ => by decide⟩
  · have h2 : lN b > 0 := (pk_lLT (a := 0) (b := b) (by decide) hb).mpr (by omega)
    rw [if_pos h2]
    exact ⟨fun q => absurd q (by decide), fun q => absurd q h⟩
theorem cmpP {a b : Nat} (ha : a < 2 ^ 63) (hb : b < 2 ^ 63) : 0 < lg_cmp (lN a) (lN b) ↔ b < a := by
  unfold lg_cmp
  by_cases h : b < a
  · have h2 : lN a > lN b := (pk_lLT hb ha).mpr h
    rw [if_pos h2]
    exact ⟨fun _ => h, fun _ => by decide⟩
  · have h2 : ¬ lN a > lN b := fun q => h ((pk_lLT hb ha).mp q)
    rw [if_neg h2]
    refine ⟨fun q => ?_, fun q => absurd q h⟩
    split at q
    · exact absurd q (by decide)
    · exact absurd q (by decide)
theorem half_rem {a b : Nat} (h : 0 < a % b) (hb : 0 < b) : 2 * (b % (a % b)) < b := by
  have h1 : a % b < b := Nat.mod_lt _ hb
  have h2 := Nat.mod_lt b h
  have h3 := Nat.mod_add_div b (a % b)
  have h4 : 1 ≤ b / (a % b) := (Nat.one_le_div_iff h).mpr (by omega)
  have h5 : a % b * 1 ≤ a % b * (b / (a % b)) := Nat.mul_le_mul_left _ h4
  omega
theorem lne0 {b : Nat} (h0 : 0 < b) (hb : b < 2 ^ 63) : ¬ lN b = 0 := by
  intro q
  have := (pk_lEQ (a := b) (b := 0) hb (by decide)).mp q
  omega
theorem least_loop (σ : Sg) (x0 x2 : Int64) (x4 : Int32) : ∀ (k m a b : Nat), b < 2 ^ k → k ≤ 62 → a < 2 ^ 63 → 2 * k + 1 ≤ m → fX7_inLeastTerms_6 σ x0 x2 x4 m (lN a) (lN b) = (if x4 = 0 then (if ¬ lN (Nat.gcd a b) = 0 then some (x0 / lN (Nat.gcd a b)) else none) else (if ¬ lN (Nat.gcd a b) = 0 then some (x2 / lN (Nat.gcd a b)) else none)) := by
  intro k
  induction k with
  | zero =>
    intro m a b h1 h2 h3 h4
    obtain ⟨m, rfl⟩ : ∃ j, m = j + 1 := ⟨m - 1, by omega⟩
    obtain rfl : b = 0 := by omega
    rw [fX7_inLeastTerms_6, if_pos ((cmp0 (by decide)).mpr rfl), Nat.gcd_zero_right]
  | succ k ih =>
    intro m a b h1 h2 h3 h4
    obtain ⟨m, rfl⟩ : ∃ j, m = j + 2 := ⟨m - 2, by omega⟩
    have hp : 2 ^ (k + 1) ≤ 2 ^ 62 := Nat.pow_le_pow_right (by decide) h2
    by_cases hb : b = 0
    · subst hb
      rw [fX7_inLeastTerms_6, if_pos ((cmp0 (by decide)).mpr rfl), Nat.gcd_zero_right]
    · have h5 : a % b < b := Nat.mod_lt _ (by omega)
      rw [fX7_inLeastTerms_6, if_neg (fun q => hb ((cmp0 (by omega)).mp q)), if_pos (lne0 (by omega) (by omega)), pk_lRem h3 (by omega) (by omega), ← gcd_st a b]
      by_cases hc : a % b = 0
      · rw [hc, fX7_inLeastTerms_6, if_pos ((cmp0 (by decide)).mpr rfl), Nat.gcd_zero_right]
      · have := half_rem (a := a) (b := b) (by omega) (by omega)
        rw [fX7_inLeastTerms_6, if_neg (fun q => hc ((cmp0 (by omega)).mp q)), if_pos (lne0 (by omega) (by omega)), pk_lRem (by omega) (by omega) (by omega), ← gcd_st b (a % b)]
        exact ih m (a % b) (b % (a % b)) (by rw [Nat.pow_succ] at h1; omega) (by omega) (by omega) (by omega)
theorem comm_loop (σ : Sg) : ∀ (k m t a b : Nat), b < 2 ^ k → k ≤ 62 → a < 2 ^ 63 → 2 * k + 1 ≤ m → 2 * k + 1 + t ≤ 128 → fX4_commonDivisor_3 σ m (lN a) (lN b) (nI t) = some (lN (Nat.gcd a b)) := by
  intro k
  induction k with
  | zero =>
    intro m t a b h1 h2 h3 h4 h5
    obtain ⟨m, rfl⟩ : ∃ j, m = j + 1 := ⟨m - 1, by omega⟩
    obtain rfl : b = 0 := by omega
    rw [fX4_commonDivisor_3, if_neg (show ¬ (128 : Int32) ≤ nI t from nI_ge (a := t) (b := 128) (by omega) (by omega)), if_pos ((cmp0 (by decide)).mpr rfl), Nat.gcd_zero_right]
  | succ k ih =>
    intro m t a b h1 h2 h3 h4 h6
    obtain ⟨m, rfl⟩ : ∃ j, m = j + 2 := ⟨m - 2, by omega⟩
    have hp : 2 ^ (k + 1) ≤ 2 ^ 62 := Nat.pow_le_pow_right (by decide) h2
    have hc1 : ¬ (128 : Int32) ≤ nI t := nI_ge (a := t) (b := 128) (by omega) (by omega)
    have hc2 : ¬ (128 : Int32) ≤ nI (t + 1) := nI_ge (a := t + 1) (b := 128) (by omega) (by omega)
    by_cases hb : b = 0
    · subst hb
      rw [fX4_commonDivisor_3, if_neg hc1, if_pos ((cmp0 (by decide)).mpr rfl), Nat.gcd_zero_right]
    · have h5 : a % b < b := Nat.mod_lt _ (by omega)
      rw [fX4_commonDivisor_3, if_neg hc1, if_neg (fun q => hb ((cmp0 (by omega)).mp q)), if_pos (lne0 (by omega) (by omega)), pk_lRem h3 (by omega) (by omega), ← gcd_st a b, nI_1]
      by_cases hc : a % b = 0
      · rw [hc, fX4_commonDivisor_3, if_neg hc2, if_pos ((cmp0 (by decide)).mpr rfl), Nat.gcd_zero_right]
      · have := half_rem (a := a) (b := b) (by omega) (by omega)
        rw [fX4_commonDivisor_3, if_neg hc2, if_neg (fun q => hc ((cmp0 (by omega)).mp q)), if_pos (lne0 (by omega) (by omega)), pk_lRem (by omega) (by omega) (by omega), ← gcd_st b (a % b), nI_1]
        exact ih m (t + 1 + 1) (a % b) (b % (a % b)) (by rw [Nat.pow_succ] at h1; omega) (by omega) (by omega) (by omega) (by omega)
end PUTI
