section PUT7
variable {σ μ σ' μ' : Sg}
/-- taking n cells from i on: the fault, or that they are there -/
theorem agE {s u : Sg} {k : Nat} (hk : k < 4) (hS : ShN s u k ∨ ShS s u k) (x2 x3 x4 : Int32) : fX7_against (nI k) x2 x3 x4 u = some (fX1_faultOfTaking k x2 x3 x4 s) ∧ (fX1_faultOfTaking k x2 x3 x4 s = 0 → ShS s u k ∧ u 1 k = x2 ∧ ∃ i n len : Nat, x3 = nI i ∧ x4 = nI n ∧ i + n ≤ len ∧ len ≤ 60 ∧ u 2 k = nI len) := by
  have hg := gIn_nI (t := k) (n := 4) (by omega) (by decide)
  unfold fX7_against fX7_against_23 fX1_faultOfTaking
  simp only [if_pos hg, nI_clamp (show k < 2 ^ 31 by omega)]
  rcases nth_or hS with ⟨n1, n2, n3⟩ | ⟨n1, n2, n3⟩
  · rw [n1]
    simp only [if_pos n2, if_neg (show ¬ (1 : Int32) = 0 by decide)]
    first | exact ⟨rfl, fun h => absurd h (by decide)⟩ | exact ⟨trivial, fun h => absurd h (by decide)⟩
  · obtain ⟨len, hn, en⟩ := n3.2.2.2.1
    have e1 : s (2 + k) 2 = nI len := n3.2.2.1.trans en
    have t1 := nI_toInt (n := len) (by omega)
    rw [n1, n3.1]
    simp only [if_neg n2]
    by_cases hl : u 1 k = x2
    · simp only [if_pos hl, if_true]
      by_cases hx : 0 ≤ x4
      · simp only [if_pos hx]
        unfold fX1_covers
        rw [e1, en]
        by_cases c1 : x3 < 0
        · simp only [if_pos c1]
          first | exact ⟨rfl, fun h => absurd h (by decide)⟩ | exact ⟨trivial, fun h => absurd h (by decide)⟩
        · by_cases c2 : nI len < x3
          · simp only [if_neg c1, if_pos c2]
            first | exact ⟨rfl, fun h => absurd h (by decide)⟩ | exact ⟨trivial, fun h => absurd h (by decide)⟩
          · obtain ⟨i, hi, rfl⟩ := of_rg (x := x3) (n := len) (by omega) (by rw [fa_lt, L_0] at c1; omega) (by rw [fa_lt, t1] at c2; omega)
            have c3 : ¬ x4 < 0 := by rw [fa_lt]; rw [fa_le] at hx; omega
            have t4 : (nI len - nI i).toInt = (len : Int) - i := pk_sub_toInt (by omega) (by omega)
            by_cases c4 : x4 ≤ nI len - nI i
            · have c5 : ¬ nI len - nI i < x4 := by rw [fa_lt]; rw [fa_le] at c4; omega
              simp only [if_neg c1, if_neg c2, if_neg c3, if_pos c4, if_neg c5]
              refine ⟨by first | rfl | trivial, fun _ => ⟨n3, hl, ?_⟩⟩
              obtain ⟨n, hn', rfl⟩ := of_rg (x := x4) (n := len - i) (by omega) (by rw [fa_le, L_0] at hx; omega) (by rw [fa_le, t4] at c4; omega)
              exact ⟨i, n, len, rfl, rfl, by omega, hn, rfl⟩
            · have c5 : nI len - nI i < x4 := by rw [fa_lt]; rw [fa_le] at c4; omega
              simp only [if_neg c1, if_neg c2, if_neg c3, if_neg c4, if_pos c5]
              first | exact ⟨rfl, fun h => absurd h (by decide)⟩ | exact ⟨trivial, fun h => absurd h (by decide)⟩
      · simp only [if_neg hx]
        first | exact ⟨rfl, fun h => absurd h (by decide)⟩ | exact ⟨trivial, fun h => absurd h (by decide)⟩
    · simp only [if_neg hl]
      first | exact ⟨rfl, fun h => absurd h (by decide)⟩ | exact ⟨trivial, fun h => absurd h (by decide)⟩
theorem sort_or (x : Int32) (σ μ : Sg) : (fX6_isLane x σ = 0 ∧ fX7_isSort x μ = 0) ∨ (fX6_isLane x σ = 1 ∧ fX7_isSort x μ = 1) := by
  rw [lane_eq x σ μ]
  unfold fX7_isSort
  rcases wi x 0 2 μ with ⟨w, hw⟩ | ⟨w, hw⟩
  · exact Or.inl ⟨w, w⟩
  · exact Or.inr ⟨w, w⟩
/-- reading a cell that is there -/
theorem readE {s u : Sg} {k i len : Nat} (hk : k < 4) (hS : ShS s u k) (hi : i < len) (hl : len ≤ 60) (el : u 2 k = nI len) : fX1_read k (nI i) s = some (u 3 (60 * k + i)) := by
  have e1 : s (2 + k) 2 = nI len := hS.2.2.1.trans el
  have t1 := nI_toInt (n := len) (by omega)
  have t2 := nI_toInt (n := i) (by omega)
  have t4 : (nI len - nI i).toInt = (len : Int) - i := pk_sub_toInt (by omega) (by omega)
  have hc : fX1_covers k (nI i) 1 s = 1 := by
    unfold fX1_covers
    rw [e1]
    rw [if_neg (by rw [fa_lt, L_0]; omega), if_neg (by rw [fa_lt]; omega), if_neg (by decide), if_neg (by rw [fa_lt, L_1]; omega)]
  unfold fX1_read
  rw [hc, if_neg (by decide), if_pos (gIn_nI (n := 60) (by omega) (by decide))]
  simp only [nI_clamp (show i < 2 ^ 31 by omega)]
  rw [hS.2.2.2.2 i (by omega)]
theorem E_cell (hI : Inv σ μ) (x1 : Int32) (x2 : Int32) (x3 : Int32) : ∃ (r : Int64) (τ : Sg) (ν : Sg), fX6_cell x1 x2 x3 σ = some (r, τ) ∧ fX7_cell x1 x2 x3 μ = some (r, ν) ∧ Inv τ ν := by
  have hJ := hI.fault 0
  have c1 : ∀ k, (up2 μ 0 0 0) 1 k = μ 1 k := fun k => by rw [up_nc (by omega)]
  have z0 : (up2 σ 0 4 0) 0 4 = 0 := up_eq _ _ _ _
  unfold fX6_cell fX7_cell fX7_cell_50 fX7_lost
  simp only [← c1]
  generalize up2 σ 0 4 0 = s at hJ z0 ⊢
  generalize up2 μ 0 0 0 = u at hJ ⊢
  rcases sh_or x1 s u with ⟨a1, a2⟩ | ⟨a1, a2, hg, k, hk, rfl⟩
  · rw [a1, a2]
    exact ⟨_, s, u, rfl, rfl, hJ⟩
  · rcases sort_or x3 s u with ⟨b1, b2⟩ | ⟨b1, b2⟩
    · rw [a1, a2, b1, b2]
      exact ⟨_, s, u, rfl, rfl, hJ⟩
    · rw [a1, a2, b1, b2]
      simp only [if_pos hg, nI_clamp (show k < 2 ^ 31 by omega)]
      have hS := hJ.2.1 k hk
      unfold fX1_faultOfTaking
      rcases nth_or hS with ⟨n1, n2, n3⟩ | ⟨n1, n2, n3⟩
      · rw [n1]
        simp only [if_pos n2, if_neg (show ¬ (1 : Int32) = 0 by decide)]
        exact ⟨_, _, _, rfl, rfl, hJ.fault 1⟩
      · rw [n1, n3.1]
        simp only [if_neg n2, if_true]
        by_cases hl : u 1 k = x3
        · simp only [if_pos hl, if_pos (show (0 : Int32) ≤ 1 by decide)]
          obtain ⟨n, hn, en⟩ := n3.2.2.2.1
          rcases cov_or (v := u) hn (n3.2.2.1.trans en) en x2 with ⟨w1, w2⟩ | ⟨w1, w2, i, hi, rfl⟩
          · rw [w1, w2]
            simp only [if_true, if_neg (show ¬ (3 : Int32) = 0 by decide), if_neg (show ¬ (1 : Int32) = 0 by decide)]
            exact ⟨_, _, _, rfl, rfl, hJ.fault 3⟩
          · have g2 := gIn_nI (t := 60 * k + i) (n := 240) (by omega) (by decide)
            rw [w1, w2]
            simp only [if_neg (show ¬ (1 : Int32) = 0 by decide), if_true, up_same z0, readE hk n3 hi hn en, ix_eq, if_pos g2, nI_clamp (show 60 * k + i < 2 ^ 31 by omega), Option.bind_some]
            exact ⟨_, _, _, rfl, rfl, hJ⟩
        · simp only [if_neg hl, if_neg (show ¬ (2 : Int32) = 0 by decide), if_neg (show ¬ (1 : Int32) = 0 by decide)]
          exact ⟨_, _, _, rfl, rfl, hJ.fault 2⟩
/-! a new sheet -/
theorem fill_loop {k : Nat} : ∀ (m i : Nat) (σ : Sg), i ≤ 60 → 60 - i < m → ∃ τ, fJ7_fill_53178_5 k 0 60 m (nI i) σ = some τ ∧ (∀ a, a ≠ 6 + k → τ a = σ a) ∧ (∀ j, j < i → τ (6 + k) j = σ (6 + k) j) ∧ ∀ j, i ≤ j → j < 60 → τ (6 + k) j = 0 := by
  intro m
  induction m with
  | zero => intro i σ h1 h2; omega
  | succ m ih =>
    intro i σ h1 h2
    rw [fJ7_fill_53178_5]
    by_cases h : 60 ≤ i
    · have hc : (60 : Int32) ≤ nI i := nI_le (a := 60) h (by omega)
      rw [if_pos hc]
      exact ⟨σ, rfl, fun _ _ => rfl, fun _ _ => rfl, fun j a b => by omega⟩
    · have hc : ¬ (60 : Int32) ≤ nI i := nI_ge (a := i) (b := 60) (by omega) (by omega)
      rw [if_neg hc, if_pos (gIn_nI (t := i) (n := 60) (by omega) (by decide)), nI_1]
      simp only [nI_clamp (show i < 2 ^ 31 by omega)]
      obtain ⟨τ, e, q1, q2, q3⟩ := ih (i + 1) (up2 σ (6 + k) i 0) (by omega) (by omega)
      refine ⟨τ, e, fun a ha => by rw [q1 a ha, up_nc ha], fun j hj => by rw [q2 j (by omega), up_nk (by omega)], fun j a b => ?_⟩
      by_cases ej : j = i
      · subst ej; rw [q2 j (by omega), up_eq]
      · exact q3 j (by omega) b
theorem mfill_loop {k : Nat} (hk : k < 4) : ∀ (m i : Nat) (μ : Sg), i ≤ 60 → 60 - i < m → ∃ ν, fX7_sheet_57 (nI k) m (nI i) μ = some (1, ν) ∧ (∀ a, a ≠ 3 → ν a = μ a) ∧ (∀ j, j < 60 * k + i → ν 3 j = μ 3 j) ∧ (∀ j, 60 * k + 60 ≤ j → ν 3 j = μ 3 j) ∧ ∀ j, i ≤ j → j < 60 → ν 3 (60 * k + j) = 0 := by
  intro m
  induction m with
  | zero => intro i μ h1 h2; omega
  | succ m ih =>
    intro i μ h1 h2
    rw [fX7_sheet_57]
    by_cases h : 60 ≤ i
    · have hc : (60 : Int32) ≤ nI i := nI_le (a := 60) h (by omega)
      rw [if_pos hc]
      exact ⟨μ, rfl, fun _ _ => rfl, fun _ _ => rfl, fun _ _ => rfl, fun j a b => by omega⟩
    · have hc : ¬ (60 : Int32) ≤ nI i := nI_ge (a := i) (b := 60) (by omega) (by omega)
      rw [if_neg hc, ix_eq, if_pos (gIn_nI (t := 60 * k + i) (n := 240) (by omega) (by decide)), nI_1]
      simp only [nI_clamp (show 60 * k + i < 2 ^ 31 by omega)]
      obtain ⟨ν, e, q1, q2, q4, q3⟩ := ih (i + 1) (up2 μ 3 (60 * k + i) 0) (by omega) (by omega)
      refine ⟨ν, e, fun a ha => by rw [q1 a ha, up_nc ha], fun j hj => by rw [q2 j (by omega), up_nk (by omega)], fun j hj => by rw [q4 j hj, up_nk (by omega)], fun j a b => ?_⟩
      by_cases ej : j = i
      · subst ej; rw [q2 (60 * k + j) (by omega), up_eq]
      · exact q3 j (by omega) b
theorem E_sheet (hI : Inv σ μ) (x1 : Int32) (x2 : Int32) (x3 : Int32) : ∃ (r : Int32) (τ : Sg) (ν : Sg), fX6_sheet x1 x2 x3 σ = some (r, τ) ∧ fX7_sheet x1 x2 x3 μ = some (r, ν) ∧ Inv τ ν := by
  have hJ := hI.fault 0
  unfold fX6_sheet fX7_sheet fX6_faulted fX7_fails fX1_begin fJ7_fill_53178
  generalize up2 σ 0 4 0 = s at hJ ⊢
  generalize up2 μ 0 0 0 = u at hJ ⊢
  rcases sh_or x1 s u with ⟨a1, a2⟩ | ⟨a1, a2, hg, k, hk, rfl⟩
  · rw [a1, a2]
    exact ⟨-1, s, u, rfl, rfl, hJ⟩
  · rw [lane_eq x2 s u]
    unfold fX7_isSort
    rcases wi x2 0 2 u with ⟨w, hw⟩ | ⟨w, hw⟩
    · rw [a1, a2, w]
      exact ⟨-2, s, u, rfl, rfl, hJ⟩
    · rw [a1, a2, w]
      by_cases h1 : x3 ≤ 60
      · by_cases h2 : 0 ≤ x3
        · simp only [if_neg (show ¬ (1 : Int32) = 0 by decide), if_pos h1, if_pos h2, if_pos hg, nI_clamp (show k < 2 ^ 31 by omega)]
          obtain ⟨τ, e1, q1, q2, q3⟩ := fill_loop (k := k) 1000 0 s (by omega) (by omega)
          obtain ⟨ν, e2, p1, p2, p4, p3⟩ := mfill_loop hk 1000 0 (up2 (up2 u 1 k x2) 2 k x3) (by omega) (by omega)
          rw [nI_0] at e1 e2
          rw [e1, e2]
          simp only [Option.bind_some]
          refine ⟨1, _, _, rfl, rfl, hJ.sheet hk (fun a b c => by rw [up_nc b, up_nc b, q1 a c]) (by rw [p1 0 (by omega), up_nc (by omega), up_nc (by omega)]) (fun a b => by rw [p1 a (by omega), up_nc (by omega), up_nc (by omega)]) (fun j hj => by rw [p1 1 (by omega), up_nc (by omega), up_nk hj]) (fun j hj => by rw [p1 2 (by omega), up_nk hj, up_nc (by omega)]) (fun j i hj hi => ?_) (Or.inr ⟨?_, ?_, ?_, ?_, ?_⟩)⟩
          · rcases Nat.lt_or_ge j k with hlt | hge
            · rw [p2 (60 * j + i) (by omega), up_nc (by omega), up_nc (by omega)]
            · rw [p4 (60 * j + i) (by omega), up_nc (by omega), up_nc (by omega)]
          · rw [up_nk (by omega), up_eq, p1 1 (by omega), up_nc (by omega), up_eq]
          · rw [p1 1 (by omega), up_nc (by omega), up_eq]
            exact of_rg (n := 2) (by decide) hw.1 hw.2
          · rw [up_eq, p1 2 (by omega), up_eq]
          · rw [p1 2 (by omega), up_eq]
            exact of_rg (n := 60) (by decide) (by rw [fa_le, L_0] at h2; exact h2) (by rw [fa_le, L_60] at h1; exact h1)
          · intro i hi
            rw [up_nc (by omega), up_nc (by omega), q3 i (by omega) hi, p3 i (by omega) hi]
        · simp only [if_neg (show ¬ (1 : Int32) = 0 by decide), if_pos h1, if_neg h2]
          exact ⟨_, _, _, rfl, rfl, hJ.fault 4⟩
      · simp only [if_neg (show ¬ (1 : Int32) = 0 by decide), if_neg h1]
        exact ⟨-2, s, u, rfl, rfl, hJ⟩
end PUT7
