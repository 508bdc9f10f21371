section PUT5
variable {σ μ : Sg}
/-! the READINGS; kinds, colours, nears, memories -/
theorem fit_loop (hI : Inv σ μ) {c : Nat} (hc : c ≤ 8) (e8 : μ 0 30 = nI c) : ∀ (m q : Nat), q ≤ c → c - q < m → ∃ r, fX0_fit_2 σ m (nI q) = some r ∧ fX7_areSo_2 μ m (nI q) = some r := by
  obtain ⟨⟨ec, -⟩, h2, h3⟩ := hI.2.2.2
  obtain ⟨N, hN, en⟩ := hI.nr
  intro m
  induction m with
  | zero => intro q h1 h2; omega
  | succ m ih =>
    intro q g1 g2
    rw [fX0_fit_2, fX7_areSo_2, ec, e8]
    by_cases h : c ≤ q
    · have hc : nI c ≤ nI q := nI_le h (by omega)
      simp only [if_pos hc]
      exact ⟨_, rfl, rfl⟩
    · have hc : ¬ nI c ≤ nI q := nI_ge (by omega) (by omega)
      have hg := gIn_nI (t := q) (n := 8) (by omega) (by decide)
      have hq := h3 q (by rw [e8, nI_clamp (by omega)]; omega)
      rw [en, nI_clamp (by omega)] at hq
      obtain ⟨t, ht, et⟩ := vp_in_of hq (by omega)
      obtain ⟨r, r1, r2, r3⟩ := alikeE hI ht hN en
      obtain ⟨q1, q2⟩ := h2 q (by omega)
      simp only [if_neg hc, if_pos hg, nI_clamp (show q < 2 ^ 31 by omega), q1, q2, et, r1, r2, Option.bind_some, nI_1]
      by_cases hr : r = μ 17 q
      · simp only [if_pos hr]
        exact ih (q + 1) (by omega) (by omega)
      · simp only [if_neg hr]
        exact ⟨_, rfl, rfl⟩
theorem fitE (hI : Inv σ μ) : ∃ r, fX0_fit σ = some r ∧ fX7_areSo μ = some r := by
  obtain ⟨c, hc, e8⟩ := hI.2.2.2.1.2
  have := fit_loop hI hc e8 1000 0 (by omega) (by omega)
  rw [nI_0] at this
  exact this
theorem Inv.setKind (h : Inv σ μ) {t : Nat} (ht : t < 6) {u : Int32} (hu : rg u 2) : Inv (up2 σ (13 + t) 0 u) (up2 μ 5 t u) := by
  refine ⟨⟨?_, ?_⟩, h.2.1.congr (fun a h1 h2 => up_nc (by omega)) (up_nc (by omega)) (up_nc (by omega)) (up_nc (by omega)), ?_, h.2.2.2.congr (by rw [up_nc (by omega)]) (up_nc (by omega)) (up_nc (by omega)) (by rw [up_nc (by omega)]) (by rw [up_nc (by omega)]) (up_nc (by omega)) (up_nc (by omega))⟩
  · rw [up_nc (by omega), up_nc (by omega)]; exact h.1.1
  · rw [up_nc (by omega), up_nc (by omega)]; exact h.1.2
  · have ht' := h.2.2.1
    unfold InvT at ht' ⊢
    rw [up_nc (a := 13 + t) (b := 10) (by omega), up_nc (a := 13 + t) (b := 12) (by omega), up_nc (a := 5) (b := 0) (by omega), up_nc (a := 5) (b := 4) (by omega)]
    refine ⟨ht'.1, ht'.2.1, ht'.2.2.1, ht'.2.2.2.1, ht'.2.2.2.2.1, ht'.2.2.2.2.2.1, ht'.2.2.2.2.2.2.1, ht'.2.2.2.2.2.2.2.1, ht'.2.2.2.2.2.2.2.2.1, fun q hq => ?_⟩
    have hq' := ht'.2.2.2.2.2.2.2.2.2 q hq
    unfold TbE at hq' ⊢
    rw [up_nc (a := 5) (b := 6) (by omega), up_nc (a := 5) (b := 7) (by omega), up_nc (a := 5) (b := 8) (by omega), up_nc (a := 5) (b := 9) (by omega), up_nc (a := 5) (b := 10) (by omega)]
    by_cases e : q = t
    · subst e
      rw [up_nk (k := 0) (j := 1) (by omega), up_nk (k := 0) (j := 2) (by omega), up_nk (k := 0) (j := 3) (by omega), up_nk (k := 0) (j := 4) (by omega), up_nk (k := 0) (j := 5) (by omega), up_eq, up_eq]
      exact ⟨⟨rfl, hu⟩, hq'.2⟩
    · rw [up_nc (by omega), up_nk e]
      exact hq'
theorem Inv.setColour (h : Inv σ μ) {t : Nat} (ht : t < 6) {u : Int32} (hu : rg u 7) : Inv (up2 σ (13 + t) 1 u) (up2 μ 6 t u) := by
  refine ⟨⟨?_, ?_⟩, h.2.1.congr (fun a h1 h2 => up_nc (by omega)) (up_nc (by omega)) (up_nc (by omega)) (up_nc (by omega)), ?_, h.2.2.2.congr (by rw [up_nc (by omega)]) (up_nc (by omega)) (up_nc (by omega)) (by rw [up_nc (by omega)]) (by rw [up_nc (by omega)]) (up_nc (by omega)) (up_nc (by omega))⟩
  · rw [up_nc (by omega), up_nc (by omega)]; exact h.1.1
  · rw [up_nc (by omega), up_nc (by omega)]; exact h.1.2
  · have ht' := h.2.2.1
    unfold InvT at ht' ⊢
    rw [up_nc (a := 13 + t) (b := 10) (by omega), up_nc (a := 13 + t) (b := 12) (by omega), up_nc (a := 6) (b := 0) (by omega), up_nc (a := 6) (b := 4) (by omega)]
    refine ⟨ht'.1, ht'.2.1, ht'.2.2.1, ht'.2.2.2.1, ht'.2.2.2.2.1, ht'.2.2.2.2.2.1, ht'.2.2.2.2.2.2.1, ht'.2.2.2.2.2.2.2.1, ht'.2.2.2.2.2.2.2.2.1, fun q hq => ?_⟩
    have hq' := ht'.2.2.2.2.2.2.2.2.2 q hq
    unfold TbE at hq' ⊢
    rw [up_nc (a := 6) (b := 5) (by omega), up_nc (a := 6) (b := 7) (by omega), up_nc (a := 6) (b := 8) (by omega), up_nc (a := 6) (b := 9) (by omega), up_nc (a := 6) (b := 10) (by omega)]
    by_cases e : q = t
    · subst e
      rw [up_nk (k := 1) (j := 0) (by omega), up_nk (k := 1) (j := 2) (by omega), up_nk (k := 1) (j := 3) (by omega), up_nk (k := 1) (j := 4) (by omega), up_nk (k := 1) (j := 5) (by omega), up_eq, up_eq]
      exact ⟨hq'.1, ⟨rfl, hu⟩, hq'.2.2⟩
    · rw [up_nc (by omega), up_nk e]
      exact hq'
theorem kinds_loop {t : Nat} (ht : t < 6) {u : Int32} (hu : rg u 2) : ∀ (m k : Nat) (x4 : Int32) (σ μ : Sg), Inv σ μ → k ≤ 3 → 3 - k < m → ∃ r τ ν, fX6_kinds_34 t u m x4 (nI k) σ = some (r, τ) ∧ fX7_kinds_22 (nI t) u m x4 (nI k) μ = some (r, ν) ∧ Inv τ ν := by
  intro m
  induction m with
  | zero => intro k x4 σ μ hI h1 h2; omega
  | succ m ih =>
    intro k x4 σ μ hI h1 h2
    have hg := gIn_nI (t := t) (n := 6) (by omega) (by decide)
    rw [fX6_kinds_34, fX7_kinds_22]
    by_cases h : 3 ≤ k
    · have hc : 3 ≤ nI k := nI_le (a := 3) h (by omega)
      simp only [if_pos hc, if_pos hg, nI_clamp (show t < 2 ^ 31 by omega)]
      exact ⟨_, _, _, rfl, rfl, hI.setKind ht hu⟩
    · have hc : ¬ 3 ≤ nI k := nI_ge (b := 3) (by omega) (by omega)
      have hJ := hI.setKind ht (u := nI k) ⟨k, by omega, rfl⟩
      obtain ⟨r, r1, r2⟩ := fitE hJ
      simp only [if_neg hc, if_pos hg, nI_clamp (show t < 2 ^ 31 by omega), r1, r2, Option.bind_some, nI_1]
      by_cases hr : r = 0
      · simp only [if_pos hr]
        exact ih (k + 1) _ _ _ hJ (by omega) (by omega)
      · simp only [if_neg hr]
        exact ih (k + 1) _ _ _ hJ (by omega) (by omega)
theorem E_kinds (hI : Inv σ μ) (x1 : Int32) : ∃ (r : Int32) (τ : Sg) (ν : Sg), fX6_kinds x1 σ = some (r, τ) ∧ fX7_kinds x1 μ = some (r, ν) ∧ Inv τ ν := by
  unfold fX6_kinds fX7_kinds
  rcases tube_or hI x1 with ⟨a1, a2⟩ | ⟨a1, a2, t, N, ht, hN, rfl, en⟩
  · rw [a1, a2]
    exact ⟨-1, σ, μ, rfl, rfl, hI⟩
  · have hg := gIn_nI (t := t) (n := 6) (by omega) (by decide)
    have hT := hI.tube (t := t) (by omega)
    rw [a1, a2]
    simp only [if_pos hg, nI_clamp (show t < 2 ^ 31 by omega), hT.1.1]
    have := kinds_loop (t := t) (by omega) hT.1.2 1000 0 0 σ μ hI (by omega) (by omega)
    rw [nI_0] at this
    exact this
theorem colours_loop {t : Nat} (ht : t < 6) {u : Int32} (hu : rg u 7) : ∀ (m k : Nat) (x4 : Int32) (σ μ : Sg), Inv σ μ → k ≤ 8 → 8 - k < m → ∃ r τ ν, fX6_colours_34 t u m x4 (nI k) σ = some (r, τ) ∧ fX7_colours_22 (nI t) u m x4 (nI k) μ = some (r, ν) ∧ Inv τ ν := by
  intro m
  induction m with
  | zero => intro k x4 σ μ hI h1 h2; omega
  | succ m ih =>
    intro k x4 σ μ hI h1 h2
    have hg := gIn_nI (t := t) (n := 6) (by omega) (by decide)
    rw [fX6_colours_34, fX7_colours_22]
    by_cases h : 7 < k
    · have hc : 7 < nI k := nI_lt (a := 7) h (by omega)
      simp only [if_pos hc, if_pos hg, nI_clamp (show t < 2 ^ 31 by omega)]
      exact ⟨_, _, _, rfl, rfl, hI.setColour ht hu⟩
    · have hc : ¬ 7 < nI k := nI_nlt (a := 7) (by omega) (by omega)
      have hJ := hI.setColour ht (u := nI k) ⟨k, by omega, rfl⟩
      obtain ⟨r, r1, r2⟩ := fitE hJ
      simp only [if_neg hc, if_pos hg, nI_clamp (show t < 2 ^ 31 by omega), r1, r2, Option.bind_some, nI_1]
      by_cases hr : r = 0
      · simp only [if_pos hr]
        exact ih (k + 1) _ _ _ hJ (by omega) (by omega)
      · simp only [if_neg hr]
        exact ih (k + 1) _ _ _ hJ (by omega) (by omega)
theorem E_colours (hI : Inv σ μ) (x1 : Int32) : ∃ (r : Int32) (τ : Sg) (ν : Sg), fX6_colours x1 σ = some (r, τ) ∧ fX7_colours x1 μ = some (r, ν) ∧ Inv τ ν := by
  unfold fX6_colours fX7_colours
  rcases tube_or hI x1 with ⟨a1, a2⟩ | ⟨a1, a2, t, N, ht, hN, rfl, en⟩
  · rw [a1, a2]
    exact ⟨-1, σ, μ, rfl, rfl, hI⟩
  · have hg := gIn_nI (t := t) (n := 6) (by omega) (by decide)
    have hT := hI.tube (t := t) (by omega)
    rw [a1, a2]
    simp only [if_pos hg, nI_clamp (show t < 2 ^ 31 by omega), hT.2.1.1]
    have := colours_loop (t := t) (by omega) hT.2.1.2 1000 0 0 σ μ hI (by omega) (by omega)
    rw [nI_0] at this
    exact this
theorem nears_loop {u : Int32} (hu : rg u 20) : ∀ (m k : Nat) (x4 : Int32) (σ μ : Sg), Inv σ μ → k ≤ 21 → 21 - k < m → ∃ r τ ν, fX6_nears_25 u m x4 (nI k) σ = some (r, τ) ∧ fX7_nears_19 u m x4 (nI k) μ = some (r, ν) ∧ Inv τ ν := by
  intro m
  induction m with
  | zero => intro k x4 σ μ hI h1 h2; omega
  | succ m ih =>
    intro k x4 σ μ hI h1 h2
    rw [fX6_nears_25, fX7_nears_19]
    by_cases h : 20 < k
    · have hc : 20 < nI k := nI_lt (a := 20) h (by omega)
      simp only [if_pos hc]
      exact ⟨_, _, _, rfl, rfl, hI.setNear hu⟩
    · have hc : ¬ 20 < nI k := nI_nlt (a := 20) (by omega) (by omega)
      have hJ := hI.setNear (u := nI k) ⟨k, by omega, rfl⟩
      obtain ⟨r, r1, r2⟩ := fitE hJ
      simp only [if_neg hc, r1, r2, Option.bind_some, nI_1]
      by_cases hr : r = 0
      · simp only [if_pos hr]
        exact ih (k + 1) _ _ _ hJ (by omega) (by omega)
      · simp only [if_neg hr]
        exact ih (k + 1) _ _ _ hJ (by omega) (by omega)
theorem E_nears (hI : Inv σ μ) : ∃ (r : Int32) (τ : Sg) (ν : Sg), fX6_nears σ = some (r, τ) ∧ fX7_nears μ = some (r, ν) ∧ Inv τ ν := by
  unfold fX6_nears fX7_nears
  rcases open_or hI with ⟨e1, e2⟩ | ⟨e1, e2⟩
  · rw [e1, e2]
    exact ⟨-3, σ, μ, rfl, rfl, hI⟩
  · rw [e1, if_neg e2, hI.near]
    have := nears_loop hI.nearr 1000 0 0 σ μ hI (by omega) (by omega)
    rw [nI_0] at this
    exact this
/-! memories: four rows of four on one side, sixteen on the other -/
theorem mem_in {x1 u w : Int32} {a : Nat} (ha : a < 4) {m' : Nat} {K : Int32 → Int32 → Int32 → Sg → Option (Int32 × Sg)} (hK : ∀ (x4 x5 : Int32) (σ μ : Sg), Inv σ μ → ∃ r τ ν, K x4 x5 (nI (a + 1)) σ = some (r, τ) ∧ fX7_memories_42 x1 u w m' x4 x5 (nI (4 * a + 4)) μ = some (r, ν) ∧ Inv τ ν) : ∀ (n m b : Nat) (x4 x5 : Int32) (σ μ : Sg), Inv σ μ → b ≤ 4 → 4 - b < m → n = 4 - b → ∃ r τ ν, fX6_memories_60 x1 u w (nI a) K m x4 x5 (nI b) σ = some (r, τ) ∧ fX7_memories_42 x1 u w (n + m') x4 x5 (nI (4 * a + b)) μ = some (r, ν) ∧ Inv τ ν := by
  intro n
  induction n with
  | zero =>
    intro m b x4 x5 σ μ hI h1 h2 h3
    obtain ⟨m, rfl⟩ : ∃ k, m = k + 1 := ⟨m - 1, by omega⟩
    obtain rfl : b = 4 := by omega
    rw [fX6_memories_60, if_pos (by decide), nI_1, Nat.zero_add]
    exact hK x4 x5 σ μ hI
  | succ n ih =>
    intro m b x4 x5 σ μ hI h1 h2 h3
    obtain ⟨m, rfl⟩ : ∃ k, m = k + 1 := ⟨m - 1, by omega⟩
    have hb : b < 4 := by omega
    have hc : ¬ 3 < nI b := nI_nlt (a := 3) (by omega) (by omega)
    have hc2 : ¬ 16 ≤ nI (4 * a + b) := nI_ge (b := 16) (by omega) (by omega)
    have ed : nI (4 * a + b) / 4 = nI a := by
      rw [show (4 : Int32) = nI 4 from rfl, pk_div (by omega) (by omega) (by omega)]
      congr 1
      omega
    have er : nI (4 * a + b) - nI a * 4 = nI b := by
      rw [show (4 : Int32) = nI 4 from rfl, pk_mul, pk_sub (by omega)]
      congr 1
      omega
    have hJ := hI.setMem (u := nI a) (v := nI b) ⟨a, by omega, rfl⟩ ⟨b, by omega, rfl⟩
    obtain ⟨r, r1, r2⟩ := fitE hJ
    rw [show n + 1 + m' = (n + m') + 1 by omega, fX6_memories_60, fX7_memories_42]
    simp only [if_neg hc, if_neg hc2, ed, er, r1, r2, Option.bind_some, nI_1, fX6_memory]
    by_cases hr : r = 0
    · simp only [if_pos hr]
      exact ih m (b + 1) _ _ _ _ hJ (by omega) (by omega) (by omega)
    · simp only [if_neg hr]
      by_cases h4 : x4 = 0
      · simp only [if_pos h4]
        exact ih m (b + 1) _ _ _ _ hJ (by omega) (by omega) (by omega)
      · simp only [if_neg h4]
        exact ih m (b + 1) _ _ _ _ hJ (by omega) (by omega) (by omega)
theorem mem_out {x1 u w : Int32} (hu : rg u 3) (hw : rg w 3) : ∀ (n m m' a : Nat) (x4 x5 : Int32) (σ μ : Sg), Inv σ μ → n = 4 - a → a ≤ 4 → n < m → 1 ≤ m' → ∃ r τ ν, fX6_memories_51 x1 u w m x4 x5 (nI a) σ = some (r, τ) ∧ fX7_memories_42 x1 u w (4 * n + m') x4 x5 (nI (4 * a)) μ = some (r, ν) ∧ Inv τ ν := by
  intro n
  induction n with
  | zero =>
    intro m m' a x4 x5 σ μ hI h1 h2 h3 h4
    obtain ⟨m, rfl⟩ : ∃ k, m = k + 1 := ⟨m - 1, by omega⟩
    obtain ⟨m', rfl⟩ : ∃ k, m' = k + 1 := ⟨m' - 1, by omega⟩
    obtain rfl : a = 4 := by omega
    rw [show 4 * 0 + (m' + 1) = m' + 1 by omega, fX6_memories_51, fX7_memories_42]
    simp only [if_pos (show (3 : Int32) < nI 4 by decide), if_pos (show (16 : Int32) ≤ nI (4 * 4) by decide)]
    by_cases hx : x1 = 0
    · simp only [if_pos hx]
      exact ⟨_, _, _, rfl, rfl, hI.setMem hu hw⟩
    · simp only [if_neg hx]
      exact ⟨_, _, _, rfl, rfl, hI.setMem hu hw⟩
  | succ n ih =>
    intro m m' a x4 x5 σ μ hI h1 h2 h3 h4
    obtain ⟨m, rfl⟩ : ∃ k, m = k + 1 := ⟨m - 1, by omega⟩
    have ha : a < 4 := by omega
    have hc : ¬ 3 < nI a := nI_nlt (a := 3) (by omega) (by omega)
    rw [fX6_memories_51, if_neg hc]
    have := mem_in (x1 := x1) (u := u) (w := w) ha (m' := 4 * n + m') (K := fX6_memories_51 x1 u w m) (fun y4 y5 s1 s2 hs => by
      have := ih m m' (a + 1) y4 y5 s1 s2 hs (by omega) (by omega) (by omega) h4
      rw [show 4 * (a + 1) = 4 * a + 4 by omega] at this
      exact this) 4 1000 0 x4 x5 σ μ hI (by omega) (by omega) (by omega)
    rw [show 4 + (4 * n + m') = 4 * (n + 1) + m' by omega] at this
    exact this
theorem E_memories (hI : Inv σ μ) (x1 : Int32) : ∃ (r : Int32) (τ : Sg) (ν : Sg), fX6_memories x1 σ = some (r, τ) ∧ fX7_memories x1 μ = some (r, ν) ∧ Inv τ ν := by
  unfold fX6_memories fX7_memories
  rcases wi x1 0 1 μ with ⟨w, hw⟩ | ⟨w, hw⟩
  · rw [w]
    refine ⟨-2, σ, μ, ?_, rfl, hI⟩
    repeat' split
    all_goals (first | rfl | (exfalso; simp only [fa_lt, fa_le, fa_eq, L_m100, L_m10, L_m9, L_m4, L_m3, L_m2, L_m1, L_0, L_1, L_2, L_3, L_4, L_5, L_6, L_7, L_8, L_9, L_10, L_11, L_12, L_13, L_14, L_15, L_16, L_17, L_18, L_19, L_20, L_21, L_48, L_49, L_50, L_51, L_52, L_53, L_54, L_55, L_56, L_57, L_59, L_60, L_63, L_64, L_97, L_98, L_99, L_100, L_104, L_107, L_111, L_115, L_116, L_240] at *; omega) | (exfalso; simp only [fa_lt, fa_le, fa_eq, L_m100, L_m10, L_m9, L_m4, L_m3, L_m2, L_m1, L_0, L_1, L_2, L_3, L_4, L_5, L_6, L_7, L_8, L_9, L_10, L_11, L_12, L_13, L_14, L_15, L_16, L_17, L_18, L_19, L_20, L_21, L_48, L_49, L_50, L_51, L_52, L_53, L_54, L_55, L_56, L_57, L_59, L_60, L_63, L_64, L_97, L_98, L_99, L_100, L_104, L_107, L_111, L_115, L_116, L_240] at *; done) | contradiction)
  · rw [w]
    rcases open_or hI with ⟨e1, e2⟩ | ⟨e1, e2⟩
    · rw [e1, e2]
      refine ⟨-3, σ, μ, ?_, rfl, hI⟩
      repeat' split
      all_goals (first | rfl | (exfalso; simp only [fa_lt, fa_le, fa_eq, L_m100, L_m10, L_m9, L_m4, L_m3, L_m2, L_m1, L_0, L_1, L_2, L_3, L_4, L_5, L_6, L_7, L_8, L_9, L_10, L_11, L_12, L_13, L_14, L_15, L_16, L_17, L_18, L_19, L_20, L_21, L_48, L_49, L_50, L_51, L_52, L_53, L_54, L_55, L_56, L_57, L_59, L_60, L_63, L_64, L_97, L_98, L_99, L_100, L_104, L_107, L_111, L_115, L_116, L_240] at *; omega) | (exfalso; simp only [fa_lt, fa_le, fa_eq, L_m100, L_m10, L_m9, L_m4, L_m3, L_m2, L_m1, L_0, L_1, L_2, L_3, L_4, L_5, L_6, L_7, L_8, L_9, L_10, L_11, L_12, L_13, L_14, L_15, L_16, L_17, L_18, L_19, L_20, L_21, L_48, L_49, L_50, L_51, L_52, L_53, L_54, L_55, L_56, L_57, L_59, L_60, L_63, L_64, L_97, L_98, L_99, L_100, L_104, L_107, L_111, L_115, L_116, L_240] at *; done) | contradiction)
    · obtain ⟨r, τ, ν, h1, h2, h3⟩ := mem_out (x1 := x1) hI.redderr hI.largerr 4 1000 984 0 0 (-9) σ μ hI (by omega) (by omega) (by omega) (by omega)
      rw [nI_0] at h1
      rw [Nat.mul_zero, nI_0, show 4 * 4 + 984 = 1000 by decide] at h2
      refine ⟨r, τ, ν, ?_, ?_, h3⟩
      · rw [e1, hI.redder, hI.larger, h1]
        repeat' split
        all_goals (first | rfl | (exfalso; simp only [fa_lt, fa_le, fa_eq, L_m100, L_m10, L_m9, L_m4, L_m3, L_m2, L_m1, L_0, L_1, L_2, L_3, L_4, L_5, L_6, L_7, L_8, L_9, L_10, L_11, L_12, L_13, L_14, L_15, L_16, L_17, L_18, L_19, L_20, L_21, L_48, L_49, L_50, L_51, L_52, L_53, L_54, L_55, L_56, L_57, L_59, L_60, L_63, L_64, L_97, L_98, L_99, L_100, L_104, L_107, L_111, L_115, L_116, L_240] at *; omega) | (exfalso; simp only [fa_lt, fa_le, fa_eq, L_m100, L_m10, L_m9, L_m4, L_m3, L_m2, L_m1, L_0, L_1, L_2, L_3, L_4, L_5, L_6, L_7, L_8, L_9, L_10, L_11, L_12, L_13, L_14, L_15, L_16, L_17, L_18, L_19, L_20, L_21, L_48, L_49, L_50, L_51, L_52, L_53, L_54, L_55, L_56, L_57, L_59, L_60, L_63, L_64, L_97, L_98, L_99, L_100, L_104, L_107, L_111, L_115, L_116, L_240] at *; done) | contradiction)
      · rw [if_neg (by decide), if_neg e2]
        exact h2
end PUT5
