section PUTP
variable {σ μ s u : Sg} {k i n len t B : Nat}
/-! taking the SHOP over: the reference -/
theorem tk32 : ∀ (e p m : Nat) (ν : Sg), e + p = 6 → e < m → ∃ ν1, fX7_takeShop_32 m (nI p) ν = fX7_takeShop_79 1000 0 (up2 (up2 ν1 0 8 (ν1 11 9)) 0 10 (ν1 0 21)) ∧ (∀ a, a ≠ 4 → ν1 a = ν a) ∧ (∀ q, p ≤ q → q < 6 → ν1 4 q = ν 11 (3 + q)) ∧ ∀ q, q < p → ν1 4 q = ν 4 q := by
  intro e
  induction e with
  | zero =>
    intro p m ν h1 h2
    obtain ⟨m, rfl⟩ : ∃ j, m = j + 1 := ⟨m - 1, by omega⟩
    obtain rfl : p = 6 := by omega
    rw [fX7_takeShop_32, if_pos (show (6 : Int32) ≤ nI 6 from by decide)]
    exact ⟨ν, rfl, fun _ _ => rfl, fun q a b => by omega, fun _ _ => rfl⟩
  | succ e ih =>
    intro p m ν h1 h2
    obtain ⟨m, rfl⟩ : ∃ j, m = j + 1 := ⟨m - 1, by omega⟩
    have g := gIn_nI (t := p) (n := 6) (by omega) (by decide)
    have g2 := gIn_nI (t := 3 + p) (n := 10) (by omega) (by decide)
    have e3 : 3 + nI p = nI (3 + p) := nI_add 3 p
    rw [fX7_takeShop_32, if_neg (show ¬ (6 : Int32) ≤ nI p from nI_ge (b := 6) (by omega) (by omega)), e3, if_pos g2, if_pos g, nI_clamp (by omega), nI_clamp (by omega), nI_1]
    obtain ⟨ν1, a1, a2, a3, a4⟩ := ih (p + 1) m (up2 ν 4 p (ν 11 (3 + p))) (by omega) (by omega)
    refine ⟨ν1, a1, fun a ha => (a2 a ha).trans (up_nc ha), fun q q1 q2 => ?_, fun q q1 => ?_⟩
    · by_cases eq : q = p
      · subst eq; rw [a4 q (by omega), up_eq]
      · rw [a3 q (by omega) q2, up_nc (by omega)]
    · rw [a4 q (by omega), up_nk (by omega)]
theorem tk79 (ht : t ≤ 6) : ∀ (m r : Nat) (ν : Sg), r ≤ t → t - r < m → ν 0 10 = nI t → ∃ ν1, fX7_takeShop_79 m (nI r) ν = some (up2 (up2 (up2 (up2 ν1 0 17 0) 0 18 0) 0 19 0) 0 30 0) ∧ (∀ a, (a < 5 ∨ 11 ≤ a) → ν1 a = ν a) ∧ (∀ q c, c ≤ 5 → r ≤ q → q < t → ν1 (5 + c) q = ν 12 (6 * q + c)) ∧ ∀ q c, c ≤ 5 → (q < r ∨ t ≤ q) → ν1 (5 + c) q = ν (5 + c) q := by
  intro m
  induction m with
  | zero => intro r ν h1 h2; omega
  | succ m ih =>
    intro r ν h1 h2 h3
    rw [fX7_takeShop_79, h3]
    by_cases h : t ≤ r
    · rw [if_pos (nI_le h (by omega))]
      exact ⟨ν, rfl, fun _ _ => rfl, fun q c _ a b => by omega, fun _ _ _ _ => rfl⟩
    · have e6 : 6 * nI r = nI (6 * r) := pk_mul 6 r
      have g0 := gIn_nI (t := r) (n := 6) (by omega) (by decide)
      have g := fun c (hc : c ≤ 5) => gIn_nI (t := 6 * r + c) (n := 36) (by omega) (by decide)
      have ex : ∀ c : Nat, ∀ x : Int32, x = nI c → nI (6 * r) + x = nI (6 * r + c) := fun c x hx => n_add _ _ hx
      rw [if_neg (nI_ge (by omega) (by omega)), e6, ex 1 1 rfl, ex 2 2 rfl, ex 3 3 rfl, ex 4 4 rfl, ex 5 5 rfl, if_pos (gIn_nI (t := 6 * r) (n := 36) (by omega) (by decide)), if_pos g0, if_pos (g 1 (by omega)), if_pos (g 2 (by omega)), if_pos (g 3 (by omega)), if_pos (g 4 (by omega)), if_pos (g 5 (by omega)), nI_1]
      rw [nI_clamp (show r < 2 ^ 31 by omega), nI_clamp (show 6 * r < 2 ^ 31 by omega), nI_clamp (show 6 * r + 1 < 2 ^ 31 by omega), nI_clamp (show 6 * r + 2 < 2 ^ 31 by omega), nI_clamp (show 6 * r + 3 < 2 ^ 31 by omega), nI_clamp (show 6 * r + 4 < 2 ^ 31 by omega), nI_clamp (show 6 * r + 5 < 2 ^ 31 by omega)]
      generalize hν : up2 (up2 (up2 (up2 (up2 (up2 ν 5 r (ν 12 (6 * r))) 6 r (ν 12 (6 * r + 1))) 7 r (ν 12 (6 * r + 2))) 8 r (ν 12 (6 * r + 3))) 9 r (ν 12 (6 * r + 4))) 10 r (ν 12 (6 * r + 5)) = ν2
      have k1 : ∀ a, (a < 5 ∨ 11 ≤ a) → ν2 a = ν a := fun a ha => by
        rw [← hν, up_nc (by omega), up_nc (by omega), up_nc (by omega), up_nc (by omega), up_nc (by omega), up_nc (by omega)]
      have k2 : ∀ c, c ≤ 5 → ν2 (5 + c) r = ν 12 (6 * r + c) := fun c hc => by
        rw [← hν]
        match c, hc with
        | 0, _ => rw [up_nc (by omega), up_nc (by omega), up_nc (by omega), up_nc (by omega), up_nc (by omega), up_eq]; rfl
        | 1, _ => rw [up_nc (by omega), up_nc (by omega), up_nc (by omega), up_nc (by omega), up_eq]
        | 2, _ => rw [up_nc (by omega), up_nc (by omega), up_nc (by omega), up_eq]
        | 3, _ => rw [up_nc (by omega), up_nc (by omega), up_eq]
        | 4, _ => rw [up_nc (by omega), up_eq]
        | 5, _ => rw [up_eq]
      have k3 : ∀ a q, q ≠ r → ν2 a q = ν a q := fun a q hq => by
        rw [← hν]
        simp only [up_at, hq, and_false, if_false]
      obtain ⟨ν1, a1, a2, a3, a4⟩ := ih (r + 1) ν2 (by omega) (by omega) (by rw [k1 0 (by omega)]; exact h3)
      refine ⟨ν1, a1, fun a ha => (a2 a ha).trans (k1 a ha), fun q c hc q1 q2 => ?_, fun q c hc q1 => ?_⟩
      · by_cases eq : q = r
        · subst eq
          rw [a4 q c hc (by omega)]
          exact k2 c hc
        · rw [a3 q c hc (by omega) q2, k1 12 (by omega)]
      · rw [a4 q c hc (by omega)]
        exact k3 _ _ (by omega)
def MF (u : Sg) (B t : Nat) (τ : Sg) : Prop := (τ 0 0 = u 0 0 ∧ τ 0 1 = u 0 1 ∧ τ 1 = u 1 ∧ τ 2 = u 2 ∧ τ 3 = u 3 ∧ τ 16 = u 16 ∧ τ 17 = u 17) ∧ (τ 0 10 = nI t ∧ τ 0 5 = D0 u B 1 ∧ τ 0 6 = D0 u B 2 ∧ τ 0 7 = D0 u B 3 ∧ τ 0 8 = D0 u B 10 ∧ τ 0 17 = 0 ∧ τ 0 18 = 0 ∧ τ 0 19 = 0 ∧ τ 0 30 = 0) ∧ (∀ p, p < 6 → τ 4 p = D0 u B (4 + p)) ∧ (∀ q, q < t → τ 5 q = kd (T0 u B (12 + 7 * q)) ∧ ∀ c, 1 ≤ c → c ≤ 5 → τ (5 + c) q = D0 u B (12 + 7 * q + c)) ∧ ∀ q c, c ≤ 5 → t ≤ q → τ (5 + c) q = u (5 + c) q
theorem takeE (ht : t ≤ 6) {ν : Sg} (hD : Td s u B n t ν) : ∃ τ, fX7_takeShop ν = some τ ∧ MF u B t τ := by
  obtain ⟨hs, h20, hq, hF, h21, hT, hH⟩ := hD
  unfold fX7_takeShop
  generalize hν : up2 (up2 (up2 ν 0 5 (ν 11 0)) 0 6 (ν 11 1)) 0 7 (ν 11 2) = ν0
  have c0 : ∀ a, a ≠ 0 → ν0 a = ν a := fun a ha => by rw [← hν, up_nc ha, up_nc ha, up_nc ha]
  have z0 : ∀ j, j ≠ 5 → j ≠ 6 → j ≠ 7 → ν0 0 j = ν 0 j := fun j h1 h2 h3 => by rw [← hν, up_nk h3, up_nk h2, up_nk h1]
  have z5 : ν0 0 5 = ν 11 0 := by rw [← hν, up_nk (by omega), up_nk (by omega), up_eq]
  have z6 : ν0 0 6 = ν 11 1 := by rw [← hν, up_nk (by omega), up_eq]
  have z7 : ν0 0 7 = ν 11 2 := by rw [← hν, up_eq]
  obtain ⟨ν1, a1, a2, a3, -⟩ := tk32 6 0 1000 ν0 (by omega) (by omega)
  rw [nI_0] at a1
  rw [a1]
  have e9 : ν1 11 9 = D0 u B 10 := by rw [a2 11 (by omega), c0 11 (by omega)]; exact (hH 9 (by omega)).1
  have e21 : ν1 0 21 = nI t := by rw [a2 0 (by omega), z0 21 (by omega) (by omega) (by omega)]; exact h21
  rw [e9, e21]
  obtain ⟨ν2, b1, b2, b3, b4⟩ := tk79 ht 1000 0 (up2 (up2 ν1 0 8 (D0 u B 10)) 0 10 (nI t)) (by omega) (by omega) (up_eq _ _ _ _)
  rw [nI_0] at b1
  rw [b1]
  have cell : ∀ a, a ≠ 0 → (a < 4 ∨ 11 ≤ a) → ν2 a = ν a := fun a h1 h2 => by
    rw [b2 a (by omega), up_nc h1, up_nc h1, a2 a (by omega), c0 a h1]
  have zero : ∀ j, j ≠ 5 → j ≠ 6 → j ≠ 7 → j ≠ 8 → j ≠ 10 → ν2 0 j = ν 0 j := fun j h5 h6 h7 h8 h10 => by
    rw [b2 0 (by omega), up_nk h10, up_nk h8, a2 0 (by omega), z0 j h5 h6 h7]
  have low : ∀ j, j ≠ 8 → j ≠ 10 → ν2 0 j = ν0 0 j := fun j h8 h10 => by
    rw [b2 0 (by omega), up_nk h10, up_nk h8, a2 0 (by omega)]
  refine ⟨_, rfl, ⟨?_, ?_, ?_, ?_, ?_, ?_, ?_⟩, ⟨?_, ?_, ?_, ?_, ?_, ?_, ?_, ?_, ?_⟩, fun p hp => ?_, fun q hq => ⟨?_, fun c h1 h2 => ?_⟩, fun q c hc hq => ?_⟩
  · rw [up_nk (by omega), up_nk (by omega), up_nk (by omega), up_nk (by omega), zero 0 (by omega) (by omega) (by omega) (by omega) (by omega)]
    exact hs.1 0 (by omega) (by omega) (by omega) (by omega) (by omega)
  · rw [up_nk (by omega), up_nk (by omega), up_nk (by omega), up_nk (by omega), zero 1 (by omega) (by omega) (by omega) (by omega) (by omega)]
    exact hs.1 1 (by omega) (by omega) (by omega) (by omega) (by omega)
  · rw [up_nc (by omega), up_nc (by omega), up_nc (by omega), up_nc (by omega), cell 1 (by omega) (by omega)]
    exact hs.2 1 (by omega) (by omega) (by omega) (by omega) (by omega) (by omega)
  · rw [up_nc (by omega), up_nc (by omega), up_nc (by omega), up_nc (by omega), cell 2 (by omega) (by omega)]
    exact hs.2 2 (by omega) (by omega) (by omega) (by omega) (by omega) (by omega)
  · rw [up_nc (by omega), up_nc (by omega), up_nc (by omega), up_nc (by omega), cell 3 (by omega) (by omega)]
    exact hs.2 3 (by omega) (by omega) (by omega) (by omega) (by omega) (by omega)
  · rw [up_nc (by omega), up_nc (by omega), up_nc (by omega), up_nc (by omega), cell 16 (by omega) (by omega)]
    exact hs.2 16 (by omega) (by omega) (by omega) (by omega) (by omega) (by omega)
  · rw [up_nc (by omega), up_nc (by omega), up_nc (by omega), up_nc (by omega), cell 17 (by omega) (by omega)]
    exact hs.2 17 (by omega) (by omega) (by omega) (by omega) (by omega) (by omega)
  · rw [up_nk (by omega), up_nk (by omega), up_nk (by omega), up_nk (by omega), b2 0 (by omega), up_eq]
  · rw [up_nk (by omega), up_nk (by omega), up_nk (by omega), up_nk (by omega), low 5 (by omega) (by omega), z5]
    exact (hH 0 (by omega)).1
  · rw [up_nk (by omega), up_nk (by omega), up_nk (by omega), up_nk (by omega), low 6 (by omega) (by omega), z6]
    exact (hH 1 (by omega)).1
  · rw [up_nk (by omega), up_nk (by omega), up_nk (by omega), up_nk (by omega), low 7 (by omega) (by omega), z7]
    exact (hH 2 (by omega)).1
  · rw [up_nk (by omega), up_nk (by omega), up_nk (by omega), up_nk (by omega), b2 0 (by omega), up_nk (by omega), up_eq]
  · rw [up_nk (by omega), up_nk (by omega), up_nk (by omega), up_eq]
  · rw [up_nk (by omega), up_nk (by omega), up_eq]
  · rw [up_nk (by omega), up_eq]
  · rw [up_eq]
  · rw [up_nc (by omega), up_nc (by omega), up_nc (by omega), up_nc (by omega), b2 4 (by omega), up_nc (by omega), up_nc (by omega), a3 p (by omega) hp, c0 11 (by omega), (hH (3 + p) (by omega)).1]
    congr 1
    omega
  · rw [up_nc (by omega), up_nc (by omega), up_nc (by omega), up_nc (by omega)]
    have := b3 q 0 (by omega) (by omega) hq
    rw [Nat.add_zero, Nat.add_zero] at this
    rw [this, up_nc (by omega), up_nc (by omega), a2 12 (by omega), c0 12 (by omega)]
    exact (hT q hq).1
  · rw [up_nc (by omega), up_nc (by omega), up_nc (by omega), up_nc (by omega), b3 q c h2 (by omega) hq, up_nc (by omega), up_nc (by omega), a2 12 (by omega), c0 12 (by omega)]
    exact ((hT q hq).2 c h1 h2).1
  · rw [up_nc (by omega), up_nc (by omega), up_nc (by omega), up_nc (by omega), b4 q c hc (by omega), up_nc (by omega), up_nc (by omega), a2 _ (by omega), c0 _ (by omega)]
    rw [hs.2 (5 + c) (by omega) (by omega) (by omega) (by omega) (by omega) (by omega)]
theorem takeInv (hI : Inv s u) (ht : t ≤ 6) {ν τ ω : Sg} (hD : Td s u B n t ν) (hX : XF s u B t τ) (hM : MF u B t ω) : Inv (up2 τ 19 2 0) ω := by
  obtain ⟨-, -, -, -, -, hT, hH⟩ := hD
  obtain ⟨x1, ⟨x2, x3, x4, x5, x6, x7, x8, x9⟩, xp, xt, xr⟩ := hX
  obtain ⟨⟨m0, m1, c1, c2, c3, c16, c17⟩, ⟨n10, n5, n6, n7, n8, n17, n18, n19, n30⟩, mp, mt, mr⟩ := hM
  refine ⟨⟨?_, ?_⟩, hI.2.1.congr (fun a h1 h2 => by rw [up_nc (by omega)]; exact x1 a (by omega)) c1 c2 c3, ?_, ?_⟩
  · rw [up_nc (by omega), x1 0 (by omega), m1]; exact hI.1.1
  · rw [up_nc (by omega), x1 0 (by omega), m0]; exact hI.1.2
  · have R := fun p (hp : p < 10) => (hH p hp).2
    unfold InvT
    rw [up_nc (show (10 : Nat) ≠ 19 by omega), up_nc (show (12 : Nat) ≠ 19 by omega), x2, x3, x4, x5, x6, x7, x8, x9, n10, n5, n6, n7, n8, n17, n18, n19]
    refine ⟨⟨rfl, t, ht, rfl⟩, ⟨rfl, R 0 (by omega)⟩, ⟨rfl, R 1 (by omega)⟩, ⟨rfl, R 2 (by omega)⟩, ⟨rfl, R 9 (by omega)⟩, ⟨rfl, rg0 _⟩, ⟨rfl, rg0 _⟩, ⟨rfl, rg0 _⟩, fun p hp => ?_, fun q hq => ?_⟩
    · rw [xp p hp, mp p hp]
      refine ⟨rfl, ?_⟩
      have := R (3 + p) (by omega)
      rw [if_neg (by omega), show 1 + (3 + p) = 4 + p by omega] at this
      exact this
    · unfold TbE
      rw [up_nc (show 13 + q ≠ 19 by omega)]
      by_cases h : q < t
      · obtain ⟨y0, yc⟩ := xt q h
        obtain ⟨w0, wc⟩ := mt q h
        have r1 := fun c (h1 : 1 ≤ c) (h2 : c ≤ 5) => ((hT q h).2 c h1 h2).2
        rw [y0, w0, yc 1 (by omega) (by omega), yc 2 (by omega) (by omega), yc 3 (by omega) (by omega), yc 4 (by omega) (by omega), yc 5 (by omega) (by omega)]
        have w1 := wc 1 (by omega) (by omega)
        have w2 := wc 2 (by omega) (by omega)
        have w3 := wc 3 (by omega) (by omega)
        have w4 := wc 4 (by omega) (by omega)
        have w5 := wc 5 (by omega) (by omega)
        simp only [Nat.reduceAdd] at w1 w2 w3 w4 w5
        rw [w1, w2, w3, w4, w5]
        refine ⟨⟨rfl, ?_⟩, ⟨rfl, r1 1 (by omega) (by omega)⟩, ⟨rfl, r1 2 (by omega) (by omega)⟩, ⟨rfl, r1 3 (by omega) (by omega)⟩, ⟨rfl, r1 4 (by omega) (by omega)⟩, ⟨rfl, r1 5 (by omega) (by omega)⟩⟩
        unfold kd
        split
        · exact ⟨2, by omega, rfl⟩
        · split
          · exact ⟨1, by omega, rfl⟩
          · exact ⟨0, by omega, rfl⟩
      · rw [xr q (by omega) hq]
        have w0 := mr q 0 (by omega) (by omega)
        have w1 := mr q 1 (by omega) (by omega)
        have w2 := mr q 2 (by omega) (by omega)
        have w3 := mr q 3 (by omega) (by omega)
        have w4 := mr q 4 (by omega) (by omega)
        have w5 := mr q 5 (by omega) (by omega)
        simp only [Nat.reduceAdd] at w0 w1 w2 w3 w4 w5
        rw [w0, w1, w2, w3, w4, w5]
        exact hI.tube hq
  · have hR := hI.2.2.2
    unfold InvR at hR ⊢
    rw [up_eq, up_nc (show (20 : Nat) ≠ 19 by omega), up_nc (show (21 : Nat) ≠ 19 by omega), x1 20 (by omega), x1 21 (by omega), n30, c16, c17]
    exact ⟨⟨rfl, rg0 _⟩, hR.2.1, fun q hq => absurd (show q < 0 from hq) (Nat.not_lt_zero q)⟩
theorem E_shop (hI : Inv σ μ) (x1 : Int32) (x2 : Int32) (x3 : Int32) (x4 : Int32) : ∃ (r : Int32) (τ : Sg) (ν : Sg), fX6_shop x1 x2 x3 x4 σ = some (r, τ) ∧ fX7_shop x1 x2 x3 x4 μ = some (r, ν) ∧ Inv τ ν := by
  have hJ := hI.fault 0
  have m0 : ¬ (1 : Int32) = 0 := by decide
  have m1 : ¬ (-1 : Int32) = 0 := by decide
  have m2 : ¬ (-2 : Int32) = 0 := by decide
  have hR := refE hJ x1 x2 x3 x4 1 (Or.inr rfl)
  unfold fX6_shop fX7_shop fX7_fails
  clear hI
  generalize up2 σ 0 4 0 = s at hJ hR ⊢
  generalize up2 μ 0 0 0 = u at hJ hR ⊢
  rcases hR with ⟨p1, p2⟩ | ⟨p1, p2, p3⟩ | ⟨p1, p2, p3, p4⟩ | ⟨p1, p2, p3, f, f0, f1, f2, f3⟩ | ⟨p1, p2, p3, f2, f3, k, hk, rfl, hS, i, n, len, rfl, rfl, hn, hl, el⟩
  · simp only [p1, p2, Option.bind_some, if_neg m1, if_true]
    exact ⟨-1, s, u, rfl, rfl, hJ⟩
  · simp only [p1, p2, p3, Option.bind_some, if_neg m2, if_neg m0, if_true]
    exact ⟨-2, s, u, rfl, rfl, hJ⟩
  · exact absurd p3 (by decide)
  · refine ⟨-10 - f, up2 s 0 4 f, up2 u 0 0 f, ?_, ?_, hJ.fault f⟩
    · rw [f3, Option.bind_some]
      exact if_neg f1
    · rw [p1, p2, f2, Option.bind_some, if_neg m0, if_neg m0, if_neg f0]
  · have hg := gIn_nI (t := k) (n := 4) (by omega) (by decide)
    have hF := firstE hk hS hn hl el 1000 0 (by omega) (by omega)
    rw [nI_0, Nat.sub_zero] at hF
    have hF2 : fX3_firstFault k (nI i) (nI n) s = some (ffn (T0 u (60 * k + i)) s n 0) := hF
    simp only [p1, p2, f2, f3, Option.bind_some, if_true, if_neg m0, if_pos hg, nI_clamp (show k < 2 ^ 31 by omega), ix_eq, nI_add, hF2]
    have hs : Scr u (up2 u 0 20 (nI (60 * k + i))) := Scr.rf.up0 (k := 20) (by omega) _
    rcases readE2 (s := s) (B := 60 * k + i) (n := n) (by omega) (by omega) hs (up_eq _ _ _ _) with ⟨ν, a1, j, j1, j2, j3, j4⟩ | ⟨ν, t, a1, a2, a3, a4, a5⟩
    · rw [a1, j3, Option.bind_some]
      dsimp only
      rw [if_pos rfl, j2, pk_sub (by omega), show 60 * k + i + j - (60 * k + i) = j by omega]
      refine ⟨-100 - nI j, s, ν, ?_, rfl, hJ.scr j4⟩
      rw [if_neg]
      intro q
      rw [fa_eq, nI_toInt (by omega), L_m1] at q
      omega
    · obtain ⟨τ, t1, t2⟩ := stockE hk hS hn hl el a4 a3 a5
      obtain ⟨ω, w1, w2⟩ := takeE a4 a2
      have e1 : ffn (T0 u (60 * k + i)) s n 0 = -1 := by
        rw [a2.2.2.2.1, ← a5, Nat.sub_self, ffn, whole_at (by omega), if_pos (show 18 ≤ n ∧ (n - 11) % 7 = 0 by omega), if_neg m0]
      rw [a1, e1, Option.bind_some]
      dsimp only
      rw [if_neg m0, if_pos rfl, t1, w1, Option.bind_some, Option.bind_some, t2.2.1.1, w2.2.1.1]
      exact ⟨nI t, _, ω, rfl, rfl, takeInv hJ a4 a2 t2 w2⟩
end PUTP
