section PUTH
variable {σ μ s u : Sg} {N : Nat}
/-! the order of SIGNS that takes the least -/
theorem sof_loop : ∀ (m t : Nat) (ν : Sg), t ≤ 3 → 3 - t < m → ∃ ν2 : Sg, fX7_signsOf_7 m (nI t) ν = ((fX7_sieveAll ν2).bind fun q3 => some ((q3.2 0 26), q3.2)) ∧ (∀ a, a ≠ 13 → ν2 a = ν a) ∧ (∀ k, t ≤ k → k < 3 → ν2 13 k = ν 14 k) ∧ ∀ k, k < t → ν2 13 k = ν 13 k := by
  intro m
  induction m with
  | zero => intro t ν h1 h2; omega
  | succ m ih =>
    intro t ν h1 h2
    rw [fX7_signsOf_7]
    by_cases h : 3 ≤ t
    · have hc : (3 : Int32) ≤ nI t := nI_le (a := 3) h (by omega)
      rw [if_pos hc]
      exact ⟨ν, rfl, fun _ _ => rfl, fun k a b => by omega, fun _ _ => rfl⟩
    · have hc : ¬ (3 : Int32) ≤ nI t := nI_ge (a := t) (b := 3) (by omega) (by omega)
      have g := gIn_nI (t := t) (n := 6) (by omega) (by decide)
      have g3 := gIn_nI (t := t) (n := 3) (by omega) (by decide)
      rw [if_neg hc, if_pos g, if_pos g3, nI_clamp (by omega), nI_1]
      obtain ⟨ν2, q1, q2, q3, q4⟩ := ih (t + 1) (up2 ν 13 t (ν 14 t)) (by omega) (by omega)
      refine ⟨ν2, q1, fun a ha => (q2 a ha).trans (up_nc ha), fun k a b => ?_, fun k hk => ?_⟩
      · by_cases e : k = t
        · subst e; rw [q4 k (by omega), up_eq]
        · rw [q3 k (by omega) b, up_nc (by omega)]
      · rw [q4 k (by omega), up_nk (by omega)]
theorem sofE (hN : N ≤ 6) {sg : Nat → Int32} {ν : Sg} (hJ : Inv s ν) (en : ν 0 10 = nI N) (h14 : ∀ j, j < 3 → ν 14 j = sg j) : ∃ ν2 : Sg, fX7_signsOf ν = some (nI (Sq s sg N 3), ν2) ∧ Scr ν ν2 ∧ ν2 0 27 = ν 0 27 ∧ ν2 14 = ν 14 ∧ ν2 15 = ν 15 := by
  obtain ⟨ν2, q1, q2, q3, -⟩ := sof_loop 1000 0 (up2 ν 0 24 3) (by omega) (by omega)
  rw [nI_0] at q1
  have hS : Scr ν ν2 := ⟨fun k a b c d e => by rw [q2 0 (by omega), up_nk c], fun a h b c d e f => by rw [q2 a d, up_nc (by omega)]⟩
  have hm := msieveE (s := s) (sg := sg) (N := N) (n := 3) hN (by omega) (hJ.scr hS) (by rw [hS.1 10 (by omega) (by omega) (by omega) (by omega) (by omega)]; exact en) (by rw [q2 0 (by omega), up_eq]; rfl) (fun j hj => by rw [q3 j (by omega) hj, up_nc (by omega)]; exact h14 j hj)
  unfold fX7_signsOf
  rw [q1, hm, Option.bind_some]
  dsimp only
  rw [up_eq]
  refine ⟨_, rfl, hS.up0 (by omega) _, ?_, ?_, ?_⟩
  · rw [up_nk (by omega), q2 0 (by omega), up_nk (by omega)]
  · rw [up_nc (by omega), q2 14 (by omega), up_nc (by omega)]
  · rw [up_nc (by omega), q2 15 (by omega), up_nc (by omega)]
def rp (p : Nat) : Nat := (soT (3 * p)).toNatClampNeg + 8 * ((soT (3 * p + 1)).toNatClampNeg + 8 * (soT (3 * p + 2)).toNatClampNeg)
theorem rp_at {p j : Nat} (hp : p < 6) (hj : j < 3) : cs 3 (rp p) 14 j = soT (3 * p + j) :=
  fin_lt (P := fun p => ∀ j : Fin 3, nI (rp p / 8 ^ j.val % 8) = soT (3 * p + j.val)) (N := 6) (by decide +kernel) hp ⟨j, hj⟩
def nxOk (p : Nat) : Bool := match fX7_nextRow (cs 3 (rp p)) with
  | none => false
  | some (y, d) => if p < 5 then decide (y = 1) && same 3 d (rp (p + 1)) else decide (y = 0)
theorem nx_all {p : Nat} (hp : p < 6) : nxOk p = true := fin_lt (P := fun p => nxOk p = true) (N := 6) (by decide +kernel) hp
theorem nx_out {p : Nat} (hp : p < 6) {ν : Sg} (hA : Ag 3 ν (cs 3 (rp p))) : ∃ y τ, fX7_nextRow ν = some (y, τ) ∧ Kq ν τ ∧ ((p < 5 ∧ y = 1 ∧ Ag 3 τ (cs 3 (rp (p + 1)))) ∨ (p = 5 ∧ y = 0)) := by
  have h := nx_all hp
  unfold nxOk at h
  rcases hn : fX7_nextRow (cs 3 (rp p)) with _ | ⟨y, d⟩
  · rw [hn] at h; exact absurd h (by simp)
  · rw [hn] at h
    dsimp only at h
    obtain ⟨τ, t1, t2, t3⟩ := next_ag (N := 3) (by omega) hA hn
    refine ⟨y, τ, t1, t3, ?_⟩
    by_cases h5 : p < 5
    · rw [if_pos h5, Bool.and_eq_true] at h
      exact Or.inl ⟨h5, of_decide_eq_true h.1, same_ag (by omega) h.2 t2⟩
    · rw [if_neg h5] at h
      exact Or.inr ⟨by omega, of_decide_eq_true h⟩
theorem cost_ne {S : Nat} (h : S ≤ 18) : ¬ nI S = -9 := fin_lt (P := fun S => ¬ nI S = -9) (N := 19) (by decide +kernel) (by omega)
theorem n3 (p : Nat) : nI (3 * p) + 3 = nI (3 * (p + 1)) := by
  rw [show (3 : Int32) = nI 3 from rfl, nI_add]; congr 1
theorem take_row {p : Nat} (hp : p < 6) (x2 : Int32) (K : Int32 → Int32 → Sg → Option (Int32 × Sg)) {ν : Sg} (hS : Scr u ν) (hA : Ag 3 ν (cs 3 (rp p))) : ∃ y τ, fX7_findRow_60 0 x2 K 1000 0 ν = K x2 y τ ∧ Scr u τ ∧ (∀ j, j < 3 → τ 15 j = soT (3 * p + j)) ∧ ((p < 5 ∧ y = 1 ∧ Ag 3 τ (cs 3 (rp (p + 1)))) ∨ (p = 5 ∧ y = 0)) := by
  obtain ⟨ν3, c1, c2, c3, -⟩ := fr60 (N := 3) (by omega) 0 x2 K 1000 0 ν hA.1.1 (by omega) (by omega)
  rw [nI_0] at c1
  have A3 : Ag 3 ν3 (cs 3 (rp p)) := ⟨⟨by rw [c2 0 (by omega)]; exact hA.1.1, rfl⟩, fun k hk => by rw [c2 14 (by omega)]; exact hA.2 k hk⟩
  obtain ⟨y, τ, t1, t2, t3⟩ := nx_out hp A3
  refine ⟨y, τ, by rw [c1, t1, Option.bind_some], (hS.tr (Scr.k15 c2)).tr (Scr.kq t2), fun j hj => ?_, t3⟩
  rw [t2 15 (by omega), c3 j (by omega) hj, hA.2 j hj]
  exact rp_at hp hj
theorem cost_row (hI : Inv s u) (hN : N ≤ 6) (en : u 0 10 = nI N) {p : Nat} (hp : p < 6) {ν : Sg} (hS : Scr u ν) (hA : Ag 3 ν (cs 3 (rp p))) : ∃ ν2, fX7_signsOf ν = some (nI (Sq s (fun j => soT (3 * p + j)) N 3), ν2) ∧ Scr u ν2 ∧ Ag 3 ν2 (cs 3 (rp p)) ∧ ν2 15 = ν 15 := by
  obtain ⟨ν2, q1, q2, q3, q4, q5⟩ := sofE (s := s) (N := N) (sg := fun j => soT (3 * p + j)) hN (hI.scr hS) (by rw [hS.1 10 (by omega) (by omega) (by omega) (by omega) (by omega)]; exact en) (fun j hj => by rw [hA.2 j hj]; exact rp_at hp hj)
  exact ⟨ν2, q1, hS.tr q2, ⟨⟨by rw [q3]; exact hA.1.1, rfl⟩, fun k hk => by rw [q4]; exact hA.2 k hk⟩, q5⟩
theorem one_row (hI : Inv s u) (hN : N ≤ 6) (en : u 0 10 = nI N) (x1 : Int32) {p b best m m' : Nat} {ν : Sg} (hp : p < 6) (hb : b ≤ 5) (h3 : best ≤ 18) (hS : Scr u ν) (hA : Ag 3 ν (cs 3 (rp p))) (h15 : ∀ j, j < 3 → ν 15 j = soT (3 * b + j)) : ∃ (best2 b2 : Nat) (y : Int32) (τ : Sg), fX6_signs_40 s x1 (m + 1) (nI (3 * b)) (nI best) (nI (3 * p)) = fX6_signs_40 s x1 m (nI (3 * b2)) (nI best2) (nI (3 * (p + 1))) ∧ fX7_findRow_21 0 (m' + 1) (nI best) 1 ν = fX7_findRow_21 0 m' (nI best2) y τ ∧ Scr u τ ∧ b2 ≤ 5 ∧ best2 ≤ 18 ∧ (∀ j, j < 3 → τ 15 j = soT (3 * b2 + j)) ∧ ((p < 5 ∧ y = 1 ∧ Ag 3 τ (cs 3 (rp (p + 1)))) ∨ (p = 5 ∧ y = 0)) := by
  obtain ⟨ν2, q1, q2, q3, q4⟩ := cost_row hI hN en hp hS hA
  have hc := xsoE hI hN en (i := 3 * p) (by omega)
  have hle := Sq_le s (fun j => soT (3 * p + j)) N 3
  have h18 : ¬ (18 : Int32) < nI (3 * p) + 3 := by
    rw [n3]
    exact nI_nlt (a := 18) (by omega) (by omega)
  rw [fX6_signs_40, fX7_findRow_21, if_neg h18, if_neg (by decide), if_pos rfl, q1, hc, Option.bind_some, Option.bind_some, n3]
  dsimp only
  unfold fX7_findRow_40
  rw [if_neg (cost_ne h3)]
  by_cases h : nI best ≤ nI (Sq s (fun j => soT (3 * p + j)) N 3)
  · rw [if_pos h, if_pos h]
    obtain ⟨y, τ, t1, t2, t3⟩ := nx_out hp q3
    refine ⟨best, b, y, τ, rfl, by rw [t1, Option.bind_some], q2.tr (Scr.kq t2), hb, h3, fun j hj => ?_, t3⟩
    rw [t2 15 (by omega), q4]
    exact h15 j hj
  · rw [if_neg h, if_neg h]
    obtain ⟨y, τ, t1, t2, t3, t4⟩ := take_row hp (nI (Sq s (fun j => soT (3 * p + j)) N 3)) (fX7_findRow_21 0 m') q2 q3
    exact ⟨_, p, y, τ, rfl, t1, t2, by omega, by omega, t3, t4⟩
theorem signs_loop (hI : Inv s u) (hN : N ≤ 6) (en : u 0 10 = nI N) (x1 : Int32) : ∀ (e p b best m m' : Nat) (ν : Sg), e + p = 5 → b ≤ 5 → best ≤ 18 → e + 1 < m → e + 1 < m' → Scr u ν → Ag 3 ν (cs 3 (rp p)) → (∀ j, j < 3 → ν 15 j = soT (3 * b + j)) → ∃ (v b' : Nat) (τ : Sg), fX6_signs_40 s x1 m (nI (3 * b)) (nI best) (nI (3 * p)) = (if x1 = (-1) then some (nI v) else (if gIn (nI (3 * b') + x1) 18 then some (soT (nI (3 * b') + x1).toNatClampNeg) else none)) ∧ fX7_findRow_21 0 m' (nI best) 1 ν = some (nI v, τ) ∧ Scr u τ ∧ b' ≤ 5 ∧ ∀ j, j < 3 → τ 15 j = soT (3 * b' + j) := by
  intro e
  induction e with
  | zero =>
    intro p b best m m' ν h1 h2 h3 h4 h5 hS hA h15
    obtain ⟨m, rfl⟩ : ∃ k, m = k + 2 := ⟨m - 2, by omega⟩
    obtain ⟨m', rfl⟩ : ∃ k, m' = k + 2 := ⟨m' - 2, by omega⟩
    obtain rfl : p = 5 := by omega
    obtain ⟨best2, b2, y, τ, a1, a2, a3, a4, a5, a6, a7⟩ := one_row hI hN en x1 (m := m + 1) (m' := m' + 1) (by omega) h2 h3 hS hA h15
    rw [a1, a2]
    rcases a7 with ⟨a7, -⟩ | ⟨-, rfl⟩
    · omega
    · refine ⟨best2, b2, τ, ?_, fr_end _ _ (by omega) τ, a3, a4, a6⟩
      rw [fX6_signs_40, if_pos (by decide +kernel)]
  | succ e ih =>
    intro p b best m m' ν h1 h2 h3 h4 h5 hS hA h15
    obtain ⟨m, rfl⟩ : ∃ k, m = k + 1 := ⟨m - 1, by omega⟩
    obtain ⟨m', rfl⟩ : ∃ k, m' = k + 1 := ⟨m' - 1, by omega⟩
    obtain ⟨best2, b2, y, τ, a1, a2, a3, a4, a5, a6, a7⟩ := one_row hI hN en x1 (m := m) (m' := m') (by omega) h2 h3 hS hA h15
    rw [a1, a2]
    rcases a7 with ⟨-, rfl, a7⟩ | ⟨a7, -⟩
    · exact ih (p + 1) b2 best2 m m' τ (by omega) a4 a5 (by omega) (by omega) a3 a7 a6
    · omega
theorem E_signs (hI : Inv σ μ) (x1 : Int32) : ∃ (r : Int32) (ν : Sg), fX6_signs x1 σ = some r ∧ fX7_signs x1 μ = some (r, ν) ∧ Inv σ ν := by
  have m0 : ¬ (1 : Int32) = 0 := by decide
  unfold fX6_signs fX7_signs
  rcases wi x1 (-1) 2 μ with ⟨w, hw⟩ | ⟨w, hw⟩
  · rw [w, if_pos rfl]
    refine ⟨-2, μ, ?_, rfl, hI⟩
    repeat' split
    all_goals (first | rfl | (exfalso; simp only [fa_lt, fa_le, fa_eq, L_m100, L_m10, L_m9, L_m4, L_m3, L_m2, L_m1, L_0, L_1, L_2, L_3, L_4, L_5, L_6, L_7, L_8, L_9, L_10, L_11, L_12, L_13, L_14, L_15, L_16, L_17, L_18, L_19, L_20, L_21, L_48, L_49, L_50, L_51, L_52, L_53, L_54, L_55, L_56, L_57, L_59, L_60, L_63, L_64, L_97, L_98, L_99, L_100, L_104, L_107, L_111, L_115, L_116, L_240] at *; omega) | (exfalso; simp only [fa_lt, fa_le, fa_eq, L_m100, L_m10, L_m9, L_m4, L_m3, L_m2, L_m1, L_0, L_1, L_2, L_3, L_4, L_5, L_6, L_7, L_8, L_9, L_10, L_11, L_12, L_13, L_14, L_15, L_16, L_17, L_18, L_19, L_20, L_21, L_48, L_49, L_50, L_51, L_52, L_53, L_54, L_55, L_56, L_57, L_59, L_60, L_63, L_64, L_97, L_98, L_99, L_100, L_104, L_107, L_111, L_115, L_116, L_240] at *; done) | contradiction)
  · have h1 : ¬ x1 < -1 := by (simp only [fa_lt, fa_le, fa_eq, L_m100, L_m10, L_m9, L_m4, L_m3, L_m2, L_m1, L_0, L_1, L_2, L_3, L_4, L_5, L_6, L_7, L_8, L_9, L_10, L_11, L_12, L_13, L_14, L_15, L_16, L_17, L_18, L_19, L_20, L_21, L_48, L_49, L_50, L_51, L_52, L_53, L_54, L_55, L_56, L_57, L_59, L_60, L_63, L_64, L_97, L_98, L_99, L_100, L_104, L_107, L_111, L_115, L_116, L_240] at *; omega)
    have h2 : x1 < 3 := by (simp only [fa_lt, fa_le, fa_eq, L_m100, L_m10, L_m9, L_m4, L_m3, L_m2, L_m1, L_0, L_1, L_2, L_3, L_4, L_5, L_6, L_7, L_8, L_9, L_10, L_11, L_12, L_13, L_14, L_15, L_16, L_17, L_18, L_19, L_20, L_21, L_48, L_49, L_50, L_51, L_52, L_53, L_54, L_55, L_56, L_57, L_59, L_60, L_63, L_64, L_97, L_98, L_99, L_100, L_104, L_107, L_111, L_115, L_116, L_240] at *; omega)
    rw [w, if_neg m0, if_neg h1, if_pos h2]
    rcases open_or hI with ⟨e1, e2⟩ | ⟨e1, e2⟩
    · rw [e1, e2, if_pos rfl, if_pos rfl]
      exact ⟨-3, μ, rfl, rfl, hI⟩
    · rw [e1, if_neg m0, if_neg e2]
      obtain ⟨N, hN, en⟩ := hI.nr
      unfold fX7_findRow
      obtain ⟨ν1, b1, b2, b3, b4⟩ := beginE (N := 3) (by omega) μ
      have A1 : Ag 3 ν1 (cs 3 (rp 0)) := ⟨b3.1, fun k hk => by rw [b4 k hk]; exact fin_lt (P := fun k => nI k = cs 3 (rp 0) 14 k) (N := 3) (by decide +kernel) hk⟩
      obtain ⟨ν2, q1, q2, q3, q4⟩ := cost_row hI hN en (p := 0) (by omega) b2 A1
      obtain ⟨y, τ, t1, t2, t3, t4⟩ := take_row (p := 0) (by omega) (nI (Sq σ (fun j => soT (3 * 0 + j)) N 3)) (fX7_findRow_21 0 999) q2 q3
      have hc := xsoE hI hN en (i := 3 * 0) (by omega)
      have hle := Sq_le σ (fun j => soT (3 * 0 + j)) N 3
      rw [show nI (3 * 0) = 0 from nI_0] at hc
      have e3 : fX7_beginRows 3 μ = some ν1 := b1
      rw [if_pos rfl, e3, hc, Option.bind_some, Option.bind_some, fX7_findRow_21, if_neg m0, if_pos rfl, q1, Option.bind_some]
      unfold fX7_findRow_40
      rw [if_pos rfl]
      dsimp only
      rw [t1]
      rcases t4 with ⟨-, rfl, t4⟩ | ⟨t4, -⟩
      · obtain ⟨v, b', τ2, z1, z2, z3, z4, z5⟩ := signs_loop hI hN en x1 4 1 0 _ 1000 999 τ (by omega) (by omega) hle (by omega) (by omega) t2 t4 t3
        have e4 : fX6_signs_40 σ x1 1000 0 (nI (Sq σ (fun j => soT (3 * 0 + j)) N 3)) 3 = _ := z1
        rw [e4, z2, Option.bind_some]
        dsimp only
        by_cases h5 : x1 = -1
        · rw [if_pos h5, if_pos h5]
          exact ⟨nI v, τ2, rfl, rfl, hI.scr z3⟩
        · rw [if_neg h5, if_neg h5]
          obtain ⟨j, hj, rfl⟩ : ∃ j : Nat, j < 3 ∧ x1 = nI j := by
            rcases tri x1 3 (by decide) with a | a | a
            · exfalso; (simp only [fa_lt, fa_le, fa_eq, L_m100, L_m10, L_m9, L_m4, L_m3, L_m2, L_m1, L_0, L_1, L_2, L_3, L_4, L_5, L_6, L_7, L_8, L_9, L_10, L_11, L_12, L_13, L_14, L_15, L_16, L_17, L_18, L_19, L_20, L_21, L_48, L_49, L_50, L_51, L_52, L_53, L_54, L_55, L_56, L_57, L_59, L_60, L_63, L_64, L_97, L_98, L_99, L_100, L_104, L_107, L_111, L_115, L_116, L_240] at *; omega)
            · exfalso; (simp only [fa_lt, fa_le, fa_eq, L_m100, L_m10, L_m9, L_m4, L_m3, L_m2, L_m1, L_0, L_1, L_2, L_3, L_4, L_5, L_6, L_7, L_8, L_9, L_10, L_11, L_12, L_13, L_14, L_15, L_16, L_17, L_18, L_19, L_20, L_21, L_48, L_49, L_50, L_51, L_52, L_53, L_54, L_55, L_56, L_57, L_59, L_60, L_63, L_64, L_97, L_98, L_99, L_100, L_104, L_107, L_111, L_115, L_116, L_240] at *; omega)
            · exact a
          have g := gIn_nI (t := j) (n := 6) (by omega) (by decide)
          have g2 := gIn_nI (t := 3 * b' + j) (n := 18) (by omega) (by decide)
          rw [nI_add, if_pos g2, if_pos g, nI_clamp (by omega), nI_clamp (by omega), z5 j hj]
          exact ⟨_, τ2, rfl, rfl, hI.scr z3⟩
      · omega
end PUTH
