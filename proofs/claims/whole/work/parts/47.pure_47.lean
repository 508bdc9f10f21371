section PUTH
variable {σ μ s u : Sg} {N : Nat}
/-! the order of SIGNS that takes the least -/
theorem sof_loop : ∀ (m t : Nat) (ν : Sg), t ≤ 3 → 3 - t < m → ∃ ν2 : Sg, fX7_signsOf_7 m (nI t) ν = ((fX7_sieveAll ν2).bind fun q3 => some ((q3.2 0 26), q3.2)) ∧ (∀ a, a ≠ 13 → ν2 a = ν a) ∧ (∀ k, t ≤ k → k < 3 → ν2 13 k = ν 14 k) ∧ ∀ k, k < t → ν2 13 k = ν 13 k := by
  intro m
  induction m with
  | zero => intro t ν h1 h2; omega
  | succ m ih =>
    intro t ν h1 h2
    rw [fX7_signsOf_7]
    by_cases h : 3 ≤ t
    · have hc : (3 : Int32) ≤ nI t := nI_le (a := 3) h (by omega)
      rw [if_pos hc]
      exact ⟨ν, rfl, fun _ _ => rfl, fun k a b => by omega, fun _ _ => rfl⟩
    · have hc : ¬ (3 : Int32) ≤ nI t := nI_ge (a := t) (b := 3) (by omega) (by omega)
      have g := gIn_nI (t := t) (n := 6) (by omega) (by decide)
      have g3 := gIn_nI (t := t) (n := 3) (by omega) (by decide)
      rw [if_neg hc, if_pos g, if_pos g3, nI_clamp (by omega), nI_1]
      obtain ⟨ν2, q1, q2, q3, q4⟩ := ih (t + 1) (up2 ν 13 t (ν 14 t)) (by omega) (by omega)
      refine ⟨ν2, q1, fun a ha => (q2 a ha).trans (up_nc ha), fun k a b => ?_, fun k hk => ?_⟩
      · by_cases e : k = t
        · subst e; rw [q4 k (by omega), up_eq]
        · rw [q3 k (by omega) b, up_nc (by omega)]
      · rw [q4 k (by omega), up_nk (by omega)]
theorem sofE (hN : N ≤ 6) {sg : Nat → Int32} {ν : Sg} (hJ : Inv s ν) (en : ν 0 10 = nI N) (h14 : ∀ j, j < 3 → ν 14 j = sg j) : ∃ ν2 : Sg, fX7_signsOf ν = some (nI (Sq s sg N 3), ν2) ∧ Scr ν ν2 ∧ ν2 0 27 = ν 0 27 ∧ ν2 14 = ν 14 ∧ ν2 15 = ν 15 := by
  obtain ⟨ν2, q1, q2, q3, -⟩ := sof_loop 1000 0 (up2 ν 0 24 3) (by omega) (by omega)
  rw [nI_0] at q1
  have hS : Scr ν ν2 := ⟨fun k a b c d e => by rw [q2 0 (by omega), up_nk c], fun a h b c d e f => by rw [q2 a d, up_nc (by omega)]⟩
  have hm := msieveE (s := s) (sg := sg) (N := N) (n := 3) hN (by omega) (hJ.scr hS) (by rw [hS.1 10 (by omega) (by omega) (by omega) (by omega) (by omega)]; exact en) (by rw [q2 0 (by omega), up_eq]; rfl) (fun j hj => by rw [q3 j (by omega) hj, up_nc (by omega)]; exact h14 j hj)
  unfold fX7_signsOf
  rw [q1, hm, Option.bind_some]
  dsimp only
  rw [up_eq]
  refine ⟨_, rfl, hS.up0 (by omega) _, ?_, ?_, ?_⟩
  · rw [up_nk (by omega), q2 0 (by omega), up_nk (by omega)]
  · rw [up_nc (by omega), q2 14 (by omega), up_nc (by omega)]
  · rw [up_nc (by omega), q2 15 (by omega), up_nc (by omega)]
def rp (p : Nat) : Nat := (soT (3 * p)).toNatClampNeg + 8 * ((soT (3 * p + 1)).toNatClampNeg + 8 * (soT (3 * p + 2)).toNatClampNeg)
theorem rp_at {p j : Nat} (hp : p < 6) (hj : j < 3) : cs 3 (rp p) 14 j = soT (3 * p + j) :=
  fin_lt (P := fun p => ∀ j : Fin 3, nI (rp p / 8 ^ j.val % 8) = soT (3 * p + j.val)) (N := 6) (by decide +kernel) hp ⟨j, hj⟩
def nxOk (p : Nat) : Bool := match fX7_nextRow (cs 3 (rp p)) with
  | none => false
  | some (y, d) => if p < 5 then decide (y = 1) && same 3 d (rp (p + 1)) else decide (y = 0)
theorem nx_all {p : Nat} (hp : p < 6) : nxOk p = true := fin_lt (P := fun p => nxOk p = true) (N := 6) (by decide +kernel) hp
theorem nx_out {p : Nat} (hp : p < 6) {ν : Sg} (hA : Ag 3 ν (cs 3 (rp p))) : ∃ y τ, fX7_nextRow ν = some (y, τ) ∧ Kq ν τ ∧ ((p < 5 ∧ y = 1 ∧ Ag 3 τ (cs 3 (rp (p + 1)))) ∨ (p = 5 ∧ y = 0)) := by
  have h := nx_all hp
  unfold nxOk at h
  rcases hn : fX7_nextRow (cs 3 (rp p)) with _ | ⟨y, d⟩
  · rw [hn] at h; exact absurd h (by simp)
  · rw [hn] at h
    dsimp only at h
    obtain ⟨τ, t1, t2, t3⟩ := next_ag (N := 3) (by omega) hA hn
    refine ⟨y, τ, t1, t3, ?_⟩
    by_cases h5 : p < 5
    · rw [if_pos h5, Bool.and_eq_true] at h
      exact Or.inl ⟨h5, of_decide_eq_true h.1, same_ag (by omega) h.2 t2⟩
    · rw [if_neg h5] at h
      exact Or.inr ⟨by omega, of_decide_eq_true h⟩
theorem cost_ne {S : Nat} (h : S ≤ 18) : ¬ nI S = -9 := fin_lt (P := fun S => ¬ nI S = -9) (N := 19) (by decide +kernel) (by omega)
theorem n3 (p : Nat) : nI (3 * p) + 3 = nI (3 * (p + 1)) := by
  rw [show (3 : Int32) = nI 3 from rfl, nI_add]; congr 1
theorem signs_loop (hI : Inv s u) (hN : N ≤ 6) (en : u 0 10 = nI N) (x1 : Int32) : ∀ (e p b best m m' : Nat) (ν : Sg), e + p = 5 → b ≤ 5 → best ≤ 18 → e + 1 < m → e + 1 < m' → Scr u ν → Ag 3 ν (cs 3 (rp p)) → (∀ j, j < 3 → ν 15 j = soT (3 * b + j)) → ∃ (v b' : Nat) (τ : Sg), fX6_signs_40 s x1 m (nI (3 * b)) (nI best) (nI (3 * p)) = (if x1 = (-1) then some (nI v) else (if gIn (nI (3 * b') + x1) 18 then some (soT (nI (3 * b') + x1).toNatClampNeg) else none)) ∧ fX7_findRow_21 0 m' (nI best) 1 ν = some (nI v, τ) ∧ Scr u τ ∧ b' ≤ 5 ∧ ∀ j, j < 3 → τ 15 j = soT (3 * b' + j) := by
  intro e
  induction e with
  | zero =>
    intro p b best m m' ν h1 h2 h3 h4 h5 hS hA h15
    obtain ⟨m, rfl⟩ : ∃ k, m = k + 2 := ⟨m - 2, by omega⟩
    obtain ⟨m', rfl⟩ : ∃ k, m' = k + 2 := ⟨m' - 2, by omega⟩
    obtain rfl : p = 5 := by omega
    sorry
  | succ e ih =>
    intro p b best m m' ν h1 h2 h3 h4 h5 hS hA h15
    obtain ⟨m, rfl⟩ : ∃ k, m = k + 1 := ⟨m - 1, by omega⟩
    obtain ⟨m', rfl⟩ : ∃ k, m' = k + 1 := ⟨m' - 1, by omega⟩
    sorry
end PUTH
