section PUTF
variable {σ μ s u : Sg} {N : Nat}
theorem quick_ag (hN : N ≤ 6) {ν c : Sg} (hA : Ag N ν c) (e1 : ν 0 10 = nI N) (e2 : c 0 10 = nI N) : ∀ (m t : Nat) (a b z : Int32), t ≤ N → N - t < m → fX7_quickOf_9 ν m a b z (nI t) = fX7_quickOf_9 c m a b z (nI t) := by
  intro m
  induction m with
  | zero => intro t a b z h1 h2; omega
  | succ m ih =>
    intro t a b z h1 h2
    rw [fX7_quickOf_9, fX7_quickOf_9, e1, e2]
    by_cases h : N ≤ t
    · have hc : nI N ≤ nI t := nI_le h (by omega)
      rw [if_pos hc, if_pos hc]
    · have hc : ¬ nI N ≤ nI t := nI_ge (by omega) (by omega)
      have g := gIn_nI (t := t) (n := 6) (by omega) (by decide)
      rw [if_neg hc, if_neg hc, if_pos g, if_pos g, nI_clamp (by omega), hA.2 t (by omega), nI_1]
      exact ih (t + 1) _ _ _ (by omega) (by omega)
theorem quickE (hN : N ≤ 6) {ν c : Sg} (hA : Ag N ν c) (e1 : ν 0 10 = nI N) (e2 : c 0 10 = nI N) : fX7_quickOf ν = fX7_quickOf c := quick_ag hN hA e1 e2 1000 0 0 0 0 (by omega) (by omega)
theorem fr60 (hN : N ≤ 6) (x1 x2 : Int32) (K : Int32 → Int32 → Sg → Option (Int32 × Sg)) : ∀ (m t : Nat) (ν : Sg), ν 0 27 = nI N → t ≤ N → N - t < m → ∃ ν2 : Sg, fX7_findRow_60 x1 x2 K m (nI t) ν = ((fX7_nextRow ν2).bind fun q3 => K x2 q3.1 q3.2) ∧ (∀ a, a ≠ 15 → ν2 a = ν a) ∧ (∀ k, t ≤ k → k < N → ν2 15 k = ν 14 k) ∧ ∀ k, k < t → ν2 15 k = ν 15 k := by
  intro m
  induction m with
  | zero => intro t ν _ h1 h2; omega
  | succ m ih =>
    intro t ν e h1 h2
    rw [fX7_findRow_60, e]
    by_cases h : N ≤ t
    · have hc : nI N ≤ nI t := nI_le h (by omega)
      rw [if_pos hc]
      exact ⟨ν, rfl, fun _ _ => rfl, fun k a b => by omega, fun _ _ => rfl⟩
    · have hc : ¬ nI N ≤ nI t := nI_ge (by omega) (by omega)
      have g := gIn_nI (t := t) (n := 6) (by omega) (by decide)
      rw [if_neg hc, if_pos g, nI_clamp (by omega), nI_1]
      obtain ⟨ν2, q1, q2, q3, q4⟩ := ih (t + 1) (up2 ν 15 t (ν 14 t)) (by rw [up_nc (by omega)]; exact e) (by omega) (by omega)
      refine ⟨ν2, q1, fun a ha => (q2 a ha).trans (up_nc ha), fun k a b => ?_, fun k hk => ?_⟩
      · by_cases e : k = t
        · subst e; rw [q4 k (by omega), up_eq]
        · rw [q3 k (by omega) b, up_nc (by omega)]
      · rw [q4 k (by omega), up_nk (by omega)]
theorem begin_loop (hN : N ≤ 6) : ∀ (m t : Nat) (ν : Sg), t ≤ N → N - t < m → ∃ ν2 : Sg, fX7_beginRows_7 (nI N) m (nI t) ν = some ν2 ∧ (∀ a, a ≠ 14 → ν2 a = ν a) ∧ (∀ k, t ≤ k → k < N → ν2 14 k = nI k) ∧ ∀ k, k < t → ν2 14 k = ν 14 k := by
  intro m
  induction m with
  | zero => intro t ν h1 h2; omega
  | succ m ih =>
    intro t ν h1 h2
    rw [fX7_beginRows_7]
    by_cases h : N ≤ t
    · have hc : nI N ≤ nI t := nI_le h (by omega)
      rw [if_pos hc]
      exact ⟨ν, rfl, fun _ _ => rfl, fun k a b => by omega, fun _ _ => rfl⟩
    · have hc : ¬ nI N ≤ nI t := nI_ge (by omega) (by omega)
      have g := gIn_nI (t := t) (n := 6) (by omega) (by decide)
      rw [if_neg hc, if_pos g, nI_clamp (by omega), nI_1]
      obtain ⟨ν2, q1, q2, q3, q4⟩ := ih (t + 1) (up2 ν 14 t (nI t)) (by omega) (by omega)
      refine ⟨ν2, q1, fun a ha => (q2 a ha).trans (up_nc ha), fun k a b => ?_, fun k hk => ?_⟩
      · by_cases e : k = t
        · subst e; rw [q4 k (by omega), up_eq]
        · rw [q3 k (by omega) b]
      · rw [q4 k (by omega), up_nk (by omega)]
/-- the first row is 0, 1, 2, .. : as a number -/
def r0 : Nat := 181896
theorem beginE (hN : N ≤ 6) (ν : Sg) : ∃ ν2 : Sg, fX7_beginRows (nI N) ν = some ν2 ∧ Scr ν ν2 ∧ Ag N ν2 (cs N r0) ∧ ∀ k, k < N → ν2 14 k = nI k := by
  obtain ⟨ν2, q1, q2, q3, -⟩ := begin_loop hN 1000 0 (up2 ν 0 27 (nI N)) (by omega) (by omega)
  rw [nI_0] at q1
  refine ⟨ν2, q1, ⟨fun k a b c d e => ?_, fun a h b c d e f => ?_⟩, ⟨⟨?_, rfl⟩, fun k hk => ?_⟩, fun k hk => q3 k (by omega) hk⟩
  · rw [q2 0 (by omega), up_nk e]
  · rw [q2 a e, up_nc (by omega)]
  · rw [q2 0 (by omega), up_eq]
  · rw [q3 k (by omega) hk]
    exact fin_lt (P := fun k => nI k = cs N r0 14 k) (N := 6) (by
      show (List.range 6).all (fun k => decide (nI k = nI (r0 / 8 ^ k % 8))) = true
      decide +kernel) (by omega)
def force (x : Nat) (f : Nat → Bool) : Bool := Nat.rec (f 0) (fun k _ => f (k + 1)) x
theorem force_eq (x : Nat) (f : Nat → Bool) : force x f = f x := by cases x <;> rfl
def walk (N : Nat) : Nat → Nat → Bool
  | 0, _ => false
  | n + 1, r => match fX7_quickOf (cs N r) with
    | none => false
    | some z => match fX7_nextRow (cs N r) with
      | none => false
      | some (y, d) => decide (nI (N * N) ≤ z) && (if y = 0 then decide (0 < n) else decide (y = 1) && force (pk6 d) fun r' => same N d r' && walk N n r')
theorem walk6 : walk 6 999 r0 = true := by decide +kernel
end PUTF
