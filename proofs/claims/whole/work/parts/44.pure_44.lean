section PUTE
/-! the next row after a row: what it answers hangs on the row alone -/
def Ag (N : Nat) (ν c : Sg) : Prop := (ν 0 27 = nI N ∧ c 0 27 = nI N) ∧ ∀ k, k < N → ν 14 k = c 14 k
def Kq (ν τ : Sg) : Prop := ∀ a, a ≠ 14 → τ a = ν a
theorem Kq.tr {a b c : Sg} (h : Kq a b) (h2 : Kq b c) : Kq a c := fun k hk => (h2 k hk).trans (h k hk)
theorem Kq.rf {a : Sg} : Kq a a := fun _ _ => rfl
theorem Ag.up {N : Nat} {ν c : Sg} (h : Ag N ν c) (k : Nat) {v w : Int32} (e : v = w) : Ag N (up2 ν 14 k v) (up2 c 14 k w) := by
  refine ⟨⟨by rw [up_nc (by omega)]; exact h.1.1, by rw [up_nc (by omega)]; exact h.1.2⟩, fun j hj => ?_⟩
  rw [up_at, up_at, e, h.2 j hj]
theorem Kq.up {ν τ : Sg} (h : Kq ν τ) (k : Nat) (v : Int32) : Kq ν (up2 τ 14 k v) := fun a ha => by rw [up_nc ha]; exact h a ha
variable {N : Nat}
theorem swap_ag {x1 x2 : Int32} {ν c d : Sg} (hN : N ≤ 6) (hA : Ag N ν c) (h1 : x1.toInt < N) (h2 : x2.toInt < N) (h : fX7_swap x1 x2 c = some d) : ∃ τ, fX7_swap x1 x2 ν = some τ ∧ Ag N τ d ∧ Kq ν τ := by
  unfold fX7_swap at h ⊢
  by_cases g1 : gIn x1 6
  · by_cases g2 : gIn x2 6
    · obtain ⟨i, hi, rfl⟩ := vp_in_of g1 (by decide)
      obtain ⟨j, hj, rfl⟩ := vp_in_of g2 (by decide)
      rw [nI_toInt (by omega)] at h1 h2
      rw [if_pos g1, if_pos g2, nI_clamp (by omega), nI_clamp (by omega)] at h ⊢
      obtain rfl := Option.some.inj h
      refine ⟨_, rfl, (hA.up i ?_).up j ?_, (Kq.rf.up i _).up j _⟩
      · exact hA.2 j (by omega)
      · exact hA.2 i (by omega)
    · rw [if_pos g1, if_neg g2] at h; exact absurd h (by simp)
  · rw [if_neg g1] at h; exact absurd h (by simp)
theorem swap_in {x1 x2 : Int32} {c d : Sg} (h : fX7_swap x1 x2 c = some d) : ∃ i j : Nat, i < 6 ∧ j < 6 ∧ x1 = nI i ∧ x2 = nI j := by
  unfold fX7_swap at h
  by_cases g1 : gIn x1 6
  · by_cases g2 : gIn x2 6
    · obtain ⟨i, hi, e1⟩ := vp_in_of g1 (by decide)
      obtain ⟨j, hj, e2⟩ := vp_in_of g2 (by decide)
      exact ⟨i, j, hi, hj, e1, e2⟩
    · rw [if_pos g1, if_neg g2] at h; exact absurd h (by simp)
  · rw [if_neg g1] at h; exact absurd h (by simp)
theorem dn_lt : ∀ j : Fin 6, (nI j.val + (-1)).toInt = (j.val : Int) - 1 := by decide +kernel
theorem dnl {j : Nat} (hj : j < 6) : (nI j + (-1)).toInt = (j : Int) - 1 := dn_lt ⟨j, hj⟩
theorem n86_ag (hN : N ≤ 6) : ∀ (m : Nat) (x3 x4 : Int32) (ν c : Sg) (y : Int32) (d : Sg), Ag N ν c → x4.toInt < N → fX7_nextRow_86 m x3 x4 c = some (y, d) → ∃ τ, fX7_nextRow_86 m x3 x4 ν = some (y, τ) ∧ Ag N τ d ∧ Kq ν τ := by
  intro m
  induction m with
  | zero => intro x3 x4 ν c y d hA hx h; exact absurd h (by simp [fX7_nextRow_86])
  | succ m ih =>
    intro x3 x4 ν c y d hA hx h
    rw [fX7_nextRow_86] at h ⊢
    by_cases e : x4 ≤ x3
    · rw [if_pos e] at h ⊢
      obtain ⟨rfl, rfl⟩ := Prod.mk.inj (Option.some.inj h)
      exact ⟨ν, rfl, hA, Kq.rf⟩
    · rw [if_neg e] at h ⊢
      rcases hs : fX7_swap x3 x4 c with _ | c1
      · rw [hs] at h; exact absurd h (by simp)
      · obtain ⟨i, j, hi, hj, rfl, rfl⟩ := swap_in hs
        have hij : ¬ j ≤ i := fun q => e (nI_le q (by omega))
        have hj2 := hx
        rw [nI_toInt (by omega)] at hj2
        obtain ⟨t1, s1, s2, s3⟩ := swap_ag hN hA (by rw [nI_toInt (by omega)]; omega) hx hs
        rw [hs, Option.bind_some] at h
        rw [s1, Option.bind_some]
        obtain ⟨τ, r1, r2, r3⟩ := ih _ _ t1 c1 y d s2 (by rw [dnl hj]; omega) h
        exact ⟨τ, r1, r2, s3.tr r3⟩
theorem n1_lt : ∀ N : Fin 7, (nI N.val - 1).toInt = (N.val : Int) - 1 := by decide +kernel
theorem n2_lt : ∀ N : Fin 7, (nI N.val - 2).toInt = (N.val : Int) - 2 := by decide +kernel
theorem n1l {j : Nat} (hj : j < 7) : (nI j - 1).toInt = (j : Int) - 1 := n1_lt ⟨j, hj⟩
theorem n2l {j : Nat} (hj : j < 7) : (nI j - 2).toInt = (j : Int) - 2 := n2_lt ⟨j, hj⟩
theorem n47_ag (hN : N ≤ 6) : ∀ (m : Nat) (x1 x2 : Int32) (ν c : Sg) (y : Int32) (d : Sg), Ag N ν c → x1.toInt < N → x2.toInt < N → fX7_nextRow_47 x1 m x2 c = some (y, d) → ∃ τ, fX7_nextRow_47 x1 m x2 ν = some (y, τ) ∧ Ag N τ d ∧ Kq ν τ := by
  intro m
  induction m with
  | zero => intro x1 x2 ν c y d hA h1 hx h; exact absurd h (by simp [fX7_nextRow_47])
  | succ m ih =>
    intro x1 x2 ν c y d hA h1 h2 h
    rw [fX7_nextRow_47] at h ⊢
    by_cases g2 : gIn x2 6
    · by_cases g1 : gIn x1 6
      · obtain ⟨i, hi, rfl⟩ := vp_in_of g1 (by decide)
        obtain ⟨j, hj, rfl⟩ := vp_in_of g2 (by decide)
        rw [nI_toInt (by omega)] at h1 h2
        rw [if_pos g1, if_pos g2, nI_clamp (by omega), nI_clamp (by omega)] at h ⊢
        rw [hA.2 i (by omega), hA.2 j (by omega)]
        by_cases e : c 14 i ≤ c 14 j
        · rw [if_pos e] at h ⊢
          rcases hs : fX7_swap (nI i) (nI j) c with _ | c1
          · rw [hs] at h; exact absurd h (by simp)
          · obtain ⟨t1, s1, s2, s3⟩ := swap_ag hN hA (by rw [nI_toInt (by omega)]; omega) (by rw [nI_toInt (by omega)]; omega) hs
            rw [hs, Option.bind_some, s2.1.2] at h
            rw [s1, Option.bind_some, s2.1.1]
            obtain ⟨τ, r1, r2, r3⟩ := n86_ag hN _ _ _ t1 c1 y d s2 (by rw [n1l (by omega)]; omega) h
            exact ⟨τ, r1, r2, s3.tr r3⟩
        · rw [if_neg e] at h ⊢
          exact ih _ _ ν c y d hA (by rw [nI_toInt (by omega)]; omega) (by rw [dnl hj]; omega) h
      · rw [if_pos g2, if_neg g1] at h; exact absurd h (by simp)
    · rw [if_neg g2] at h; exact absurd h (by simp)
theorem n34_ag (hN : N ≤ 6) (x1 : Int32) (ν c : Sg) (y : Int32) (d : Sg) (hA : Ag N ν c) (h1 : x1.toInt < N) (h : fX7_nextRow_34 x1 c = some (y, d)) : ∃ τ, fX7_nextRow_34 x1 ν = some (y, τ) ∧ Ag N τ d ∧ Kq ν τ := by
  unfold fX7_nextRow_34 at h ⊢
  rw [hA.1.2] at h
  rw [hA.1.1]
  by_cases e : 0 ≤ x1
  · rw [if_pos e] at h ⊢
    exact n47_ag hN _ _ _ ν c y d hA h1 (by rw [n1l (by omega)]; omega) h
  · rw [if_neg e] at h ⊢
    obtain ⟨rfl, rfl⟩ := Prod.mk.inj (Option.some.inj h)
    exact ⟨ν, rfl, hA, Kq.rf⟩
theorem n7_ag (hN : N ≤ 6) : ∀ (m : Nat) (x1 : Int32) (ν c : Sg) (y : Int32) (d : Sg), Ag N ν c → x1.toInt + 1 < N → fX7_nextRow_7 m x1 c = some (y, d) → ∃ τ, fX7_nextRow_7 m x1 ν = some (y, τ) ∧ Ag N τ d ∧ Kq ν τ := by
  intro m
  induction m with
  | zero => intro x1 ν c y d hA h1 h; exact absurd h (by simp [fX7_nextRow_7])
  | succ m ih =>
    intro x1 ν c y d hA h1 h
    rw [fX7_nextRow_7] at h ⊢
    by_cases e : x1 < 0
    · rw [if_pos e] at h ⊢
      exact n34_ag hN x1 ν c y d hA (by omega) h
    · rw [if_neg e] at h ⊢
      by_cases g1 : gIn x1 6
      · obtain ⟨i, hi, rfl⟩ := vp_in_of g1 (by decide)
        rw [if_pos g1, nI_1] at h ⊢
        by_cases g2 : gIn (nI (i + 1)) 6
        · rw [nI_toInt (by omega)] at h1
          rw [if_pos g2, nI_clamp (by omega), nI_clamp (by omega)] at h ⊢
          rw [hA.2 i (by omega), hA.2 (i + 1) (by omega)]
          by_cases e2 : c 14 i ≤ c 14 (i + 1)
          · rw [if_pos e2] at h ⊢
            exact n34_ag hN _ ν c y d hA (by rw [nI_toInt (by omega)]; omega) h
          · rw [if_neg e2] at h ⊢
            exact ih _ ν c y d hA (by rw [dnl hi]; omega) h
        · rw [if_neg g2] at h; exact absurd h (by simp)
      · rw [if_neg g1] at h; exact absurd h (by simp)
theorem next_ag (hN : N ≤ 6) {ν c d : Sg} {y : Int32} (hA : Ag N ν c) (h : fX7_nextRow c = some (y, d)) : ∃ τ, fX7_nextRow ν = some (y, τ) ∧ Ag N τ d ∧ Kq ν τ := by
  unfold fX7_nextRow at h ⊢
  rw [hA.1.2] at h
  rw [hA.1.1]
  exact n7_ag hN _ _ ν c y d hA (by rw [n2l (by omega)]; omega) h
/-- a row as a number, a digit of eight a place -/
def cs (N r : Nat) : Sg := fun a k => if a = 14 then nI (r / 8 ^ k % 8) else nI N
def pk6 (d : Sg) : Nat := (d 14 0).toNatClampNeg + 8 * ((d 14 1).toNatClampNeg + 8 * ((d 14 2).toNatClampNeg + 8 * ((d 14 3).toNatClampNeg + 8 * ((d 14 4).toNatClampNeg + 8 * (d 14 5).toNatClampNeg))))
def same (N : Nat) (d : Sg) (r : Nat) : Bool := (List.range 6).all (fun k => if k < N then decide (d 14 k = nI (r / 8 ^ k % 8)) else true)
theorem same_ag {N r : Nat} (hN : N ≤ 6) {τ d : Sg} (h : same N d r = true) (hA : Ag N τ d) : Ag N τ (cs N r) := by
  refine ⟨⟨hA.1.1, rfl⟩, fun k hk => ?_⟩
  rw [hA.2 k hk]
  have := List.all_eq_true.mp h k (List.mem_range.mpr (by omega))
  rw [if_pos hk] at this
  exact of_decide_eq_true this
end PUTE
