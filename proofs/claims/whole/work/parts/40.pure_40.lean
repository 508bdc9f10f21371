section PUTA
variable {σ μ s u : Sg}
theorem covG {s : Sg} {k len : Nat} (hl : len ≤ 60) (el : s (2 + k) 2 = nI len) (x n : Int32) : (fX1_covers k x n s = 1 ∧ ∃ i n' : Nat, x = nI i ∧ n = nI n' ∧ i + n' ≤ len) ∨ (fX1_covers k x n s = 0 ∧ (x.toInt < 0 ∨ (len : Int) < x.toInt ∨ n.toInt < 0 ∨ (0 ≤ x.toInt ∧ x.toInt ≤ len ∧ (len : Int) - x.toInt < n.toInt))) := by
  have t1 := nI_toInt (n := len) (by omega)
  unfold fX1_covers
  rw [el]
  by_cases c1 : x < 0
  · right
    rw [if_pos c1]
    rw [fa_lt, L_0] at c1
    exact ⟨rfl, Or.inl c1⟩
  · by_cases c2 : nI len < x
    · right
      rw [if_neg c1, if_pos c2]
      rw [fa_lt, t1] at c2
      exact ⟨rfl, Or.inr (Or.inl c2)⟩
    · rw [if_neg c1, if_neg c2]
      rw [fa_lt, L_0] at c1
      rw [fa_lt, t1] at c2
      obtain ⟨i, hi, rfl⟩ := of_rg (x := x) (n := len) (by omega) (by omega) (by omega)
      have t2 := nI_toInt (n := i) (by omega)
      have t4 : (nI len - nI i).toInt = (len : Int) - i := pk_sub_toInt (by omega) (by omega)
      by_cases c3 : n < 0
      · right
        rw [if_pos c3]
        rw [fa_lt, L_0] at c3
        exact ⟨rfl, Or.inr (Or.inr (Or.inl c3))⟩
      · rw [if_neg c3]
        rw [fa_lt, L_0] at c3
        by_cases c4 : nI len - nI i < n
        · right
          rw [if_pos c4]
          rw [fa_lt, t4] at c4
          exact ⟨rfl, Or.inr (Or.inr (Or.inr ⟨by omega, by omega, by omega⟩))⟩
        · left
          rw [if_neg c4]
          rw [fa_lt, t4] at c4
          obtain ⟨n', hn, rfl⟩ := of_rg (x := n) (n := len - i) (by omega) (by omega) (by omega)
          exact ⟨rfl, i, n', rfl, rfl, by omega⟩
theorem cp_up {k o i j n : Nat} (hk : k < 4) (ho : o < 4) (hi : i + n ≤ 60) (hj : j + n ≤ 60) (hij : j ≤ i) {μ : Sg} : ∀ (m q : Nat) (ν : Sg), q ≤ n → n - q < m → (∀ c, c < q → ν 3 (60 * o + (j + c)) = μ 3 (60 * k + (i + c))) → (∀ a, (∀ c, c < q → a ≠ 60 * o + (j + c)) → ν 3 a = μ 3 a) → (∀ b, b ≠ 3 → ν b = μ b) → ∃ ν', fX7_copy_166 (nI k) (nI i) (nI o) (nI j) (nI n) 0 m (nI q) ν = some (nI n, ν') ∧ (∀ c, c < n → ν' 3 (60 * o + (j + c)) = μ 3 (60 * k + (i + c))) ∧ (∀ a, (∀ c, c < n → a ≠ 60 * o + (j + c)) → ν' 3 a = μ 3 a) ∧ ∀ b, b ≠ 3 → ν' b = μ b := by
  intro m
  induction m with
  | zero => intro q ν h1 h2; omega
  | succ m ih =>
    intro q ν h1 h2 a1 a2 a3
    rw [fX7_copy_166]
    by_cases h : n ≤ q
    · have hc : nI n ≤ nI q := nI_le h (by omega)
      obtain rfl : q = n := by omega
      rw [if_pos hc]
      exact ⟨ν, rfl, a1, a2, a3⟩
    · have hc : ¬ nI n ≤ nI q := nI_ge (by omega) (by omega)
      have g1 := gIn_nI (t := 60 * k + (i + q)) (n := 240) (by omega) (by decide)
      have g2 := gIn_nI (t := 60 * o + (j + q)) (n := 240) (by omega) (by decide)
      rw [if_neg hc]
      simp only [if_true, fX7_copy_190, ix_eq, nI_add, Nat.add_assoc, if_pos g1, if_pos g2, nI_clamp (show 60 * k + (i + q) < 2 ^ 31 by omega), nI_clamp (show 60 * o + (j + q) < 2 ^ 31 by omega), nI_1]
      refine ih (q + 1) _ (by omega) (by omega) (fun c hc => ?_) (fun a ha => ?_) (fun b hb => by rw [up_nc hb, a3 b hb])
      · by_cases e : c = q
        · subst e
          rw [up_eq]
          exact a2 _ (fun c' hc' => by omega)
        · rw [up_nk (by omega)]
          exact a1 c (by omega)
      · rw [up_nk (ha q (by omega))]
        exact a2 a (fun c hc => ha c (by omega))
theorem cp_dn {k o i j n : Nat} (hk : k < 4) (ho : o < 4) (hi : i + n ≤ 60) (hj : j + n ≤ 60) (hij : i < j) {μ : Sg} : ∀ (m q : Nat) (ν : Sg), q ≤ n → n - q < m → (∀ c, n ≤ c + q → c < n → ν 3 (60 * o + (j + c)) = μ 3 (60 * k + (i + c))) → (∀ a, (∀ c, n ≤ c + q → c < n → a ≠ 60 * o + (j + c)) → ν 3 a = μ 3 a) → (∀ b, b ≠ 3 → ν b = μ b) → ∃ ν', fX7_copy_166 (nI k) (nI i) (nI o) (nI j) (nI n) 1 m (nI q) ν = some (nI n, ν') ∧ (∀ c, c < n → ν' 3 (60 * o + (j + c)) = μ 3 (60 * k + (i + c))) ∧ (∀ a, (∀ c, c < n → a ≠ 60 * o + (j + c)) → ν' 3 a = μ 3 a) ∧ ∀ b, b ≠ 3 → ν' b = μ b := by
  intro m
  induction m with
  | zero => intro q ν h1 h2; omega
  | succ m ih =>
    intro q ν h1 h2 a1 a2 a3
    rw [fX7_copy_166]
    by_cases h : n ≤ q
    · have hc : nI n ≤ nI q := nI_le h (by omega)
      rw [if_pos hc]
      exact ⟨ν, rfl, fun c hc => a1 c (by omega) hc, fun a ha => a2 a (fun c _ hc => ha c hc), a3⟩
    · have hc : ¬ nI n ≤ nI q := nI_ge (by omega) (by omega)
      obtain ⟨d, hd⟩ : ∃ d, n = d + 1 + q := ⟨n - 1 - q, by omega⟩
      have ed : nI n - 1 - nI q = nI d := by
        rw [show n = (d + q) + 1 by omega, nI_pred, pk_sub (by omega)]
        congr 1
        omega
      have g1 := gIn_nI (t := 60 * k + (i + d)) (n := 240) (by omega) (by decide)
      have g2 := gIn_nI (t := 60 * o + (j + d)) (n := 240) (by omega) (by decide)
      rw [if_neg hc]
      simp only [if_neg (show ¬ (1 : Int32) = 0 by decide), fX7_copy_190, ed, ix_eq, nI_add, Nat.add_assoc, if_pos g1, if_pos g2, nI_clamp (show 60 * k + (i + d) < 2 ^ 31 by omega), nI_clamp (show 60 * o + (j + d) < 2 ^ 31 by omega), nI_1]
      refine ih (q + 1) _ (by omega) (by omega) (fun c h3 h4 => ?_) (fun a ha => ?_) (fun b hb => by rw [up_nc hb, a3 b hb])
      · by_cases e : c = d
        · subst e
          rw [up_eq]
          exact a2 _ (fun c' h5 h6 => by omega)
        · rw [up_nk (by omega)]
          exact a1 c (by omega) h4
      · rw [up_nk (ha d (by omega) (by omega))]
        exact a2 a (fun c h3 h4 => ha c (by omega) h4)
theorem cp_inv {k o i j n : Nat} (hI : Inv s u) (hk : k < 4) (ho : o < 4) (hi : i + n ≤ 60) (hj : j + n ≤ 60) (hS : ShS s u k) (hO : ShS s u o) {ν : Sg} (b1 : ∀ c, c < n → ν 3 (60 * o + (j + c)) = u 3 (60 * k + (i + c))) (b2 : ∀ a, (∀ c, c < n → a ≠ 60 * o + (j + c)) → ν 3 a = u 3 a) (b3 : ∀ b, b ≠ 3 → ν b = u b) : Inv (upA s (6 + o) (va_cpy (s (6 + k)) (s (6 + o)) i j n)) ν := by
  refine hI.sheet ho (fun a h1 h2 => upA_ne h2) (b3 0 (by omega)) (fun a h => b3 a (by omega)) (fun q hq => by rw [b3 1 (by omega)]) (fun q hq => by rw [b3 2 (by omega)]) (fun q a hq ha => b2 _ (fun c hc => by omega)) (Or.inr ?_)
  obtain ⟨q1, q2, q3, q4, q5⟩ := hO
  unfold ShS
  rw [upA_ne (a := 6 + o) (b := 2 + o) (by omega), b3 1 (by omega), b3 2 (by omega)]
  refine ⟨q1, q2, q3, q4, fun a ha => ?_⟩
  rw [upA_eq]
  by_cases h : j ≤ a ∧ a < j + n
  · rw [pk_cpy_in h.1 h.2, hS.2.2.2.2 (i + (a - j)) (by omega)]
    have := b1 (a - j) (by omega)
    rw [show j + (a - j) = a by omega] at this
    exact this.symm
  · rw [pk_cpy_out (by omega), q5 a ha]
    exact (b2 _ (fun c hc => by omega)).symm
theorem E_copy (hI : Inv σ μ) (x1 : Int32) (x2 : Int32) (x3 : Int32) (x4 : Int32) (x5 : Int32) : ∃ (r : Int32) (τ : Sg) (ν : Sg), fX6_copy x1 x2 x3 x4 x5 σ = some (r, τ) ∧ fX7_copy x1 x2 x3 x4 x5 μ = some (r, ν) ∧ Inv τ ν := by
  have hJ := hI.fault 0
  have c1 : ∀ k, (up2 μ 0 0 0) 1 k = μ 1 k := fun k => by rw [up_nc (by omega)]
  have c2 : ∀ k, (up2 μ 0 0 0) 2 k = μ 2 k := fun k => by rw [up_nc (by omega)]
  have m0 : ¬ (1 : Int32) = 0 := by decide
  unfold fX6_copy fX7_copy fX7_copy_110 fX6_faulted fX7_fails
  simp only [← c1, ← c2]
  clear c1 c2 hI
  generalize up2 σ 0 4 0 = s at hJ ⊢
  generalize up2 μ 0 0 0 = u at hJ ⊢
  rcases sh_or x1 s u with ⟨a1, a2⟩ | ⟨a1, a2, hg, k, hk, rfl⟩
  · rw [a1, a2]
    exact ⟨-1, s, u, rfl, rfl, hJ⟩
  · rcases sh_or x3 s u with ⟨a3, a4⟩ | ⟨a3, a4, hg3, o, ho, rfl⟩
    · rw [a1, a2, a3, a4]
      exact ⟨-1, s, u, rfl, rfl, hJ⟩
    · rw [a1, a2, a3, a4]
      simp only [if_neg m0, if_pos hg, if_pos hg3, nI_clamp (show k < 2 ^ 31 by omega), nI_clamp (show o < 2 ^ 31 by omega)]
      rcases nth_or (hJ.2.1 k hk) with ⟨n1, n2, n3⟩ | ⟨n1, n2, n3⟩
      · simp only [n1, if_neg m0, if_pos n2]
        exact ⟨_, _, _, rfl, rfl, hJ.fault 1⟩
      · rcases nth_or (hJ.2.1 o ho) with ⟨k1, k2, k3⟩ | ⟨k1, k2, k3⟩
        · simp only [n1, k1, if_neg m0, if_neg n2, if_pos k2, if_true]
          exact ⟨_, _, _, rfl, rfl, hJ.fault 1⟩
        · simp only [n1, k1, if_neg n2, if_neg k2, if_true, n3.1, k3.1]
          by_cases hl : u 1 k = u 1 o
          · simp only [if_pos hl]
            obtain ⟨l1, h1, e1⟩ := n3.2.2.2.1
            obtain ⟨l2, h2, e2⟩ := k3.2.2.2.1
            have t1 := nI_toInt (n := l1) (by omega)
            have t2 := nI_toInt (n := l2) (by omega)
            rcases covG h1 (n3.2.2.1.trans e1) x2 x5 with ⟨v1, i, n, rfl, rfl, hin⟩ | ⟨v1, v2⟩
            · rcases covG h2 (k3.2.2.1.trans e2) x4 (nI n) with ⟨w1, j, n', rfl, en, hjn⟩ | ⟨w1, w2⟩
              · obtain rfl : n = n' := (nI_eq (by omega) (by omega)).mp en
                have ti := nI_toInt (n := i) (by omega)
                have tj := nI_toInt (n := j) (by omega)
                have tn := nI_toInt (n := n) (by omega)
                have d1 : (nI l1 - nI i).toInt = (l1 : Int) - i := pk_sub_toInt (by omega) (by omega)
                have d2 : (nI l2 - nI j).toInt = (l2 : Int) - j := pk_sub_toInt (by omega) (by omega)
                have hcp : cpOk (nI i) (nI j) (nI n) 60 := ⟨nI_pos (by omega), nI_pos (by omega), nI_pos (by omega), by rw [nI_clamp (by omega), nI_clamp (by omega)]; omega, by rw [nI_clamp (by omega), nI_clamp (by omega)]; omega⟩
                have p0 : ¬ nI i < 0 := nI_pos (by omega)
                have p1 : ¬ nI j < 0 := nI_pos (by omega)
                have p2 : ¬ nI n < 0 := nI_pos (by omega)
                have p3 : ¬ nI l1 < nI i := nI_nlt (by omega) (by omega)
                have p4 : ¬ nI l2 < nI j := nI_nlt (by omega) (by omega)
                have p5 : ¬ nI l1 - nI i < nI n := by rw [fa_lt]; omega
                have p6 : nI n ≤ nI l2 - nI j := by rw [fa_le]; omega
                simp only [v1, w1, if_neg m0, if_pos hcp, nI_clamp (show i < 2 ^ 31 by omega), nI_clamp (show j < 2 ^ 31 by omega), nI_clamp (show n < 2 ^ 31 by omega), e1, e2, if_neg p0, if_neg p1, if_neg p2, if_neg p3, if_neg p4, if_neg p5, if_pos p6]
                by_cases hij : j ≤ i
                · have p7 : nI j ≤ nI i := nI_le hij (by omega)
                  simp only [if_pos p7]
                  obtain ⟨ν, f1, f2, f3, f4⟩ := cp_up (i := i) (j := j) (n := n) hk ho (by omega) (by omega) hij (μ := u) 1000 0 u (by omega) (by omega) (fun c hc => by omega) (fun a _ => rfl) (fun _ _ => rfl)
                  rw [nI_0] at f1
                  rw [f1]
                  exact ⟨_, _, ν, rfl, rfl, cp_inv hJ hk ho (by omega) (by omega) n3 k3 f2 f3 f4⟩
                · have p7 : ¬ nI j ≤ nI i := nI_ge (by omega) (by omega)
                  simp only [if_neg p7]
                  obtain ⟨ν, f1, f2, f3, f4⟩ := cp_dn (i := i) (j := j) (n := n) hk ho (by omega) (by omega) (by omega) (μ := u) 1000 0 u (by omega) (by omega) (fun c h3 h4 => by omega) (fun a _ => rfl) (fun _ _ => rfl)
                  rw [nI_0] at f1
                  rw [f1]
                  exact ⟨_, _, ν, rfl, rfl, cp_inv hJ hk ho (by omega) (by omega) n3 k3 f2 f3 f4⟩
              · simp only [v1, w1, if_neg m0, if_true]
                refine ⟨-10 - 3, up2 s 0 4 3, up2 u 0 0 3, rfl, ?_, hJ.fault 3⟩
                have ti := nI_toInt (n := i) (by omega)
                have tn := nI_toInt (n := n) (by omega)
                have d1 : (nI l1 - nI i).toInt = (l1 : Int) - i := pk_sub_toInt (by omega) (by omega)
                rw [tn] at w2
                by_cases y1 : x4 < 0
                · simp only [if_neg (nI_pos (n := i) (by omega)), if_pos y1, if_true]
                · by_cases y2 : nI l2 < x4
                  · rw [e1, e2]
                    simp only [if_neg (nI_pos (n := i) (by omega)), if_neg (nI_pos (n := n) (by omega)), if_neg y1, if_neg (nI_nlt (a := l1) (b := i) (by omega) (by omega)), if_pos y2, if_true]
                  · rw [fa_lt, L_0] at y1
                    rw [fa_lt, t2] at y2
                    obtain ⟨j, hj, rfl⟩ := of_rg (x := x4) (n := l2) (by omega) (by omega) (by omega)
                    have tj := nI_toInt (n := j) (by omega)
                    have d2 : (nI l2 - nI j).toInt = (l2 : Int) - j := pk_sub_toInt (by omega) (by omega)
                    have y3 : ¬ nI n ≤ nI l2 - nI j := by rw [fa_le]; omega
                    have y4 : ¬ nI l1 - nI i < nI n := by rw [fa_lt]; omega
                    rw [e1, e2]
                    simp only [if_neg (nI_pos (n := i) (by omega)), if_neg (nI_pos (n := j) (by omega)), if_neg (nI_pos (n := n) (by omega)), if_neg (nI_nlt (a := l1) (b := i) (by omega) (by omega)), if_neg (nI_nlt (a := l2) (b := j) (by omega) (by omega)), if_neg y3, if_neg y4, if_neg m0]
            · simp only [v1, if_true]
              refine ⟨-10 - 3, up2 s 0 4 3, up2 u 0 0 3, rfl, ?_, hJ.fault 3⟩
              rw [e1, e2]
              by_cases y1 : x2 < 0
              · simp only [if_pos y1, if_true]
              · by_cases y2 : nI l1 < x2
                · simp only [if_neg y1, if_pos y2, if_true]
                  repeat' split
                  all_goals rfl
                · rw [fa_lt, L_0] at y1
                  rw [fa_lt, t1] at y2
                  obtain ⟨i, hi, rfl⟩ := of_rg (x := x2) (n := l1) (by omega) (by omega) (by omega)
                  have ti := nI_toInt (n := i) (by omega)
                  have d1 : (nI l1 - nI i).toInt = (l1 : Int) - i := pk_sub_toInt (by omega) (by omega)
                  by_cases y5 : x5 < 0
                  · simp only [if_neg (nI_pos (n := i) (by omega)), if_pos y5, if_true]
                    repeat' split
                    all_goals rfl
                  · rw [fa_lt, L_0] at y5
                    have y4 : nI l1 - nI i < x5 := by rw [fa_lt]; omega
                    simp only [if_pos y4]
                    repeat' split
                    all_goals rfl
          · simp only [if_neg hl]
            exact ⟨_, _, _, rfl, rfl, hJ.fault 2⟩
end PUTA
