section PUTO
variable {σ μ s u : Sg} {k i n len t : Nat}
/-! taking the SHOP over: the class -/
theorem rdT (hk : k < 4) (hS : ShS s u k) (hin : i + n ≤ len) (hl : len ≤ 60) (el : u 2 k = nI len) {s' : Sg} (h : ∀ a, a < 10 → s' a = s a) {j : Nat} (hj : j < n) : fX1_read k (nI (i + j)) s' = some (T0 u (60 * k + i) j) := by
  have hS' : ShS s' u k := by
    unfold ShS at hS ⊢
    rw [h (2 + k) (by omega), h (6 + k) (by omega)]
    exact hS
  rw [readE (i := i + j) hk hS' (by omega) hl el]
  unfold T0
  rw [Nat.add_assoc]
theorem n_add (i c : Nat) {x : Int32} (h : x = nI c) : nI i + x = nI (i + c) := by rw [h, nI_add]
theorem fill30 (hk : k < 4) (hS : ShS s u k) (hin : i + n ≤ len) (hl : len ≤ 60) (el : u 2 k = nI len) {r : Nat} (hr : r < 6) (hr2 : 11 + 7 * r + 7 ≤ n) (z : Int32) {σ' : Sg} (h : ∀ a, a < 10 → σ' a = s a) : ∃ σ2, fX5_fillFrom_30 r k (nI (i + (11 + 7 * r))) z r σ' = some σ2 ∧ (∀ a, a ≠ 13 + r → σ2 a = σ' a) ∧ σ2 (13 + r) 0 = z ∧ ∀ c, 1 ≤ c → c ≤ 5 → σ2 (13 + r) c = D0 u (60 * k + i) (12 + 7 * r + c) := by
  have R : ∀ (c : Nat) (x : Int32) (s' : Sg), x = nI (c + 1) → 1 ≤ c → c ≤ 5 → (∀ a, a < 10 → s' a = s a) → fX1_read k (nI (i + (11 + 7 * r)) + x) s' = some (T0 u (60 * k + i) (12 + 7 * r + c)) := by
    intro c x s' hx h1 h2 h3
    have := rdT hk hS hin hl el h3 (j := 12 + 7 * r + c) (by omega)
    rw [← this, n_add _ _ hx]
    congr 2
    omega
  unfold fX5_fillFrom_30
  have q0 : ∀ a, a < 10 → (up2 σ' (13 + r) 0 z) a = s a := fun a ha => (up_nc (by omega)).trans (h a ha)
  rw [R 1 2 _ rfl (by omega) (by omega) q0, Option.bind_some]
  have q1 := fun a (ha : a < 10) => (up_nc (σ := up2 σ' (13 + r) 0 z) (a := 13 + r) (k := 1) (v := T0 u (60 * k + i) (12 + 7 * r + 1) - 48) (show a ≠ 13 + r by omega)).trans (q0 a ha)
  rw [R 2 3 _ rfl (by omega) (by omega) q1, Option.bind_some]
  have q2 := fun a (ha : a < 10) => (up_nc (σ := up2 (up2 σ' (13 + r) 0 z) (13 + r) 1 (T0 u (60 * k + i) (12 + 7 * r + 1) - 48)) (a := 13 + r) (k := 2) (v := T0 u (60 * k + i) (12 + 7 * r + 2) - 48) (show a ≠ 13 + r by omega)).trans (q1 a ha)
  rw [R 3 4 _ rfl (by omega) (by omega) q2, Option.bind_some]
  have q3 := fun a (ha : a < 10) => (up_nc (σ := up2 (up2 (up2 σ' (13 + r) 0 z) (13 + r) 1 (T0 u (60 * k + i) (12 + 7 * r + 1) - 48)) (13 + r) 2 (T0 u (60 * k + i) (12 + 7 * r + 2) - 48)) (a := 13 + r) (k := 3) (v := T0 u (60 * k + i) (12 + 7 * r + 3) - 48) (show a ≠ 13 + r by omega)).trans (q2 a ha)
  rw [R 4 5 _ rfl (by omega) (by omega) q3, Option.bind_some]
  have q4 := fun a (ha : a < 10) => (up_nc (σ := up2 (up2 (up2 (up2 σ' (13 + r) 0 z) (13 + r) 1 (T0 u (60 * k + i) (12 + 7 * r + 1) - 48)) (13 + r) 2 (T0 u (60 * k + i) (12 + 7 * r + 2) - 48)) (13 + r) 3 (T0 u (60 * k + i) (12 + 7 * r + 3) - 48)) (a := 13 + r) (k := 4) (v := T0 u (60 * k + i) (12 + 7 * r + 4) - 48) (show a ≠ 13 + r by omega)).trans (q3 a ha)
  rw [R 5 6 _ rfl (by omega) (by omega) q4, Option.bind_some]
  refine ⟨_, rfl, fun a ha => ?_, ?_, fun c c1 c2 => ?_⟩
  · rw [up_nc ha, up_nc ha, up_nc ha, up_nc ha, up_nc ha, up_nc ha]
  · rw [up_nk (by omega), up_nk (by omega), up_nk (by omega), up_nk (by omega), up_nk (by omega), up_eq]
  · match c, c1, c2 with
    | 1, _, _ => rw [up_nk (by omega), up_nk (by omega), up_nk (by omega), up_nk (by omega), up_eq]; rfl
    | 2, _, _ => rw [up_nk (by omega), up_nk (by omega), up_nk (by omega), up_eq]; rfl
    | 3, _, _ => rw [up_nk (by omega), up_nk (by omega), up_eq]; rfl
    | 4, _, _ => rw [up_nk (by omega), up_eq]; rfl
    | 5, _, _ => rw [up_eq]; rfl
theorem fillE (hk : k < 4) (hS : ShS s u k) (hin : i + n ≤ len) (hl : len ≤ 60) (el : u 2 k = nI len) {r : Nat} (hr : r < 6) (hr2 : 11 + 7 * r + 7 ≤ n) {σ' : Sg} (h : ∀ a, a < 10 → σ' a = s a) : ∃ σ2, fX5_fillFrom r k (nI i + 11 + nI r * 7) σ' = some σ2 ∧ (∀ a, a ≠ 13 + r → σ2 a = σ' a) ∧ σ2 (13 + r) 0 = kd (T0 u (60 * k + i) (12 + 7 * r)) ∧ ∀ c, 1 ≤ c → c ≤ 5 → σ2 (13 + r) c = D0 u (60 * k + i) (12 + 7 * r + c) := by
  have e : nI i + 11 + nI r * 7 = nI (i + (11 + 7 * r)) := by
    rw [n_add i 11 (x := 11) rfl, show nI r * 7 = nI (r * 7) from pk_mul r 7, nI_add]
    congr 1
    omega
  have e1 : nI (i + (11 + 7 * r)) + 1 = nI (i + (12 + 7 * r)) := by rw [nI_1]; congr 1; omega
  unfold fX5_fillFrom
  rw [e, e1, rdT hk hS hin hl el h (j := 12 + 7 * r) (by omega), Option.bind_some]
  unfold kd
  by_cases a : T0 u (60 * k + i) (12 + 7 * r) = 111
  · simp only [if_pos a]
    exact fill30 hk hS hin hl el hr hr2 2 h
  · by_cases b : T0 u (60 * k + i) (12 + 7 * r) = 115
    · simp only [if_neg a, if_pos b]
      exact fill30 hk hS hin hl el hr hr2 1 h
    · simp only [if_neg a, if_neg b]
      exact fill30 hk hS hin hl el hr hr2 0 h
theorem st112 (hk : k < 4) (hS : ShS s u k) (hin : i + n ≤ len) (hl : len ≤ 60) (el : u 2 k = nI len) (ht : t ≤ 6) (en : n = 11 + 7 * t) : ∀ (m r : Nat) (σ' : Sg), r ≤ t → t - r < m → (∀ a, a < 10 → σ' a = s a) → σ' 10 2 = nI t → ∃ σ1, fX2_stockFrom_112 k (nI i) m (nI r) σ' = some (up2 (up2 (up2 σ1 10 7 0) 10 8 0) 10 9 0) ∧ (∀ a, (a < 13 ∨ 19 ≤ a) → σ1 a = σ' a) ∧ (∀ q, r ≤ q → q < t → σ1 (13 + q) 0 = kd (T0 u (60 * k + i) (12 + 7 * q)) ∧ ∀ c, 1 ≤ c → c ≤ 5 → σ1 (13 + q) c = D0 u (60 * k + i) (12 + 7 * q + c)) ∧ ∀ q, (q < r ∨ t ≤ q) → q < 6 → σ1 (13 + q) = σ' (13 + q) := by
  intro m
  induction m with
  | zero => intro r σ' h1 h2; omega
  | succ m ih =>
    intro r σ' h1 h2 h3 h4
    rw [fX2_stockFrom_112, h4]
    by_cases h : t ≤ r
    · rw [if_pos (nI_le h (by omega))]
      exact ⟨σ', rfl, fun _ _ => rfl, fun q a b => by omega, fun _ _ _ => rfl⟩
    · have g := gIn_nI (t := r) (n := 6) (by omega) (by decide)
      obtain ⟨σ2, f1, f2, f3, f4⟩ := fillE hk hS hin hl el (r := r) (by omega) (by omega) h3
      rw [if_neg (nI_ge (by omega) (by omega)), if_pos g, nI_clamp (by omega), f1, Option.bind_some, nI_1]
      obtain ⟨σ1, a1, a2, a3, a4⟩ := ih (r + 1) σ2 (by omega) (by omega) (fun a ha => (f2 a (by omega)).trans (h3 a ha)) (by rw [f2 10 (by omega)]; exact h4)
      refine ⟨σ1, a1, fun a ha => (a2 a ha).trans (f2 a (by omega)), fun q q1 q2 => ?_, fun q q1 q2 => ?_⟩
      · by_cases eq : q = r
        · subst eq
          rw [a4 q (by omega) (by omega)]
          exact ⟨f3, f4⟩
        · exact a3 q (by omega) q2
      · rw [a4 q (by omega) q2]
        exact f2 _ (by omega)
theorem st45 (hk : k < 4) (hS : ShS s u k) (hin : i + n ≤ len) (hl : len ≤ 60) (el : u 2 k = nI len) (ht : t ≤ 6) (h1t : 1 ≤ t) (en : n = 11 + 7 * t) : ∀ (e p m : Nat) (σ' : Sg), e + p = 6 → e < m → (∀ a, a < 10 → σ' a = s a) → ∃ σ1, fX2_stockFrom_45 k (nI i) (nI n) m (nI p) σ' = fX2_stockFrom_112 k (nI i) 1000 0 (up2 (up2 σ1 10 6 (D0 u (60 * k + i) 10)) 10 2 (nI t)) ∧ (∀ a, a ≠ 12 → σ1 a = σ' a) ∧ (∀ q, p ≤ q → q < 6 → σ1 12 q = D0 u (60 * k + i) (4 + q)) ∧ ∀ q, q < p → σ1 12 q = σ' 12 q := by
  intro e
  induction e with
  | zero =>
    intro p m σ' h1 h2 h3
    obtain ⟨m, rfl⟩ : ∃ j, m = j + 1 := ⟨m - 1, by omega⟩
    obtain rfl : p = 6 := by omega
    have e1 : nI n - 11 = nI (n - 11) := pk_sub (a := n) (b := 11) (by omega)
    have e2 : nI (n - 11) / 7 = nI t := by
      rw [show nI (n - 11) / 7 = nI ((n - 11) / 7) from pk_div (a := n - 11) (d := 7) (by omega) (by omega) (by omega)]
      congr 1
      omega
    have e3 : (if nI t < 6 then nI t else 6) = nI t := by
      by_cases h6 : t = 6
      · subst h6; rfl
      · rw [if_pos (show nI t < 6 from nI_lt (b := 6) (by omega) (by omega))]
    rw [fX2_stockFrom_45, if_pos (show (6 : Int32) ≤ nI 6 from by decide), n_add i 10 (x := 10) rfl, rdT hk hS hin hl el h3 (j := 10) (by omega), Option.bind_some, e1, e2, e3]
    exact ⟨σ', rfl, fun _ _ => rfl, fun q a b => by omega, fun _ _ => rfl⟩
  | succ e ih =>
    intro p m σ' h1 h2 h3
    obtain ⟨m, rfl⟩ : ∃ j, m = j + 1 := ⟨m - 1, by omega⟩
    have g := gIn_nI (t := p) (n := 6) (by omega) (by decide)
    rw [fX2_stockFrom_45, if_neg (show ¬ (6 : Int32) ≤ nI p from nI_ge (b := 6) (by omega) (by omega)), n_add i 4 (x := 4) rfl, nI_add, Nat.add_assoc, rdT hk hS hin hl el h3 (j := 4 + p) (by omega), Option.bind_some, if_pos g, nI_clamp (by omega), nI_1]
    obtain ⟨σ1, a1, a2, a3, a4⟩ := ih (p + 1) m (up2 σ' 12 p (T0 u (60 * k + i) (4 + p) - 48)) (by omega) (by omega) (fun a ha => (up_nc (by omega)).trans (h3 a ha))
    refine ⟨σ1, a1, fun a ha => (a2 a ha).trans (up_nc ha), fun q q1 q2 => ?_, fun q q1 => ?_⟩
    · by_cases eq : q = p
      · subst eq; rw [a4 q (by omega), up_eq]; rfl
      · exact a3 q (by omega) q2
    · rw [a4 q (by omega), up_nk (by omega)]
def XF (s u : Sg) (B t : Nat) (τ : Sg) : Prop := (∀ a, (a < 10 ∨ 19 ≤ a) → τ a = s a) ∧ (τ 10 2 = nI t ∧ τ 10 3 = D0 u B 1 ∧ τ 10 4 = D0 u B 2 ∧ τ 10 5 = D0 u B 3 ∧ τ 10 6 = D0 u B 10 ∧ τ 10 7 = 0 ∧ τ 10 8 = 0 ∧ τ 10 9 = 0) ∧ (∀ p, p < 6 → τ 12 p = D0 u B (4 + p)) ∧ (∀ q, q < t → τ (13 + q) 0 = kd (T0 u B (12 + 7 * q)) ∧ ∀ c, 1 ≤ c → c ≤ 5 → τ (13 + q) c = D0 u B (12 + 7 * q + c)) ∧ ∀ q, t ≤ q → q < 6 → τ (13 + q) = s (13 + q)
theorem stockE (hk : k < 4) (hS : ShS s u k) (hin : i + n ≤ len) (hl : len ≤ 60) (el : u 2 k = nI len) (ht : t ≤ 6) (h1t : 1 ≤ t) (en : n = 11 + 7 * t) : ∃ τ, fX2_stockFrom k (nI i) (nI n) s = some τ ∧ XF s u (60 * k + i) t τ := by
  have R : ∀ (c : Nat) (x : Int32) (s' : Sg), x = nI c → c < n → (∀ a, a < 10 → s' a = s a) → fX1_read k (nI i + x) s' = some (T0 u (60 * k + i) c) := by
    intro c x s' hx h1 h3
    rw [n_add i c hx]
    exact rdT hk hS hin hl el h3 h1
  have q0 : ∀ a, a < 10 → s a = s a := fun _ _ => rfl
  have q1 := fun a (ha : a < 10) => up_nc (σ := s) (a := 10) (k := 3) (v := T0 u (60 * k + i) 1 - 48) (show a ≠ 10 by omega)
  have q2 := fun a (ha : a < 10) => (up_nc (σ := up2 s 10 3 (T0 u (60 * k + i) 1 - 48)) (a := 10) (k := 4) (v := T0 u (60 * k + i) 2 - 48) (show a ≠ 10 by omega)).trans (q1 a ha)
  have q3 := fun a (ha : a < 10) => (up_nc (σ := up2 (up2 s 10 3 (T0 u (60 * k + i) 1 - 48)) 10 4 (T0 u (60 * k + i) 2 - 48)) (a := 10) (k := 5) (v := T0 u (60 * k + i) 3 - 48) (show a ≠ 10 by omega)).trans (q2 a ha)
  unfold fX2_stockFrom
  rw [R 1 1 s rfl (by omega) q0, Option.bind_some, R 2 2 _ rfl (by omega) q1, Option.bind_some, R 3 3 _ rfl (by omega) q2, Option.bind_some]
  obtain ⟨σ1, a1, a2, a3, -⟩ := st45 hk hS hin hl el ht h1t en 6 0 1000 _ (by omega) (by omega) q3
  rw [nI_0] at a1
  rw [a1]
  obtain ⟨σ2, b1, b2, b3, b4⟩ := st112 hk hS hin hl el ht en 1000 0 (up2 (up2 σ1 10 6 (D0 u (60 * k + i) 10)) 10 2 (nI t)) (by omega) (by omega) (fun a ha => by rw [up_nc (by omega), up_nc (by omega), a2 a (by omega)]; exact q3 a ha) (up_eq _ _ _ _)
  rw [nI_0] at b1
  rw [b1]
  refine ⟨_, rfl, fun a ha => ?_, ⟨?_, ?_, ?_, ?_, ?_, ?_, ?_, ?_⟩, fun p hp => ?_, fun q hq => ?_, fun q q1 q2 => ?_⟩
  · rw [up_nc (by omega), up_nc (by omega), up_nc (by omega), b2 a (by omega), up_nc (by omega), up_nc (by omega), a2 a (by omega), up_nc (by omega), up_nc (by omega), up_nc (by omega)]
  · rw [up_nk (by omega), up_nk (by omega), up_nk (by omega), b2 10 (by omega), up_eq]
  · rw [up_nk (by omega), up_nk (by omega), up_nk (by omega), b2 10 (by omega), up_nk (by omega), up_nk (by omega), a2 10 (by omega), up_nk (by omega), up_nk (by omega), up_eq]; rfl
  · rw [up_nk (by omega), up_nk (by omega), up_nk (by omega), b2 10 (by omega), up_nk (by omega), up_nk (by omega), a2 10 (by omega), up_nk (by omega), up_eq]; rfl
  · rw [up_nk (by omega), up_nk (by omega), up_nk (by omega), b2 10 (by omega), up_nk (by omega), up_nk (by omega), a2 10 (by omega), up_eq]; rfl
  · rw [up_nk (by omega), up_nk (by omega), up_nk (by omega), b2 10 (by omega), up_nk (by omega), up_eq]
  · rw [up_nk (by omega), up_nk (by omega), up_eq]
  · rw [up_nk (by omega), up_eq]
  · rw [up_eq]
  · rw [up_nc (by omega), up_nc (by omega), up_nc (by omega), b2 12 (by omega), up_nc (by omega), up_nc (by omega)]
    exact a3 p (by omega) hp
  · rw [up_nc (by omega), up_nc (by omega), up_nc (by omega)]
    exact b3 q (by omega) hq
  · rw [up_nc (by omega), up_nc (by omega), up_nc (by omega), b4 q (by omega) q2, up_nc (by omega), up_nc (by omega), a2 _ (by omega), up_nc (by omega), up_nc (by omega), up_nc (by omega)]
end PUTO
