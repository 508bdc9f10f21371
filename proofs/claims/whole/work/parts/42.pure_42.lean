section PUTC
variable {σ μ s u : Sg}
/-! all TUBES sieved by one sign behind another -/
def Lq (s : Sg) (sg : Nat → Int32) (N : Nat) : Nat → Nat
  | 0 => 2 ^ N - 1
  | q + 1 => Lq s sg N q &&& mk (pf s (sg q)) N
def Sq (s : Sg) (sg : Nat → Int32) (N : Nat) : Nat → Nat
  | 0 => 0
  | q + 1 => Sq s sg N q + popc (Lq s sg N q)
theorem Lq_lt (s : Sg) (sg : Nat → Int32) (N q : Nat) : Lq s sg N q < 2 ^ N := by
  induction q with
  | zero => have := Nat.two_pow_pos N; rw [Lq]; omega
  | succ q ih => rw [Lq]; exact Nat.lt_of_le_of_lt Nat.and_le_left ih
theorem Lq_64 {N : Nat} (hN : N ≤ 6) (s : Sg) (sg : Nat → Int32) (q : Nat) : Lq s sg N q < 64 := Nat.lt_of_lt_of_le (Lq_lt s sg N q) (Nat.pow_le_pow_right (n := 2) (by decide) hN : 2 ^ N ≤ 2 ^ 6)
theorem Lq_ext {s : Sg} {N : Nat} {sg sg' : Nat → Int32} : ∀ {n : Nat}, (∀ j, j < n → sg j = sg' j) → Lq s sg N n = Lq s sg' N n ∧ Sq s sg N n = Sq s sg' N n := by
  intro n
  induction n with
  | zero => intro _; exact ⟨rfl, rfl⟩
  | succ n ih =>
    intro h
    obtain ⟨a, b⟩ := ih (fun j hj => h j (by omega))
    rw [Lq, Lq, Sq, Sq, a, b, h n (by omega)]
    exact ⟨rfl, rfl⟩
theorem popc_le (L : Nat) : popc L ≤ 6 := by unfold popc; omega
theorem Sq_le (s : Sg) (sg : Nat → Int32) (N q : Nat) : Sq s sg N q ≤ 6 * q := by
  induction q with
  | zero => exact Nat.le_refl _
  | succ q ih => rw [Sq]; have := popc_le (Lq s sg N q); omega
theorem xsieve_loop (hI : Inv s u) {N k i n : Nat} (hN : N ≤ 6) (en : u 0 10 = nI N) (hk : k < 4) (hS : ShS s u k) (hin : i + n ≤ 60) (x5 : Int32) : ∀ m q : Nat, q ≤ n → n - q < m → fX2_sieved_12 s k (nI i) (nI n) x5 m (nI (Lq s (fun j => u 3 (60 * k + (i + j))) N q)) (nI (Sq s (fun j => u 3 (60 * k + (i + j))) N q)) (nI q) = if x5 = 0 then some (nI (Sq s (fun j => u 3 (60 * k + (i + j))) N n)) else some (nI (Lq s (fun j => u 3 (60 * k + (i + j))) N n)) := by
  intro m
  induction m with
  | zero => intro q h1 h2; omega
  | succ m ih =>
    intro q h1 h2
    rw [fX2_sieved_12]
    by_cases h : n ≤ q
    · have hc : nI n ≤ nI q := nI_le h (by omega)
      obtain rfl : q = n := by omega
      rw [if_pos hc]
    · have hc : ¬ nI n ≤ nI q := nI_ge (by omega) (by omega)
      have hg := gIn_nI (t := i + q) (n := 60) (by omega) (by decide)
      have h6 : ¬ (60 : Int32) ≤ nI (i + q) := nI_ge (a := i + q) (b := 60) (by omega) (by omega)
      have e : s (6 + k) (i + q) = u 3 (60 * k + (i + q)) := hS.2.2.2.2 (i + q) (by omega)
      have hih := ih (q + 1) (by omega) (by omega)
      rw [Lq, Sq] at hih
      rw [if_neg hc, if_neg (nI_pos (by omega)), nI_add, if_neg h6, if_pos hg, nI_clamp (show i + q < 2 ^ 31 by omega), e, siftE hI hN en (Lq_64 hN s _ q), Option.bind_some, bcE (Lq_64 hN s _ q), nI_add, nI_1]
      exact hih
theorem xso_loop (hI : Inv s u) {N i : Nat} (hN : N ≤ 6) (en : u 0 10 = nI N) (hin : i + 3 ≤ 18) (x5 : Int32) : ∀ m q : Nat, q ≤ 3 → 3 - q < m → fX2_sieved_so_12 s (nI i) 3 x5 m (nI (Lq s (fun j => soT (i + j)) N q)) (nI (Sq s (fun j => soT (i + j)) N q)) (nI q) = if x5 = 0 then some (nI (Sq s (fun j => soT (i + j)) N 3)) else some (nI (Lq s (fun j => soT (i + j)) N 3)) := by
  intro m
  induction m with
  | zero => intro q h1 h2; omega
  | succ m ih =>
    intro q h1 h2
    rw [fX2_sieved_so_12]
    by_cases h : 3 ≤ q
    · have hc : (3 : Int32) ≤ nI q := nI_le (a := 3) h (by omega)
      obtain rfl : q = 3 := by omega
      rw [if_pos hc]
    · have hc : ¬ (3 : Int32) ≤ nI q := nI_ge (a := q) (b := 3) (by omega) (by omega)
      have hg := gIn_nI (t := i + q) (n := 18) (by omega) (by decide)
      have h6 : ¬ (18 : Int32) ≤ nI (i + q) := nI_ge (a := i + q) (b := 18) (by omega) (by omega)
      have hih := ih (q + 1) (by omega) (by omega)
      rw [Lq, Sq] at hih
      rw [if_neg hc, if_neg (nI_pos (by omega)), nI_add, if_neg h6, if_pos hg, nI_clamp (show i + q < 2 ^ 31 by omega), siftE hI hN en (Lq_64 hN s _ q), Option.bind_some, bcE (Lq_64 hN s _ q), nI_add, nI_1]
      exact hih
theorem asSet (hI : Inv s u) {N : Nat} (hN : N ≤ 6) (en : u 0 10 = nI N) (sg : Nat → Int32) : fX2_allAsSet s = nI (Lq s sg N 0) := by
  unfold fX2_allAsSet
  rw [hI.n, en]
  exact all_set ⟨N, by omega⟩
theorem xsieveE (hI : Inv s u) {N k i n : Nat} (hN : N ≤ 6) (en : u 0 10 = nI N) (hk : k < 4) (hS : ShS s u k) (hin : i + n ≤ 60) (x5 : Int32) : fX2_sieved k (nI i) (nI n) x5 s = if x5 = 0 then some (nI (Sq s (fun j => u 3 (60 * k + (i + j))) N n)) else some (nI (Lq s (fun j => u 3 (60 * k + (i + j))) N n)) := by
  have := xsieve_loop hI hN en hk hS hin x5 1000 0 (by omega) (by omega)
  rw [Sq, nI_0] at this
  unfold fX2_sieved
  rw [asSet hI hN en]
  exact this
theorem xsoE (hI : Inv s u) {N i : Nat} (hN : N ≤ 6) (en : u 0 10 = nI N) (hin : i + 3 ≤ 18) : fX2_secondsBySigns (nI i) s = some (nI (Sq s (fun j => soT (i + j)) N 3)) := by
  have := xso_loop hI hN en hin 0 1000 0 (by omega) (by omega)
  rw [Sq, nI_0] at this
  unfold fX2_secondsBySigns fX2_sieved_so
  rw [asSet hI hN en, this, if_pos rfl, Option.bind_some]
theorem up_up (σ : Sg) (a k : Nat) (v w : Int32) : up2 (up2 σ a k v) a k w = up2 σ a k w := by
  funext b j
  rw [up_at, up_at, up_at]
  split <;> rfl
theorem and63 {L : Nat} (h : L < 64) : L &&& (0 ||| (64 - 2 ^ 0)) = L := fin_lt (P := fun L => L &&& (0 ||| (64 - 2 ^ 0)) = L) (N := 64) (by decide +kernel) h
theorem msieve_loop {N n : Nat} {sg : Nat → Int32} (hN : N ≤ 6) (hn : n ≤ 3) : ∀ (m q : Nat) (ν : Sg), Inv s ν → ν 0 10 = nI N → ν 0 24 = nI n → (∀ j, j < n → ν 13 j = sg j) → ν 0 26 = nI (Sq s sg N q) → q ≤ n → n - q < m → fX7_sieveAll_16 m (nI (Lq s sg N q)) (nI q) ν = some (nI (Lq s sg N n), up2 ν 0 26 (nI (Sq s sg N n))) := by
  intro m
  induction m with
  | zero => intro q ν _ _ _ _ _ h1 h2; omega
  | succ m ih =>
    intro q ν hJ en e24 e13 e26 h1 h2
    rw [fX7_sieveAll_16, e24]
    by_cases h : n ≤ q
    · have hc : nI n ≤ nI q := nI_le h (by omega)
      obtain rfl : q = n := by omega
      rw [if_pos hc, up_same e26]
    · have hc : ¬ nI n ≤ nI q := nI_ge (by omega) (by omega)
      have h64 := Lq_64 hN s sg q
      rw [if_neg hc, bitsE h64, Option.bind_some, e26, nI_add]
      have hJ2 : Inv s (up2 ν 0 26 (nI (Sq s sg N q + popc (Lq s sg N q)))) := hJ.scr (Scr.rf.up0 (by omega) _)
      have hm := msift_loop (N := N) (L := Lq s sg N q) (k := q) hN (Lq_lt s sg N q) (by omega) (K := fX7_sieveAll_16 m) hJ2 (by rw [up_nk (by omega)]; exact en) (g := sg q) (by rw [up_nc (by omega)]; exact e13 q (by omega)) 1000 0 (by omega) (by omega)
      rw [mk, and63 h64, nI_0] at hm
      rw [hm]
      have := ih (q + 1) (up2 ν 0 26 (nI (Sq s sg N q + popc (Lq s sg N q)))) hJ2 (by rw [up_nk (by omega)]; exact en) (by rw [up_nk (by omega)]; exact e24) (fun j hj => by rw [up_nc (by omega)]; exact e13 j hj) (by rw [up_eq, Sq]) (by omega) (by omega)
      rw [Lq, up_up] at this
      exact this
theorem msieveE {N n : Nat} {sg : Nat → Int32} (hN : N ≤ 6) (hn : n ≤ 3) {ν : Sg} (hJ : Inv s ν) (en : ν 0 10 = nI N) (e24 : ν 0 24 = nI n) (e13 : ∀ j, j < n → ν 13 j = sg j) : fX7_sieveAll ν = some (nI (Lq s sg N n), up2 ν 0 26 (nI (Sq s sg N n))) := by
  have := msieve_loop (s := s) (sg := sg) hN hn 1000 0 (up2 ν 0 26 0) (hJ.scr (Scr.rf.up0 (by omega) _)) (by rw [up_nk (by omega)]; exact en) (by rw [up_nk (by omega)]; exact e24) (fun j hj => by rw [up_nc (by omega)]; exact e13 j hj) (by rw [up_eq, Sq, nI_0]) (by omega) (by omega)
  rw [up_up, nI_0] at this
  unfold fX7_sieveAll
  rw [en, all_set ⟨N, by omega⟩]
  exact this
end PUTC
