section PUTL
variable {σ μ s u : Sg}
/-! the text of the SHOP: its first FAULT -/
def sr (j : Nat) : Int32 := if j < 11 then chS 0 (nI j) else chS 1 (nI ((j - 11) % 7))
def ffn (T : Nat → Int32) (s : Sg) : Nat → Nat → Int32
  | 0, j => if fX3_isWhole (nI j) s = 0 then nI j else -1
  | e + 1, j => if j < 53 then (if fX3_isOfSort (sr j) (T j) s = 0 then nI j else ffn T s e (j + 1)) else nI j
theorem goesE {j : Nat} (hj : j ≤ 60) (c : Int32) (s : Sg) : fX3_goesOn (nI j) c s = some (if j < 53 then fX3_isOfSort (sr j) c s else 0) := by
  unfold fX3_goesOn sr
  rw [if_neg (nI_pos (by omega))]
  by_cases h : j < 53
  · rw [if_pos (show nI j < 53 from nI_lt (b := 53) h (by omega)), if_pos h]
    by_cases h2 : j < 11
    · have g := gIn_nI (t := j) (n := 11) h2 (by decide)
      rw [if_neg (show ¬ (11 : Int32) ≤ nI j from nI_ge (b := 11) h2 (by omega)), if_pos g, if_pos h2]
    · have e : nI j - 11 = nI (j - 11) := pk_sub (a := j) (b := 11) (by omega)
      have e2 : nI (j - 11) - nI (j - 11) / 7 * 7 = nI ((j - 11) % 7) := pk_rem (a := j - 11) (d := 7) (by omega) (by omega) (by omega)
      have g := gIn_nI (t := (j - 11) % 7) (n := 7) (by omega) (by decide)
      rw [if_pos (show (11 : Int32) ≤ nI j from nI_le (a := 11) (by omega) (by omega)), if_neg h2, e, e2, if_pos g]
  · rw [if_neg (show ¬ nI j < 53 from nI_nlt (b := 53) (by omega) (by omega)), if_neg h]
theorem firstE {k i n len : Nat} (hk : k < 4) (hS : ShS s u k) (hin : i + n ≤ len) (hl : len ≤ 60) (el : u 2 k = nI len) : ∀ (m j : Nat), j ≤ n → n - j < m → fX3_firstFault_2 s k (nI i) (nI n) m (nI j) = some (ffn (fun j => u 3 (60 * k + i + j)) s (n - j) j) := by
  intro m
  induction m with
  | zero => intro j h1 h2; omega
  | succ m ih =>
    intro j h1 h2
    rw [fX3_firstFault_2]
    by_cases h : n ≤ j
    · have hc : nI n ≤ nI j := nI_le h (by omega)
      obtain rfl : j = n := by omega
      rw [if_pos hc, Nat.sub_self, ffn]
      split <;> rfl
    · have hc : ¬ nI n ≤ nI j := nI_ge (by omega) (by omega)
      have hr := readE (i := i + j) hk hS (by omega) hl el
      rw [if_neg hc, nI_add, hr, Option.bind_some, goesE (by omega), Option.bind_some, show n - j = (n - (j + 1)) + 1 by omega, ffn, nI_1, ← Nat.add_assoc, ih (j + 1) (by omega) (by omega)]
      by_cases h3 : j < 53
      · simp only [if_pos h3]
        split <;> rfl
      · simp only [if_neg h3, if_true]
theorem ff_go {T : Nat → Int32} {n j : Nat} (h : j < n) (h5 : j < 53) (ho : fX3_isOfSort (sr j) (T j) s = 1) : ffn T s (n - j) j = ffn T s (n - (j + 1)) (j + 1) := by
  rw [show n - j = (n - (j + 1)) + 1 by omega, ffn, if_pos h5, if_neg (by rw [ho]; decide)]
theorem ff_no {T : Nat → Int32} {n j : Nat} (hj : j ≤ n) (h1 : n ≤ j → fX3_isWhole (nI n) s = 0) (h2 : n ≤ j ∨ 53 ≤ j ∨ fX3_isOfSort (sr j) (T j) s = 0) : ffn T s (n - j) j = nI j := by
  by_cases h : n ≤ j
  · obtain rfl : j = n := by omega
    rw [Nat.sub_self, ffn, if_pos (h1 (Nat.le_refl _))]
  · rw [show n - j = (n - (j + 1)) + 1 by omega, ffn]
    rcases h2 with h2 | h2 | h2
    · omega
    · rw [if_neg (by omega)]
    · by_cases h3 : j < 53
      · rw [if_pos h3, if_pos h2]
      · rw [if_neg h3]
theorem whole_at {n : Nat} (hn : n ≤ 60) (s : Sg) : fX3_isWhole (nI n) s = if 18 ≤ n ∧ (n - 11) % 7 = 0 then 1 else 0 :=
  fin_lt (P := fun n => fX3_isWhole (nI n) (fun _ _ => 0) = if 18 ≤ n ∧ (n - 11) % 7 = 0 then 1 else 0) (N := 61) (by decide +kernel) (by omega)
/-! the reference reads it -/
def T0 (u : Sg) (B j : Nat) : Int32 := u 3 (B + j)
theorem Scr.c3 {ν : Sg} (h : Scr u ν) : ν 3 = u 3 := h.2 3 (by omega) (by omega) (by omega) (by omega) (by omega) (by omega)
theorem digE {B n j H : Nat} {hi κ : Int32} {ν : Sg} (hs : Scr u ν) (h20 : ν 0 20 = nI (B + j)) (hj : j ≤ n) (hB : B + n ≤ 240) (hH : H ≤ 9) (hh : (48 + hi).toInt = 48 + H) (hk : ∀ c, fX3_isOfSort κ c s = (if c < 48 then 0 else (if 48 + hi < c then 0 else 1))) :
    (j < n ∧ fX3_isOfSort κ (T0 u B j) s = 1 ∧ rg (T0 u B j - 48) H ∧ fX7_digit (nI (B + n)) 0 hi ν = some (T0 u B j - 48, up2 ν 0 20 (nI (B + (j + 1))))) ∨ ((n ≤ j ∨ fX3_isOfSort κ (T0 u B j) s = 0) ∧ fX7_digit (nI (B + n)) 0 hi ν = some (-9, ν)) := by
  unfold fX7_digit
  rw [h20, hs.c3]
  by_cases h : n ≤ j
  · right
    rw [if_pos (nI_le (by omega) (by omega))]
    exact ⟨Or.inl h, rfl⟩
  · have g := gIn_nI (t := B + j) (n := 240) (by omega) (by decide)
    rw [if_neg (nI_ge (by omega) (by omega)), nI_1, nI_pred, if_pos g, if_pos g, nI_clamp (by omega)]
    show _ ∨ (_ ∧ (if fX7_within (T0 u B j) (48 + 0) (48 + hi) ν = 0 then some (-9, ν) else some (T0 u B j - 48, up2 ν 0 20 (nI (B + j + 1)))) = _)
    have e48 : ((48 : Int32) + 0).toInt = 48 := by decide
    rcases wi (T0 u B j) (48 + 0) (48 + hi) ν with ⟨w, hw⟩ | ⟨w, w1, w2⟩
    · right
      refine ⟨Or.inr ?_, by rw [if_pos w]⟩
      rw [hk]
      by_cases a : T0 u B j < 48
      · rw [if_pos a]
      · rw [if_neg a, if_pos]
        rw [fa_lt, L_48] at a
        rw [fa_lt]
        omega
    · left
      rw [e48] at w1
      rw [hh] at w2
      refine ⟨by omega, ?_, ?_, ?_⟩
      · rw [hk, if_neg, if_neg]
        · rw [fa_lt]; omega
        · rw [fa_lt, L_48]; omega
      · rcases tri (T0 u B j) (49 + H) (by omega) with a | a | ⟨q, hq, e⟩
        · omega
        · omega
        · rw [e, nI_toInt (by omega)] at w1
          exact ⟨q - 48, by omega, by rw [e]; exact pk_sub (a := q) (b := 48) (by omega)⟩
      · show (if fX7_within (T0 u B j) (48 + 0) (48 + hi) ν = 0 then some (-9, ν) else some (T0 u B j - 48, up2 ν 0 20 (nI (B + j + 1)))) = _
        rw [if_neg (by rw [w]; decide), Nat.add_assoc]
theorem holE {B n j : Nat} {ν : Sg} (hs : Scr u ν) (h20 : ν 0 20 = nI (B + j)) (hj : j ≤ n) (hB : B + n ≤ 240) :
    (j < n ∧ fX3_isOfSort 104 (T0 u B j) s = 1 ∧ rg (T0 u B j - 48) 9 ∧ fX7_readHoles (nI (B + n)) ν = some (T0 u B j - 48, up2 ν 0 20 (nI (B + (j + 1))))) ∨ ((n ≤ j ∨ fX3_isOfSort 104 (T0 u B j) s = 0) ∧ fX7_readHoles (nI (B + n)) ν = some (-9, ν)) := by
  unfold fX7_readHoles fX7_readHoles_39
  rw [h20, hs.c3]
  by_cases h : n ≤ j
  · right
    rw [if_pos (nI_le (by omega) (by omega))]
    exact ⟨Or.inl h, rfl⟩
  · have g := gIn_nI (t := B + j) (n := 240) (by omega) (by decide)
    rw [if_neg (nI_ge (by omega) (by omega)), nI_1, nI_pred, if_pos g]
    simp only [if_pos g, nI_clamp (show B + j < 2 ^ 31 by omega)]
    have hk : ∀ c, fX3_isOfSort 104 c s = (if c = 50 then 1 else (if c = 52 then 1 else 0)) := fun c => rfl
    rw [hk, Nat.add_assoc]
    unfold T0
    by_cases a : u 3 (B + j) = 50
    · left
      rw [a]
      exact ⟨by omega, rfl, ⟨2, by omega, rfl⟩, rfl⟩
    · by_cases b : u 3 (B + j) = 52
      · left
        rw [b]
        exact ⟨by omega, rfl, ⟨4, by omega, rfl⟩, rfl⟩
      · right
        simp only [if_neg a, if_neg b]
        exact ⟨Or.inr trivial, trivial⟩
theorem sgE {B n j : Nat} {ν : Sg} (κ : Int32) (h9 : κ = 98 ∨ κ = 59) (hs : Scr u ν) (h20 : ν 0 20 = nI (B + j)) (hj : j ≤ n) (hB : B + n ≤ 240) :
    (j < n ∧ fX3_isOfSort κ (T0 u B j) s = 1 ∧ fX7_isSign (nI (B + n)) κ ν = some (1, up2 ν 0 20 (nI (B + (j + 1))))) ∨ ((n ≤ j ∨ fX3_isOfSort κ (T0 u B j) s = 0) ∧ fX7_isSign (nI (B + n)) κ ν = some (0, ν)) := by
  unfold fX7_isSign
  rw [h20, hs.c3]
  by_cases h : n ≤ j
  · right
    rw [if_pos (nI_le (by omega) (by omega))]
    exact ⟨Or.inl h, rfl⟩
  · have g := gIn_nI (t := B + j) (n := 240) (by omega) (by decide)
    rw [if_neg (nI_ge (by omega) (by omega)), nI_1, if_pos g, nI_clamp (by omega)]
    have hk : ∀ c, fX3_isOfSort κ c s = (if c = κ then 1 else 0) := fun c => by
      rcases h9 with rfl | rfl <;> rfl
    rw [hk, Nat.add_assoc]
    unfold T0
    by_cases a : u 3 (B + j) = κ
    · left
      rw [if_pos a, if_pos a]
      exact ⟨by omega, rfl, rfl⟩
    · right
      rw [if_neg a, if_neg a]
      exact ⟨Or.inr rfl, rfl⟩
end PUTL
