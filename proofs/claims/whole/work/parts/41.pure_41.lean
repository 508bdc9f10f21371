section PUTB
variable {σ μ s u : Sg}
/-! sets of TUBES as numbers below 64 -/
theorem fa_and (a b : Nat) : nI a &&& nI b = nI (a &&& b) := by
  apply Int32.toBitVec_inj.1
  show BitVec.ofNat 32 a &&& BitVec.ofNat 32 b = BitVec.ofNat 32 (a &&& b)
  apply BitVec.eq_of_getLsbD_eq
  intro i hi
  simp [BitVec.getLsbD_ofNat, hi]
theorem fa_or (a b : Nat) : nI a ||| nI b = nI (a ||| b) := by
  apply Int32.toBitVec_inj.1
  show BitVec.ofNat 32 a ||| BitVec.ofNat 32 b = BitVec.ofNat 32 (a ||| b)
  apply BitVec.eq_of_getLsbD_eq
  intro i hi
  simp [BitVec.getLsbD_ofNat, hi]
def mk (P : Nat → Bool) : Nat → Nat
  | 0 => 0
  | t + 1 => mk P t ||| (if P t then 2 ^ t else 0)
theorem mk_bit (P : Nat → Bool) (t i : Nat) : (mk P t).testBit i = (decide (i < t) && P i) := by
  induction t with
  | zero => simp [mk]
  | succ t ih =>
    rw [mk, Nat.testBit_or, ih]
    by_cases hp : P t = true
    · simp only [hp, if_true, Nat.testBit_two_pow]
      by_cases e : t = i
      · subst e; simp [hp]
      · have : (i < t + 1) ↔ (i < t) := by omega
        simp [e, this]
    · simp only [hp]
      by_cases e : i = t
      · subst e; simp [hp]
      · have : (i < t + 1) ↔ (i < t) := by omega
        simp [this]
theorem mk_lt (P : Nat → Bool) (t : Nat) : mk P t < 2 ^ t := by
  apply Nat.lt_pow_two_of_testBit
  intro i hi
  rw [mk_bit]
  simp; omega
theorem bit_at : ∀ L : Fin 64, ∀ t : Fin 6, ((nI L.val >>> (nI t.val &&& 31)) &&& 1) = (if L.val.testBit t.val then 1 else 0) := by decide +kernel
theorem one_sh : ∀ t : Fin 6, (1 : Int32) <<< (nI t.val &&& 31) = nI (2 ^ t.val) := by decide +kernel
theorem clr : ∀ L : Fin 64, ∀ t : Fin 6, nI L.val &&& (((1 : Int32) <<< (nI t.val &&& 31)) ^^^ (-1)) = nI (L.val &&& (63 - 2 ^ t.val)) := by decide +kernel
theorem bit63 : ∀ t : Fin 6, ∀ i : Fin 6, (63 - 2 ^ t.val).testBit i.val = decide (t.val ≠ i.val) := by decide +kernel
theorem all_set : ∀ N : Fin 7, ((1 : Int32) <<< (nI N.val &&& 31)) - 1 = nI (2 ^ N.val - 1) := by decide +kernel
def popc (L : Nat) : Nat := L % 2 + L / 2 % 2 + L / 4 % 2 + L / 8 % 2 + L / 16 % 2 + L / 32 % 2
theorem bc_all : ∀ L : Fin 64, fJ6_bitCount_0f7a4 (nI L.val) (fun _ _ => 0) = nI (popc L.val) := by decide +kernel
theorem bcE {L : Nat} (hL : L < 64) (σ : Sg) : fJ6_bitCount_0f7a4 (nI L) σ = nI (popc L) := bc_all ⟨L, hL⟩
theorem half_all : ∀ L : Fin 64, (nI L.val &&& 1) = nI (L.val % 2) ∧ (nI L.val >>> ((1 : Int32) &&& 31)) = nI (L.val / 2) := by decide +kernel
theorem popc_half {L : Nat} (h : L < 64) : popc L = L % 2 + popc (L / 2) := by
  unfold popc
  omega
theorem bits_loop (σ : Sg) : ∀ (m L a : Nat), L < 64 → L < m → fX7_bits_4 σ m (nI a) (nI L) = some (nI (a + popc L)) := by
  intro m
  induction m with
  | zero => intro L a h1 h2; omega
  | succ m ih =>
    intro L a h1 h2
    rw [fX7_bits_4]
    by_cases h : L = 0
    · subst h
      rw [if_pos (by decide)]
      rfl
    · rw [if_neg (nI_nle (by omega) (by omega)), (half_all ⟨L, h1⟩).1, (half_all ⟨L, h1⟩).2, nI_add]
      rw [ih (L / 2) (a + L % 2) (by omega) (by omega), popc_half h1, Nat.add_assoc]
theorem bitsE {L : Nat} (hL : L < 64) (σ : Sg) : fX7_bits (nI L) σ = some (nI (popc L)) := by
  have := bits_loop σ 1000 L 0 hL (by omega)
  rw [nI_0, Nat.zero_add] at this
  exact this
/-! one sign -/
theorem soE (hI : Inv s u) {t : Nat} (ht : t < 6) (g : Int32) : fX7_looksSo (nI t) g u = some (fX2_signFits t g s) ∧ (fX2_signFits t g s = 0 ∨ fX2_signFits t g s = 1) := by
  have hT := hI.tube ht
  have hg := gIn_nI (t := t) (n := 6) (by omega) (by decide)
  unfold fX7_looksSo fX2_signFits
  rw [(lkC hI ht).1, (lkS hI ht).1, (remC hI).1, (remS hI).1, hT.2.2.2.1.1, hI.holes]
  simp only [Option.bind_some, if_pos hg, nI_clamp (show t < 2 ^ 31 by omega)]
  repeat' split
  all_goals exact ⟨rfl, by decide⟩
def pf (s : Sg) (g : Int32) (t : Nat) : Bool := decide (¬ fX2_signFits t g s = 0)
theorem and_mk_step (L M t : Nat) (b : Bool) : L &&& (M ||| (if b then 2 ^ t else 0)) = if L.testBit t && b then (L &&& M) ||| 2 ^ t else L &&& M := by
  cases b with
  | false => simp
  | true =>
    simp only [if_true, Bool.and_true]
    apply Nat.eq_of_testBit_eq
    intro i
    by_cases hb : L.testBit t = true
    · simp only [hb, if_true, Nat.testBit_and, Nat.testBit_or, Nat.testBit_two_pow]
      by_cases e : t = i
      · subst e; simp [hb]
      · simp [e]
    · simp only [hb, Nat.testBit_and, Nat.testBit_or, Nat.testBit_two_pow]
      by_cases e : t = i
      · subst e; simp [hb]
      · simp [e]
theorem sift_loop (hI : Inv s u) {N L : Nat} (hN : N ≤ 6) (en : u 0 10 = nI N) (hL : L < 64) (g : Int32) : ∀ (m t : Nat), t ≤ N → N - t < m → fX2_sifted_5 s (nI L) g m (nI (L &&& mk (pf s g) t)) (nI t) = some (nI (L &&& mk (pf s g) N)) := by
  intro m
  induction m with
  | zero => intro t h1 h2; omega
  | succ m ih =>
    intro t h1 h2
    rw [fX2_sifted_5, hI.n, en]
    by_cases h : N ≤ t
    · have hc : nI N ≤ nI t := nI_le h (by omega)
      obtain rfl : t = N := by omega
      rw [if_pos hc]
    · have hc : ¬ nI N ≤ nI t := nI_ge (by omega) (by omega)
      have hg := gIn_nI (t := t) (n := 6) (by omega) (by decide)
      have hih := ih (t + 1) (by omega) (by omega)
      rw [mk, and_mk_step] at hih
      rw [if_neg hc, bit_at ⟨L, hL⟩ ⟨t, by omega⟩, if_pos hg, one_sh ⟨t, by omega⟩, fa_or, nI_1]
      simp only [nI_clamp (show t < 2 ^ 31 by omega)]
      by_cases hb : L.testBit t = true
      · simp only [hb, if_true, if_neg (show ¬ (1 : Int32) = 0 by decide)]
        by_cases hf : fX2_signFits t g s = 0
        · have : pf s g t = false := by simp [pf, hf]
          simp only [this, Bool.and_false] at hih
          rw [if_pos hf]
          exact hih
        · have : pf s g t = true := by simp [pf, hf]
          simp only [this, hb, Bool.and_true, if_true] at hih
          rw [if_neg hf]
          exact hih
      · have hb2 : L.testBit t = false := by simpa using hb
        simp only [hb2, Bool.false_and] at hih
        simp only [hb2]
        exact hih
theorem siftE (hI : Inv s u) {N L : Nat} (hN : N ≤ 6) (en : u 0 10 = nI N) (hL : L < 64) (g : Int32) : fX2_sifted (nI L) g s = some (nI (L &&& mk (pf s g) N)) := by
  have := sift_loop hI hN en hL g 1000 0 (by omega) (by omega)
  rw [mk, Nat.and_zero, nI_0] at this
  exact this
theorem msift_loop {N L k : Nat} (hN : N ≤ 6) (hL : L < 2 ^ N) (hk : k < 3) {K : Int32 → Int32 → Sg → Option (Int32 × Sg)} {ν : Sg} (hI : Inv s ν) (en : ν 0 10 = nI N) {g : Int32} (eg : ν 13 k = g) : ∀ (m t : Nat), t ≤ N → N - t < m → fX7_sieveAll_39 (nI k) K m (nI (L &&& (mk (pf s g) t ||| (64 - 2 ^ t)))) (nI t) ν = K (nI (L &&& mk (pf s g) N)) (nI (k + 1)) ν := by
  have hL64 : L < 64 := Nat.lt_of_lt_of_le hL (Nat.pow_le_pow_right (n := 2) (by decide) hN : 2 ^ N ≤ 2 ^ 6)
  intro m
  induction m with
  | zero => intro t h1 h2; omega
  | succ m ih =>
    intro t h1 h2
    rw [fX7_sieveAll_39, en]
    by_cases h : N ≤ t
    · have hc : nI N ≤ nI t := nI_le h (by omega)
      obtain rfl : t = N := by omega
      rw [if_pos hc, nI_1]
      congr 2
      apply Nat.eq_of_testBit_eq
      intro i
      simp only [Nat.testBit_and, Nat.testBit_or, mk_bit]
      by_cases hi : i < t
      · have : (64 - 2 ^ t).testBit i = false := by
          have := fin_lt (P := fun t => ∀ i : Fin 6, i.val < t → (64 - 2 ^ t).testBit i.val = false) (N := 7) (by decide +kernel) (i := t) (by omega) ⟨i, by omega⟩ hi
          exact this
        simp [hi, this]
      · have : L.testBit i = false := Nat.testBit_lt_two_pow (Nat.lt_of_lt_of_le hL (Nat.pow_le_pow_right (by decide) (by omega)))
        simp [this]
    · have hc : ¬ nI N ≤ nI t := nI_ge (by omega) (by omega)
      have hg := gIn_nI (t := k) (n := 3) (by omega) (by decide)
      have hih := ih (t + 1) (by omega) (by omega)
      obtain ⟨q1, q2⟩ := soE hI (t := t) (by omega) g
      rw [if_neg hc, if_pos hg]
      simp only [nI_clamp (show k < 2 ^ 31 by omega), eg, q1, Option.bind_some, nI_1]
      have hlt : L &&& (mk (pf s g) t ||| (64 - 2 ^ t)) < 64 := Nat.lt_of_le_of_lt Nat.and_le_left hL64
      rcases q2 with q2 | q2
      · rw [if_pos q2, clr ⟨_, hlt⟩ ⟨t, by omega⟩]
        rw [← hih]
        congr 2
        apply Nat.eq_of_testBit_eq
        intro i
        by_cases hi : i < 6
        · have b1 := bit63 ⟨t, by omega⟩ ⟨i, hi⟩
          have b2 := fin_lt (P := fun t => ∀ i : Fin 6, (64 - 2 ^ t).testBit i.val = decide (t ≤ i.val)) (N := 7) (by decide +kernel) (i := t) (by omega) ⟨i, hi⟩
          have b3 := fin_lt (P := fun t => ∀ i : Fin 6, (64 - 2 ^ t).testBit i.val = decide (t ≤ i.val)) (N := 7) (by decide +kernel) (i := t + 1) (by omega) ⟨i, hi⟩
          dsimp only at b1 b2 b3
          simp only [Nat.testBit_and, Nat.testBit_or, mk_bit, b1, b2, b3, pf]
          by_cases e : t = i
          · subst e; simp [q2]
          · by_cases hlt2 : i < t
            · simp [e, hlt2, show i < t + 1 by omega, show ¬ t ≤ i by omega, show ¬ t + 1 ≤ i by omega]
            · simp [e, hlt2, show ¬ i < t + 1 by omega, show t ≤ i by omega, show t + 1 ≤ i by omega]
        · have : L.testBit i = false := Nat.testBit_lt_two_pow (Nat.lt_of_lt_of_le hL64 (Nat.pow_le_pow_right (n := 2) (by decide) (by omega) : 2 ^ 6 ≤ 2 ^ i))
          simp [this]
      · rw [if_neg (by rw [q2]; decide), fa_and, Nat.and_self]
        rw [← hih]
        congr 2
        apply Nat.eq_of_testBit_eq
        intro i
        by_cases hi : i < 6
        · have b2 := fin_lt (P := fun t => ∀ i : Fin 6, (64 - 2 ^ t).testBit i.val = decide (t ≤ i.val)) (N := 7) (by decide +kernel) (i := t) (by omega) ⟨i, hi⟩
          have b3 := fin_lt (P := fun t => ∀ i : Fin 6, (64 - 2 ^ t).testBit i.val = decide (t ≤ i.val)) (N := 7) (by decide +kernel) (i := t + 1) (by omega) ⟨i, hi⟩
          dsimp only at b2 b3
          simp only [Nat.testBit_and, Nat.testBit_or, mk_bit, b2, b3, pf]
          by_cases e : t = i
          · subst e; simp [q2]
          · by_cases hlt2 : i < t
            · simp [e, hlt2, show i < t + 1 by omega, show ¬ t ≤ i by omega, show ¬ t + 1 ≤ i by omega]
            · simp [e, hlt2, show ¬ i < t + 1 by omega, show t ≤ i by omega, show t + 1 ≤ i by omega]
        · have : L.testBit i = false := Nat.testBit_lt_two_pow (Nat.lt_of_lt_of_le hL64 (Nat.pow_le_pow_right (n := 2) (by decide) (by omega) : 2 ^ 6 ≤ 2 ^ i))
          simp [this]
end PUTB
