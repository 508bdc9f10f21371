section PUTM
variable {σ μ s u : Sg} {B n : Nat}
def Fl (s u : Sg) (B n : Nat) (ν : Sg) : Prop := ∃ j, j ≤ n ∧ ν 0 20 = nI (B + j) ∧ ffn (T0 u B) s n 0 = nI j ∧ Scr u ν
def D0 (u : Sg) (B j : Nat) : Int32 := T0 u B j - 48
def HF (u : Sg) (B : Nat) (ν : Sg) (q : Nat) : Prop := ∀ p, p < q → ν 11 p = D0 u B (1 + p) ∧ rg (D0 u B (1 + p)) (if p = 0 then 7 else 9)
theorem sr_h : ∀ q : Fin 10, sr (1 + q.val) = (if q.val = 2 then 104 else if q.val = 0 then 99 else 100) := by decide +kernel
theorem sr_t : ∀ t : Fin 6, sr (11 + 7 * t.val) = 59 ∧ sr (12 + 7 * t.val) = 107 ∧ ∀ x : Fin 6, 1 ≤ x.val → sr (12 + 7 * t.val + x.val) = (if x.val = 3 then 104 else if x.val = 1 then 99 else 100) := by decide +kernel
theorem k99 (s : Sg) (c : Int32) : fX3_isOfSort 99 c s = (if c < 48 then 0 else (if 48 + 7 < c then 0 else 1)) := rfl
theorem k100 (s : Sg) (c : Int32) : fX3_isOfSort 100 c s = (if c < 48 then 0 else (if 48 + 9 < c then 0 else 1)) := rfl
theorem rg_m9 {x : Int32} {n : Nat} (h : rg x n) (hn : n ≤ 9) : ¬ x = -9 := by
  obtain ⟨k, hk, rfl⟩ := h
  exact fin_lt (P := fun k => ¬ nI k = -9) (N := 10) (by decide +kernel) (by omega)
/-- one field: a colour, holes, or a number -/
theorem fieldE {j : Nat} {ν : Sg} (three one : Prop) [Decidable three] [Decidable one] (hx : ¬ (three ∧ one)) (hs : Scr u ν) (h20 : ν 0 20 = nI (B + j)) (hj : j ≤ n) (hB : B + n ≤ 240) :
    (j < n ∧ fX3_isOfSort (if three then 104 else if one then 99 else 100) (T0 u B j) s = 1 ∧ rg (D0 u B j) (if one then 7 else 9) ∧ (if three then fX7_readHoles (nI (B + n)) ν else if one then fX7_digit (nI (B + n)) 0 7 ν else fX7_digit (nI (B + n)) 0 9 ν) = some (D0 u B j, up2 ν 0 20 (nI (B + (j + 1))))) ∨ ((n ≤ j ∨ fX3_isOfSort (if three then 104 else if one then 99 else 100) (T0 u B j) s = 0) ∧ (if three then fX7_readHoles (nI (B + n)) ν else if one then fX7_digit (nI (B + n)) 0 7 ν else fX7_digit (nI (B + n)) 0 9 ν) = some (-9, ν)) := by
  unfold D0
  by_cases h3 : three
  · have h1 : ¬ one := fun q => hx ⟨h3, q⟩
    simp only [if_pos h3, if_neg h1]
    exact holE hs h20 hj hB
  · by_cases h1 : one
    · simp only [if_neg h3, if_pos h1]
      exact digE (H := 7) (hi := 7) (κ := 99) hs h20 hj hB (by omega) (by decide) (k99 s)
    · simp only [if_neg h3, if_neg h1]
      exact digE (H := 9) (hi := 9) (κ := 100) hs h20 hj hB (by omega) (by decide) (k100 s)
theorem nI_is {a b : Nat} (ha : a < 2 ^ 31) (hb : b < 2 ^ 31) : (nI a = nI b) = (a = b) := propext (nI_eq ha hb)
theorem rs19 (hB : B + n ≤ 240) (hn : n ≤ 60) : ∀ (e q m : Nat) (ν : Sg), e + q = 10 → e < m → Scr u ν → ν 0 20 = nI (B + (1 + q)) → 1 + q ≤ n → ffn (T0 u B) s n 0 = ffn (T0 u B) s (n - (1 + q)) (1 + q) → HF u B ν q → ν 0 21 = 0 → (∃ ν', fX7_readShop_19 (nI (B + n)) m (nI q) ν = some (0, ν') ∧ Fl s u B n ν') ∨ (∃ ν', fX7_readShop_19 (nI (B + n)) m (nI q) ν = fX7_readShop_80 (nI (B + n)) 1000 ν' ∧ Scr u ν' ∧ ν' 0 20 = nI (B + 11) ∧ 11 ≤ n ∧ ffn (T0 u B) s n 0 = ffn (T0 u B) s (n - 11) 11 ∧ HF u B ν' 10 ∧ ν' 0 21 = 0) := by
  intro e
  induction e with
  | zero =>
    intro q m ν h1 h2 hs h20 hq hF hH h21
    obtain ⟨m, rfl⟩ : ∃ k, m = k + 1 := ⟨m - 1, by omega⟩
    obtain rfl : q = 10 := by omega
    right
    rw [fX7_readShop_19, if_pos (show (10 : Int32) ≤ nI 10 from by decide)]
    exact ⟨ν, rfl, hs, h20, hq, hF, hH, h21⟩
  | succ e ih =>
    intro q m ν h1 h2 hs h20 hq hF hH h21
    obtain ⟨m, rfl⟩ : ∃ k, m = k + 1 := ⟨m - 1, by omega⟩
    have g := gIn_nI (t := q) (n := 10) (by omega) (by decide)
    have hr : fX7_readShop_19 (nI (B + n)) (m + 1) (nI q) ν = ((if q = 2 then fX7_readHoles (nI (B + n)) ν else if q = 0 then fX7_digit (nI (B + n)) 0 7 ν else fX7_digit (nI (B + n)) 0 9 ν).bind fun z => fX7_readShop_60 (nI (B + n)) (fX7_readShop_19 (nI (B + n)) m) (nI q) z.1 (nI q) z.2) := by
      rw [fX7_readShop_19, if_neg (show ¬ (10 : Int32) ≤ nI q from nI_ge (b := 10) (by omega) (by omega))]
      by_cases a : q = 2
      · subst a; rfl
      · by_cases b : q = 0
        · subst b; rfl
        · rw [if_neg (show ¬ nI q = 2 from fun z => a ((nI_eq (b := 2) (by omega) (by omega)).mp z)), if_neg (show ¬ nI q = 0 from nI_ne0 (by omega) (by omega)), if_neg a, if_neg b]
    rw [hr]
    have hsr : sr (1 + q) = _ := sr_h ⟨q, by omega⟩
    dsimp only at hsr
    rcases fieldE (s := s) (j := 1 + q) (q = 2) (q = 0) (by omega) hs h20 hq hB with ⟨a1, a2, a3, a4⟩ | ⟨a1, a2⟩
    · rw [a4, Option.bind_some]
      unfold fX7_readShop_60
      simp only [if_pos g, nI_clamp (show q < 2 ^ 31 by omega), up_eq]
      rw [if_neg (rg_m9 a3 (by split <;> omega)), nI_1]
      rw [← hsr] at a2
      exact ih (q + 1) m _ (by omega) (by omega) ((hs.up0 (k := 20) (by omega) _).upc (a := 11) (by omega) _ _) (by rw [up_nc (by omega), up_eq, Nat.add_assoc]) (by omega) (by rw [hF, ff_go a1 (by omega) a2, Nat.add_assoc]) (fun p hp => by
        by_cases ep : p = q
        · subst ep; rw [up_eq]; exact ⟨rfl, a3⟩
        · rw [up_nk ep, up_nc (by omega)]; exact hH p (by omega)) (by rw [up_nc (by omega), up_nk (by omega)]; exact h21)
    · left
      rw [a2, Option.bind_some]
      unfold fX7_readShop_60
      simp only [if_pos g, nI_clamp (show q < 2 ^ 31 by omega), up_eq, if_true]
      refine ⟨_, rfl, 1 + q, hq, by rw [up_nc (by omega)]; exact h20, ?_, hs.upc (a := 11) (by omega) _ _⟩
      rw [← hsr] at a1
      rw [hF]
      refine ff_no hq (fun z => ?_) (a1.imp id Or.inr)
      rw [whole_at hn, if_neg (by omega)]
end PUTM
