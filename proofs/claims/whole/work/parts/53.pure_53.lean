section PUTN
variable {σ μ s u : Sg} {B n : Nat}
def kd (c : Int32) : Int32 := if c = 111 then 2 else (if c = 115 then 1 else 0)
def TF (u : Sg) (B : Nat) (ν : Sg) (r : Nat) : Prop := ν 12 (6 * r) = kd (T0 u B (12 + 7 * r)) ∧ ∀ c, 1 ≤ c → c ≤ 5 → ν 12 (6 * r + c) = D0 u B (12 + 7 * r + c) ∧ rg (D0 u B (12 + 7 * r + c)) (if c = 1 then 7 else 9)
theorem TF.congr {ν ν' : Sg} {r : Nat} (h : TF u B ν r) (e : ∀ c, c ≤ 5 → ν' 12 (6 * r + c) = ν 12 (6 * r + c)) : TF u B ν' r := by
  refine ⟨?_, fun c h1 h2 => ?_⟩
  · have := e 0 (by omega)
    rw [Nat.add_zero] at this
    rw [this]; exact h.1
  · rw [e c h2]; exact h.2 c h1 h2
def Td (s u : Sg) (B n t : Nat) (ν : Sg) : Prop := Scr u ν ∧ ν 0 20 = nI (B + (11 + 7 * t)) ∧ 11 + 7 * t ≤ n ∧ ffn (T0 u B) s n 0 = ffn (T0 u B) s (n - (11 + 7 * t)) (11 + 7 * t) ∧ ν 0 21 = nI t ∧ (∀ r, r < t → TF u B ν r) ∧ HF u B ν 10
theorem HF.congr {ν ν' : Sg} {q : Nat} (h : HF u B ν q) (e : ν' 11 = ν 11) : HF u B ν' q := fun p hp => by rw [e]; exact h p hp
theorem rt94 (hB : B + n ≤ 240) (hn : n ≤ 60) {t : Nat} (ht : t < 6) : ∀ (e x m : Nat) (ν : Sg), e + x = 6 → 1 ≤ x → e < m → Scr u ν → ν 0 20 = nI (B + (12 + 7 * t + x)) → 12 + 7 * t + x ≤ n → ffn (T0 u B) s n 0 = ffn (T0 u B) s (n - (12 + 7 * t + x)) (12 + 7 * t + x) → ν 12 (6 * t) = kd (T0 u B (12 + 7 * t)) → (∀ c, 1 ≤ c → c < x → ν 12 (6 * t + c) = D0 u B (12 + 7 * t + c) ∧ rg (D0 u B (12 + 7 * t + c)) (if c = 1 then 7 else 9)) → ν 0 21 = nI t → (∀ r, r < t → TF u B ν r) → HF u B ν 10 → (∃ ν', fX7_readTube_94 (nI (B + n)) (nI (6 * t)) m (nI x) ν = some (0, ν') ∧ Fl s u B n ν') ∨ (∃ ν', fX7_readTube_94 (nI (B + n)) (nI (6 * t)) m (nI x) ν = some (1, ν') ∧ Td s u B n (t + 1) ν') := by
  intro e
  induction e with
  | zero =>
    intro x m ν h1 hx h2 hs h20 hq hF hk hc h21 hT hH
    obtain ⟨m, rfl⟩ : ∃ k, m = k + 1 := ⟨m - 1, by omega⟩
    obtain rfl : x = 6 := by omega
    right
    rw [fX7_readTube_94, if_pos (show (6 : Int32) ≤ nI 6 from by decide), h21, nI_1]
    rw [show 12 + 7 * t + 6 = 11 + 7 * (t + 1) by omega] at h20 hq hF
    refine ⟨_, rfl, hs.up0 (k := 21) (by omega) _, by rw [up_nk (by omega)]; exact h20, hq, hF, up_eq _ _ _ _, fun r hr => ?_, hH.congr (up_nc (by omega))⟩
    by_cases er : r = t
    · subst er
      refine ⟨by rw [up_nc (by omega)]; exact hk, fun c c1 c2 => ?_⟩
      rw [up_nc (by omega)]; exact hc c c1 (by omega)
    · exact (hT r (by omega)).congr (fun c _ => by rw [up_nc (by omega)])
  | succ e ih =>
    intro x m ν h1 hx h2 hs h20 hq hF hk hc h21 hT hH
    obtain ⟨m, rfl⟩ : ∃ k, m = k + 1 := ⟨m - 1, by omega⟩
    have g := gIn_nI (t := 6 * t + x) (n := 36) (by omega) (by decide)
    have hr : fX7_readTube_94 (nI (B + n)) (nI (6 * t)) (m + 1) (nI x) ν = ((if x = 3 then fX7_readHoles (nI (B + n)) ν else if x = 1 then fX7_digit (nI (B + n)) 0 7 ν else fX7_digit (nI (B + n)) 0 9 ν).bind fun z => fX7_readTube_142 (nI (B + n)) (nI (6 * t)) (fX7_readTube_94 (nI (B + n)) (nI (6 * t)) m) (nI x) z.1 (nI (6 * t) + nI x) z.2) := by
      rw [fX7_readTube_94, if_neg (show ¬ (6 : Int32) ≤ nI x from nI_ge (b := 6) (by omega) (by omega))]
      by_cases a : x = 3
      · subst a; rfl
      · by_cases b : x = 1
        · subst b; rfl
        · rw [if_neg (show ¬ nI x = 3 from fun z => a ((nI_eq (b := 3) (by omega) (by omega)).mp z)), if_neg (show ¬ nI x = 1 from fun z => b ((nI_eq (b := 1) (by omega) (by omega)).mp z)), if_neg a, if_neg b]
    rw [hr]
    have hsr : sr (12 + 7 * t + x) = _ := (sr_t ⟨t, ht⟩).2.2 ⟨x, by omega⟩ hx
    dsimp only at hsr
    rcases fieldE (s := s) (j := 12 + 7 * t + x) (x = 3) (x = 1) (by omega) hs h20 hq hB with ⟨a1, a2, a3, a4⟩ | ⟨a1, a2⟩
    · rw [a4, Option.bind_some]
      unfold fX7_readTube_142
      simp only [nI_add, if_pos g, nI_clamp (show 6 * t + x < 2 ^ 31 by omega), up_eq]
      rw [if_neg (rg_m9 a3 (by split <;> omega)), nI_1]
      rw [← hsr] at a2
      exact ih (x + 1) m _ (by omega) (by omega) (by omega) ((hs.up0 (k := 20) (by omega) _).upc (a := 12) (by omega) _ _) (by rw [up_nc (by omega), up_eq, Nat.add_assoc (12 + 7 * t)]) (by omega) (by rw [hF, ff_go a1 (by omega) a2, Nat.add_assoc (12 + 7 * t)]) (by rw [up_nk (by omega), up_nc (by omega)]; exact hk) (fun c c1 c2 => by
        by_cases ec : c = x
        · subst ec; rw [up_eq]; exact ⟨rfl, a3⟩
        · rw [up_nk (by omega), up_nc (by omega)]; exact hc c c1 (by omega)) (by rw [up_nc (by omega), up_nk (by omega)]; exact h21) (fun r hr2 => (hT r hr2).congr (fun c hc5 => by rw [up_nk (by omega), up_nc (by omega)])) (hH.congr (by rw [up_nc (by omega), up_nc (by omega)]))
    · left
      rw [a2, Option.bind_some]
      unfold fX7_readTube_142
      simp only [nI_add, if_pos g, nI_clamp (show 6 * t + x < 2 ^ 31 by omega), up_eq, if_true]
      refine ⟨_, rfl, 12 + 7 * t + x, hq, by rw [up_nc (by omega)]; exact h20, ?_, hs.upc (a := 12) (by omega) _ _⟩
      rw [← hsr] at a1
      rw [hF]
      refine ff_no hq (fun z => ?_) (a1.imp id Or.inr)
      rw [whole_at hn, if_neg (by omega)]
/-- one TUBE's kind -/
theorem kindE (s : Sg) (c : Int32) : (fX3_isOfSort 107 c s = 1 ∧ ((c = 116 ∧ kd c = 0) ∨ (c = 115 ∧ kd c = 1) ∨ (c = 111 ∧ kd c = 2))) ∨ (fX3_isOfSort 107 c s = 0 ∧ ¬ c = 116 ∧ ¬ c = 115 ∧ ¬ c = 111) := by
  have hk : fX3_isOfSort 107 c s = (if c = 116 then 1 else (if c = 115 then 1 else (if c = 111 then 1 else 0))) := rfl
  rw [hk]
  by_cases a : c = 116
  · subst a; exact Or.inl ⟨rfl, Or.inl ⟨rfl, rfl⟩⟩
  · by_cases b : c = 115
    · subst b; exact Or.inl ⟨rfl, Or.inr (Or.inl ⟨rfl, rfl⟩)⟩
    · by_cases d : c = 111
      · subst d; exact Or.inl ⟨rfl, Or.inr (Or.inr ⟨rfl, rfl⟩)⟩
      · right; rw [if_neg a, if_neg b, if_neg d]; exact ⟨rfl, a, b, d⟩
theorem rtube (hB : B + n ≤ 240) (hn : n ≤ 60) {t : Nat} (ht : t < 6) {ν : Sg} (hs : Scr u ν) (h20 : ν 0 20 = nI (B + (12 + 7 * t))) (hq : 12 + 7 * t ≤ n) (hF : ffn (T0 u B) s n 0 = ffn (T0 u B) s (n - (12 + 7 * t)) (12 + 7 * t)) (h21 : ν 0 21 = nI t) (hT : ∀ r, r < t → TF u B ν r) (hH : HF u B ν 10) : (∃ ν', fX7_readTube (nI (B + n)) ν = some (0, ν') ∧ Fl s u B n ν') ∨ (∃ ν', fX7_readTube (nI (B + n)) ν = some (1, ν') ∧ Td s u B n (t + 1) ν') := by
  have e6 : 6 * ν 0 21 = nI (6 * t) := by rw [h21, show (6 : Int32) = nI 6 from rfl, pk_mul]
  have g36 := gIn_nI (t := 6 * t) (n := 36) (by omega) (by decide)
  have hsr : sr (12 + 7 * t) = 107 := (sr_t ⟨t, ht⟩).2.1
  have bad : (n ≤ 12 + 7 * t ∨ fX3_isOfSort 107 (T0 u B (12 + 7 * t)) s = 0) → ∃ ν', fX7_readTube_67 (nI (B + n)) (nI (6 * t)) (-9) (nI (6 * t)) ν = some (0, ν') ∧ Fl s u B n ν' := by
    intro hb
    unfold fX7_readTube_67
    simp only [if_pos g36, nI_clamp (show 6 * t < 2 ^ 31 by omega), up_eq, if_true]
    refine ⟨_, rfl, 12 + 7 * t, hq, by rw [up_nc (by omega)]; exact h20, ?_, hs.upc (a := 12) (by omega) _ _⟩
    rw [hF]
    rw [← hsr] at hb
    refine ff_no hq (fun z => ?_) (hb.imp id Or.inr)
    rw [whole_at hn, if_neg (by omega)]
  have good : ∀ v : Int32, 12 + 7 * t < n → fX3_isOfSort 107 (T0 u B (12 + 7 * t)) s = 1 → ¬ v = -9 → kd (T0 u B (12 + 7 * t)) = v → (∃ ν', fX7_readTube_67 (nI (B + n)) (nI (6 * t)) v (nI (6 * t)) ν = some (0, ν') ∧ Fl s u B n ν') ∨ (∃ ν', fX7_readTube_67 (nI (B + n)) (nI (6 * t)) v (nI (6 * t)) ν = some (1, ν') ∧ Td s u B n (t + 1) ν') := by
    intro v h1 h2 h3 h4
    unfold fX7_readTube_67
    simp only [if_pos g36, nI_clamp (show 6 * t < 2 ^ 31 by omega), up_eq, if_neg h3, h20, nI_1]
    rw [← hsr] at h2
    exact rt94 hB hn ht 5 1 1000 _ (by omega) (by omega) (by omega) ((hs.upc (a := 12) (by omega) _ _).up0 (k := 20) (by omega) _) (by rw [up_eq, Nat.add_assoc B]) (by omega) (by rw [hF, ff_go h1 (by omega) h2]) (by rw [up_nc (by omega), up_eq]; exact h4.symm) (fun c c1 c2 => by omega) (by rw [up_nk (by omega), up_nc (by omega)]; exact h21) (fun r hr => (hT r hr).congr (fun c hc => by rw [up_nc (by omega), up_nk (by omega)])) (hH.congr (by rw [up_nc (by omega), up_nc (by omega)]))
  unfold fX7_readTube
  rw [e6, h20]
  by_cases h : n ≤ 12 + 7 * t
  · left
    rw [if_pos (nI_le (by omega) (by omega))]
    obtain ⟨ν', b1, b2⟩ := bad (Or.inl h)
    exact ⟨ν', b1, b2⟩
  · have g := gIn_nI (t := B + (12 + 7 * t)) (n := 240) (by omega) (by decide)
    rw [if_neg (nI_ge (by omega) (by omega)), if_pos g, nI_clamp (by omega), hs.c3]
    show (∃ ν', fX7_readTube_29 (nI (B + n)) (nI (6 * t)) (T0 u B (12 + 7 * t)) ν = _ ∧ _) ∨ (∃ ν', fX7_readTube_29 (nI (B + n)) (nI (6 * t)) (T0 u B (12 + 7 * t)) ν = _ ∧ _)
    unfold fX7_readTube_29
    rcases kindE s (T0 u B (12 + 7 * t)) with ⟨k1, ⟨k2, k3⟩ | ⟨k2, k3⟩ | ⟨k2, k3⟩⟩ | ⟨k1, k2, k3, k4⟩
    · simp only [if_pos k2]
      exact good 0 (by omega) k1 (by decide) k3
    · simp only [if_neg (show ¬ T0 u B (12 + 7 * t) = 116 by rw [k2]; decide), if_pos k2]
      exact good 1 (by omega) k1 (by decide) k3
    · simp only [if_neg (show ¬ T0 u B (12 + 7 * t) = 116 by rw [k2]; decide), if_neg (show ¬ T0 u B (12 + 7 * t) = 115 by rw [k2]; decide), if_pos k2]
      exact good 2 (by omega) k1 (by decide) k3
    · simp only [if_neg k2, if_neg k3, if_neg k4]
      exact Or.inl (bad (Or.inr k1))
/-- all TUBES -/
theorem rs80 (hB : B + n ≤ 240) (hn : n ≤ 60) : ∀ (e t m : Nat) (ν : Sg), e + t = 6 → e < m → Td s u B n t ν → (∃ ν', fX7_readShop_80 (nI (B + n)) m ν = some (0, ν') ∧ Fl s u B n ν') ∨ (∃ (ν' : Sg) (t' : Nat), fX7_readShop_80 (nI (B + n)) m ν = some (1, ν') ∧ Td s u B n t' ν' ∧ 1 ≤ t' ∧ t' ≤ 6 ∧ n = 11 + 7 * t') := by
  intro e
  induction e with
  | zero =>
    intro t m ν h1 h2 hD
    obtain ⟨m, rfl⟩ : ∃ k, m = k + 1 := ⟨m - 1, by omega⟩
    obtain rfl : t = 6 := by omega
    have hD' := hD
    obtain ⟨hs, h20, hq, hF, h21, hT, hH⟩ := hD
    rw [fX7_readShop_80, h21, if_neg (by decide), if_pos (by decide)]
    unfold fX7_readShop_124
    rw [h20]
    by_cases h : n = 53
    · right
      subst h
      rw [if_pos rfl]
      exact ⟨ν, 6, rfl, hD', by omega, by omega, by omega⟩
    · left
      rw [if_neg (fun q => h (by have := (nI_eq (by omega) (by omega)).mp q; omega))]
      exact ⟨ν, rfl, 53, hq, h20, by rw [hF]; exact ff_no hq (fun z => by omega) (by omega), hs⟩
  | succ e ih =>
    intro t m ν h1 h2 hD
    obtain ⟨m, rfl⟩ : ∃ k, m = k + 1 := ⟨m - 1, by omega⟩
    have hD' := hD
    obtain ⟨hs, h20, hq, hF, h21, hT, hH⟩ := hD
    have hsr : sr (11 + 7 * t) = 59 := (sr_t ⟨t, by omega⟩).1
    have more : (t = 0 ∨ 11 + 7 * t < n) → (∃ ν', fX7_readShop_104 (nI (B + n)) (fX7_readShop_80 (nI (B + n)) m) ν = some (0, ν') ∧ Fl s u B n ν') ∨ (∃ (ν' : Sg) (t' : Nat), fX7_readShop_104 (nI (B + n)) (fX7_readShop_80 (nI (B + n)) m) ν = some (1, ν') ∧ Td s u B n t' ν' ∧ 1 ≤ t' ∧ t' ≤ 6 ∧ n = 11 + 7 * t') := by
      intro hm
      unfold fX7_readShop_104
      rcases sgE (s := s) (j := 11 + 7 * t) 59 (Or.inr rfl) hs h20 hq hB with ⟨a1, a2, a3⟩ | ⟨a1, a2⟩
      · rw [a3, Option.bind_some]
        simp only [if_neg (show ¬ (1 : Int32) = 0 by decide)]
        rw [← hsr] at a2
        have e12 : 11 + 7 * t + 1 = 12 + 7 * t := by omega
        rw [e12]
        rcases rtube (s := s) hB hn (t := t) (by omega) (ν := up2 ν 0 20 (nI (B + (12 + 7 * t)))) (hs.up0 (k := 20) (by omega) _) (up_eq _ _ _ _) (by omega) (by rw [hF, ff_go a1 (by omega) a2, e12]) (by rw [up_nk (by omega)]; exact h21) (fun r hr => (hT r hr).congr (fun c hc => by rw [up_nc (by omega)])) (hH.congr (up_nc (by omega))) with ⟨ν', b1, b2⟩ | ⟨ν', b1, b2⟩
        · left
          rw [b1, Option.bind_some]
          simp only [if_true]
          exact ⟨ν', rfl, b2⟩
        · rw [b1, Option.bind_some]
          simp only [if_neg (show ¬ (1 : Int32) = 0 by decide)]
          exact ih (t + 1) m ν' (by omega) (by omega) b2
      · left
        rw [a2, Option.bind_some]
        simp only [if_true]
        refine ⟨ν, rfl, 11 + 7 * t, hq, h20, ?_, hs⟩
        rw [hF]
        rw [← hsr] at a1
        refine ff_no hq (fun z => ?_) (a1.imp id Or.inr)
        rw [whole_at hn, if_neg (by omega)]
    rw [fX7_readShop_80, h21]
    by_cases h0 : t = 0
    · subst h0
      rw [nI_0, if_pos rfl]
      exact more (Or.inl rfl)
    · rw [if_neg (nI_ne0 (by omega) (by omega)), if_neg (show ¬ (6 : Int32) ≤ nI t from nI_ge (b := 6) (by omega) (by omega)), h20]
      by_cases hz : n ≤ 11 + 7 * t
      · right
        rw [if_pos (nI_le (by omega) (by omega))]
        unfold fX7_readShop_124
        rw [h20, if_pos (by congr 1; omega)]
        exact ⟨ν, t, rfl, hD', by omega, by omega, by omega⟩
      · rw [if_neg (nI_ge (by omega) (by omega))]
        exact more (Or.inr (by omega))
theorem readE2 (hB : B + n ≤ 240) (hn : n ≤ 60) {ν : Sg} (hs : Scr u ν) (h20 : ν 0 20 = nI B) : (∃ ν', fX7_readShop (nI (B + n)) ν = some (0, ν') ∧ Fl s u B n ν') ∨ (∃ (ν' : Sg) (t' : Nat), fX7_readShop (nI (B + n)) ν = some (1, ν') ∧ Td s u B n t' ν' ∧ 1 ≤ t' ∧ t' ≤ 6 ∧ n = 11 + 7 * t') := by
  unfold fX7_readShop
  have hs1 : Scr u (up2 ν 0 21 0) := hs.up0 (k := 21) (by omega) _
  have h201 : (up2 ν 0 21 0) 0 20 = nI (B + 0) := by rw [up_nk (by omega)]; exact h20
  rcases sgE (s := s) (j := 0) 98 (Or.inl rfl) hs1 h201 (by omega) hB with ⟨a1, a2, a3⟩ | ⟨a1, a2⟩
  · rw [a3, Option.bind_some]
    simp only [if_neg (show ¬ (1 : Int32) = 0 by decide)]
    have := rs19 (s := s) hB hn 10 0 1000 (up2 (up2 ν 0 21 0) 0 20 (nI (B + (0 + 1)))) (by omega) (by omega) (hs1.up0 (k := 20) (by omega) _) (by rw [up_eq]) (by omega) (by
      have h9 : fX3_isOfSort (sr 0) (T0 u B 0) s = 1 := a2
      have := ff_go (T := T0 u B) (n := n) (j := 0) a1 (by omega) h9
      exact this) (fun p hp => by omega) (by rw [up_nk (by omega), up_eq])
    rw [nI_0] at this
    rcases this with ⟨ν', b1, b2⟩ | ⟨ν', b1, b2, b3, b4, b5, b6, b7⟩
    · exact Or.inl ⟨ν', b1, b2⟩
    · rw [b1]
      exact rs80 hB hn 6 0 1000 ν' (by omega) (by omega) ⟨b2, b3, b4, b5, b7, fun r hr => by omega, b6⟩
  · left
    rw [a2, Option.bind_some]
    simp only [if_true]
    refine ⟨_, rfl, 0, by omega, h201, ?_, hs1⟩
    refine ff_no (j := 0) (by omega) (fun z => ?_) (a1.imp id Or.inr)
    rw [whole_at hn, if_neg (by omega)]
end PUTN
