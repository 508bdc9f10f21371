/-! pure rows: comparisons by toInt, the state's places, what both sides ask of a tube, a place, the shop -/
theorem fa_lt (a b : Int32) : a < b ↔ a.toInt < b.toInt := Int32.lt_iff_toInt_lt
theorem fa_le (a b : Int32) : a ≤ b ↔ a.toInt ≤ b.toInt := Int32.le_iff_toInt_le
theorem fa_eq (a b : Int32) : a = b ↔ a.toInt = b.toInt := Int32.toInt_inj.symm
theorem L_m100 : ((-100) : Int32).toInt = -100 := rfl
theorem L_m10 : ((-10) : Int32).toInt = -10 := rfl
theorem L_m9 : ((-9) : Int32).toInt = -9 := rfl
theorem L_m4 : ((-4) : Int32).toInt = -4 := rfl
theorem L_m3 : ((-3) : Int32).toInt = -3 := rfl
theorem L_m2 : ((-2) : Int32).toInt = -2 := rfl
theorem L_m1 : ((-1) : Int32).toInt = -1 := rfl
theorem L_0 : (0 : Int32).toInt = 0 := rfl
theorem L_1 : (1 : Int32).toInt = 1 := rfl
theorem L_2 : (2 : Int32).toInt = 2 := rfl
theorem L_3 : (3 : Int32).toInt = 3 := rfl
theorem L_4 : (4 : Int32).toInt = 4 := rfl
theorem L_5 : (5 : Int32).toInt = 5 := rfl
theorem L_6 : (6 : Int32).toInt = 6 := rfl
theorem L_7 : (7 : Int32).toInt = 7 := rfl
theorem L_8 : (8 : Int32).toInt = 8 := rfl
theorem L_9 : (9 : Int32).toInt = 9 := rfl
theorem L_10 : (10 : Int32).toInt = 10 := rfl
theorem L_11 : (11 : Int32).toInt = 11 := rfl
theorem L_12 : (12 : Int32).toInt = 12 := rfl
theorem L_13 : (13 : Int32).toInt = 13 := rfl
theorem L_14 : (14 : Int32).toInt = 14 := rfl
theorem L_15 : (15 : Int32).toInt = 15 := rfl
theorem L_16 : (16 : Int32).toInt = 16 := rfl
theorem L_17 : (17 : Int32).toInt = 17 := rfl
theorem L_18 : (18 : Int32).toInt = 18 := rfl
theorem L_19 : (19 : Int32).toInt = 19 := rfl
theorem L_20 : (20 : Int32).toInt = 20 := rfl
theorem L_21 : (21 : Int32).toInt = 21 := rfl
theorem L_48 : (48 : Int32).toInt = 48 := rfl
theorem L_49 : (49 : Int32).toInt = 49 := rfl
theorem L_50 : (50 : Int32).toInt = 50 := rfl
theorem L_51 : (51 : Int32).toInt = 51 := rfl
theorem L_52 : (52 : Int32).toInt = 52 := rfl
theorem L_53 : (53 : Int32).toInt = 53 := rfl
theorem L_54 : (54 : Int32).toInt = 54 := rfl
theorem L_55 : (55 : Int32).toInt = 55 := rfl
theorem L_56 : (56 : Int32).toInt = 56 := rfl
theorem L_57 : (57 : Int32).toInt = 57 := rfl
theorem L_59 : (59 : Int32).toInt = 59 := rfl
theorem L_60 : (60 : Int32).toInt = 60 := rfl
theorem L_63 : (63 : Int32).toInt = 63 := rfl
theorem L_64 : (64 : Int32).toInt = 64 := rfl
theorem L_97 : (97 : Int32).toInt = 97 := rfl
theorem L_98 : (98 : Int32).toInt = 98 := rfl
theorem L_99 : (99 : Int32).toInt = 99 := rfl
theorem L_100 : (100 : Int32).toInt = 100 := rfl
theorem L_104 : (104 : Int32).toInt = 104 := rfl
theorem L_107 : (107 : Int32).toInt = 107 := rfl
theorem L_111 : (111 : Int32).toInt = 111 := rfl
theorem L_115 : (115 : Int32).toInt = 115 := rfl
theorem L_116 : (116 : Int32).toInt = 116 := rfl
theorem L_240 : (240 : Int32).toInt = 240 := rfl
theorem tri (x : Int32) (n : Nat) (hn : n < 2 ^ 31) : x.toInt < 0 ∨ (n : Int) ≤ x.toInt ∨ ∃ j : Nat, j < n ∧ x = nI j := by
  rcases pk_ix x hn with h | h | h
  · left
    rw [fa_lt] at h
    exact h
  · right; left
    rw [fa_le, nI_toInt hn] at h
    exact h
  · exact Or.inr (Or.inr h)
theorem up_eq (σ : Sg) (a k : Nat) (v : Int32) : up2 σ a k v a k = v := by simp [up2, upA, upd]
theorem up_nc {σ : Sg} {a k b : Nat} {v : Int32} (h : b ≠ a) : up2 σ a k v b = σ b := by simp [up2, upA, h]
theorem up_nk {σ : Sg} {a k j : Nat} {v : Int32} (h : j ≠ k) : up2 σ a k v a j = σ a j := by simp [up2, upA, upd, h]
theorem up_at (σ : Sg) (a k b j : Nat) (v : Int32) : up2 σ a k v b j = if b = a ∧ j = k then v else σ b j := by
  by_cases h : b = a
  · subst h
    by_cases h2 : j = k
    · subst h2; rw [up_eq, if_pos ⟨rfl, rfl⟩]
    · rw [up_nk h2, if_neg (fun q => h2 q.2)]
  · rw [up_nc h, if_neg (fun q => h q.1)]
theorem gIn_nI {t n : Nat} (h : t < n) (hn : n < 2 ^ 31) : gIn (nI t) n := vp_in_nI h hn
section PUR
variable {σ μ : Sg}
theorem Inv.n (h : Inv σ μ) : σ 10 2 = μ 0 10 := h.2.2.1.1.1
theorem Inv.nr (h : Inv σ μ) : rg (μ 0 10) 6 := h.2.2.1.1.2
theorem Inv.colour (h : Inv σ μ) : σ 10 3 = μ 0 5 := h.2.2.1.2.1.1
theorem Inv.colourr (h : Inv σ μ) : rg (μ 0 5) 7 := h.2.2.1.2.1.2
theorem Inv.size (h : Inv σ μ) : σ 10 4 = μ 0 6 := h.2.2.1.2.2.1.1
theorem Inv.sizer (h : Inv σ μ) : rg (μ 0 6) 9 := h.2.2.1.2.2.1.2
theorem Inv.holes (h : Inv σ μ) : σ 10 5 = μ 0 7 := h.2.2.1.2.2.2.1.1
theorem Inv.sewing (h : Inv σ μ) : σ 10 6 = μ 0 8 := h.2.2.1.2.2.2.2.1.1
theorem Inv.sewingr (h : Inv σ μ) : rg (μ 0 8) 9 := h.2.2.1.2.2.2.2.1.2
theorem Inv.redder (h : Inv σ μ) : σ 10 7 = μ 0 17 := h.2.2.1.2.2.2.2.2.1.1
theorem Inv.redderr (h : Inv σ μ) : rg (μ 0 17) 3 := h.2.2.1.2.2.2.2.2.1.2
theorem Inv.larger (h : Inv σ μ) : σ 10 8 = μ 0 18 := h.2.2.1.2.2.2.2.2.2.1.1
theorem Inv.largerr (h : Inv σ μ) : rg (μ 0 18) 3 := h.2.2.1.2.2.2.2.2.2.1.2
theorem Inv.near (h : Inv σ μ) : σ 10 9 = μ 0 19 := h.2.2.1.2.2.2.2.2.2.2.1.1
theorem Inv.nearr (h : Inv σ μ) : rg (μ 0 19) 20 := h.2.2.1.2.2.2.2.2.2.2.1.2
theorem Inv.seen (h : Inv σ μ) {p : Nat} (hp : p < 6) : σ 12 p = μ 4 p := (h.2.2.1.2.2.2.2.2.2.2.2.1 p hp).1
theorem Inv.seenr (h : Inv σ μ) {p : Nat} (hp : p < 6) : rg (μ 4 p) 9 := (h.2.2.1.2.2.2.2.2.2.2.2.1 p hp).2
theorem Inv.tube (h : Inv σ μ) {t : Nat} (ht : t < 6) : TbE σ μ t := h.2.2.1.2.2.2.2.2.2.2.2.2 t ht
theorem open_or (hI : Inv σ μ) : (fX2_isOpen σ = 0 ∧ μ 0 10 = 0) ∨ (fX2_isOpen σ = 1 ∧ ¬ μ 0 10 = 0) := by
  obtain ⟨N, hN, en⟩ := hI.nr
  unfold fX2_isOpen
  rw [hI.n, en]
  by_cases h : N = 0
  · subst h
    exact Or.inl ⟨rfl, rfl⟩
  · right
    rw [if_neg (nI_nle (by omega) (by omega))]
    exact ⟨rfl, nI_ne0 (by omega) (by omega)⟩
theorem tube_or (hI : Inv σ μ) (x : Int32) : (fX2_hasTube x σ = 0 ∧ fX7_isTube x μ = 0) ∨ (fX2_hasTube x σ = 1 ∧ fX7_isTube x μ = 1 ∧ ∃ t N : Nat, t < N ∧ N ≤ 6 ∧ x = nI t ∧ μ 0 10 = nI N) := by
  obtain ⟨N, hN, en⟩ := hI.nr
  unfold fX2_hasTube fX7_isTube
  rw [hI.n]
  by_cases h1 : x < 0
  · left; rw [if_pos h1]; exact ⟨rfl, rfl⟩
  · by_cases h2 : μ 0 10 ≤ x
    · left; rw [if_neg h1, if_pos h2]; exact ⟨rfl, rfl⟩
    · right
      rw [if_neg h1, if_neg h2]
      obtain ⟨t, ht, rfl⟩ := nI_of h1
      rw [en, nI_leI (by omega) ht] at h2
      exact ⟨rfl, rfl, t, N, by omega, hN, rfl, en⟩
theorem wi (x a b : Int32) (μ : Sg) : (fX7_within x a b μ = 0 ∧ (x.toInt < a.toInt ∨ b.toInt < x.toInt)) ∨ (fX7_within x a b μ = 1 ∧ a.toInt ≤ x.toInt ∧ x.toInt ≤ b.toInt) := by
  unfold fX7_within
  by_cases h1 : x < a
  · left; rw [if_pos h1]; rw [fa_lt] at h1; exact ⟨rfl, Or.inl h1⟩
  · by_cases h2 : b < x
    · left; rw [if_neg h1, if_pos h2]; rw [fa_lt] at h2; exact ⟨rfl, Or.inr h2⟩
    · right; rw [if_neg h1, if_neg h2]; rw [fa_lt] at h1 h2; exact ⟨rfl, by omega, by omega⟩
theorem place_eq (x : Int32) (σ μ : Sg) : fX6_isPlace x σ = fX7_within x 0 5 μ := by
  unfold fX6_isPlace fX7_within
  repeat' split
  all_goals (first | rfl | (exfalso; simp only [fa_lt, fa_le, fa_eq, L_m100, L_m10, L_m9, L_m4, L_m3, L_m2, L_m1, L_0, L_1, L_2, L_3, L_4, L_5, L_6, L_7, L_8, L_9, L_10, L_11, L_12, L_13, L_14, L_15, L_16, L_17, L_18, L_19, L_20, L_21, L_48, L_49, L_50, L_51, L_52, L_53, L_54, L_55, L_56, L_57, L_59, L_60, L_63, L_64, L_97, L_98, L_99, L_100, L_104, L_107, L_111, L_115, L_116, L_240] at *; omega) | (exfalso; simp only [fa_lt, fa_le, fa_eq, L_m100, L_m10, L_m9, L_m4, L_m3, L_m2, L_m1, L_0, L_1, L_2, L_3, L_4, L_5, L_6, L_7, L_8, L_9, L_10, L_11, L_12, L_13, L_14, L_15, L_16, L_17, L_18, L_19, L_20, L_21, L_48, L_49, L_50, L_51, L_52, L_53, L_54, L_55, L_56, L_57, L_59, L_60, L_63, L_64, L_97, L_98, L_99, L_100, L_104, L_107, L_111, L_115, L_116, L_240] at *; done) | contradiction)
theorem sheet_eq (x : Int32) (σ μ : Sg) : fX6_isSheet x σ = fX7_isSheet x μ := by
  unfold fX6_isSheet fX7_isSheet fX7_within
  repeat' split
  all_goals (first | rfl | (exfalso; simp only [fa_lt, fa_le, fa_eq, L_m100, L_m10, L_m9, L_m4, L_m3, L_m2, L_m1, L_0, L_1, L_2, L_3, L_4, L_5, L_6, L_7, L_8, L_9, L_10, L_11, L_12, L_13, L_14, L_15, L_16, L_17, L_18, L_19, L_20, L_21, L_48, L_49, L_50, L_51, L_52, L_53, L_54, L_55, L_56, L_57, L_59, L_60, L_63, L_64, L_97, L_98, L_99, L_100, L_104, L_107, L_111, L_115, L_116, L_240] at *; omega) | (exfalso; simp only [fa_lt, fa_le, fa_eq, L_m100, L_m10, L_m9, L_m4, L_m3, L_m2, L_m1, L_0, L_1, L_2, L_3, L_4, L_5, L_6, L_7, L_8, L_9, L_10, L_11, L_12, L_13, L_14, L_15, L_16, L_17, L_18, L_19, L_20, L_21, L_48, L_49, L_50, L_51, L_52, L_53, L_54, L_55, L_56, L_57, L_59, L_60, L_63, L_64, L_97, L_98, L_99, L_100, L_104, L_107, L_111, L_115, L_116, L_240] at *; done) | contradiction)
theorem lane_eq (x : Int32) (σ μ : Sg) : fX6_isLane x σ = fX7_isSort x μ := by
  unfold fX6_isLane fX7_isSort fX7_within
  repeat' split
  all_goals (first | rfl | (exfalso; simp only [fa_lt, fa_le, fa_eq, L_m100, L_m10, L_m9, L_m4, L_m3, L_m2, L_m1, L_0, L_1, L_2, L_3, L_4, L_5, L_6, L_7, L_8, L_9, L_10, L_11, L_12, L_13, L_14, L_15, L_16, L_17, L_18, L_19, L_20, L_21, L_48, L_49, L_50, L_51, L_52, L_53, L_54, L_55, L_56, L_57, L_59, L_60, L_63, L_64, L_97, L_98, L_99, L_100, L_104, L_107, L_111, L_115, L_116, L_240] at *; omega) | (exfalso; simp only [fa_lt, fa_le, fa_eq, L_m100, L_m10, L_m9, L_m4, L_m3, L_m2, L_m1, L_0, L_1, L_2, L_3, L_4, L_5, L_6, L_7, L_8, L_9, L_10, L_11, L_12, L_13, L_14, L_15, L_16, L_17, L_18, L_19, L_20, L_21, L_48, L_49, L_50, L_51, L_52, L_53, L_54, L_55, L_56, L_57, L_59, L_60, L_63, L_64, L_97, L_98, L_99, L_100, L_104, L_107, L_111, L_115, L_116, L_240] at *; done) | contradiction)
theorem of_rg {x : Int32} {n : Nat} (hn : n + 1 < 2 ^ 31) (h0 : 0 ≤ x.toInt) (h1 : x.toInt ≤ n) : ∃ j : Nat, j ≤ n ∧ x = nI j := by
  rcases tri x (n + 1) (by omega) with h | h | ⟨j, hj, e⟩
  · omega
  · omega
  · exact ⟨j, by omega, e⟩
theorem E_wanted (hI : Inv σ μ) (x1 : Int32) : ∃ (r : Int32), fX6_wanted x1 σ = r ∧ fX7_wanted x1 μ = r := by
  refine ⟨_, rfl, ?_⟩
  unfold fX6_wanted fX7_wanted fX2_wantedPart
  rw [hI.colour, hI.size, hI.holes, hI.sewing]
  rcases wi x1 0 3 μ with ⟨w, hw⟩ | ⟨w, hw⟩
  all_goals rcases open_or hI with ⟨e1, e2⟩ | ⟨e1, e2⟩
  all_goals rw [w, e1]
  all_goals repeat' split
  all_goals (first | rfl | (exfalso; simp only [fa_lt, fa_le, fa_eq, L_m100, L_m10, L_m9, L_m4, L_m3, L_m2, L_m1, L_0, L_1, L_2, L_3, L_4, L_5, L_6, L_7, L_8, L_9, L_10, L_11, L_12, L_13, L_14, L_15, L_16, L_17, L_18, L_19, L_20, L_21, L_48, L_49, L_50, L_51, L_52, L_53, L_54, L_55, L_56, L_57, L_59, L_60, L_63, L_64, L_97, L_98, L_99, L_100, L_104, L_107, L_111, L_115, L_116, L_240] at *; omega) | (exfalso; simp only [fa_lt, fa_le, fa_eq, L_m100, L_m10, L_m9, L_m4, L_m3, L_m2, L_m1, L_0, L_1, L_2, L_3, L_4, L_5, L_6, L_7, L_8, L_9, L_10, L_11, L_12, L_13, L_14, L_15, L_16, L_17, L_18, L_19, L_20, L_21, L_48, L_49, L_50, L_51, L_52, L_53, L_54, L_55, L_56, L_57, L_59, L_60, L_63, L_64, L_97, L_98, L_99, L_100, L_104, L_107, L_111, L_115, L_116, L_240] at *; done) | contradiction)
theorem E_seen (hI : Inv σ μ) (x1 : Int32) : ∃ (r : Int32), fX6_seen x1 σ = some r ∧ fX7_seen x1 μ = some r := by
  unfold fX6_seen fX7_seen
  rw [place_eq x1 σ μ]
  rcases wi x1 0 5 μ with ⟨w, hw⟩ | ⟨w, hw⟩
  · rw [w]
    exact ⟨-1, rfl, rfl⟩
  · rw [w]
    obtain ⟨j, hj, rfl⟩ := of_rg (n := 5) (by decide) hw.1 hw.2
    have hg := gIn_nI (t := j) (n := 6) (by omega) (by decide)
    rcases open_or hI with ⟨e1, e2⟩ | ⟨e1, e2⟩
    · rw [e1, e2]
      exact ⟨-3, rfl, rfl⟩
    · rw [e1, if_neg e2, if_pos hg, if_pos hg]
      simp only [nI_clamp (show j < 2 ^ 31 by omega)]
      exact ⟨μ 4 j, by rw [hI.seen (by omega)]; rfl, rfl⟩
theorem E_trace (hI : Inv σ μ) : ∃ (r : Int32), fX6_trace σ = r ∧ fX7_trace μ = r := ⟨_, rfl, hI.1.1.symm⟩
theorem E_fault (hI : Inv σ μ) : ∃ (r : Int32), fX6_fault σ = r ∧ fX7_fault μ = r := ⟨_, rfl, hI.1.2.symm⟩
end PUR
