section PUS
variable {σ μ σ' μ' : Sg}
theorem InvS.congr (h : InvS σ μ) (hσ : ∀ a, 2 ≤ a → a < 10 → σ' a = σ a) (h1 : μ' 1 = μ 1) (h2 : μ' 2 = μ 2) (h3 : μ' 3 = μ 3) : InvS σ' μ' := by
  intro k hk
  have e1 := hσ (2 + k) (by omega) (by omega)
  have e2 := hσ (6 + k) (by omega) (by omega)
  have := h k hk
  unfold ShN ShS at this ⊢
  rw [e1, e2, h1, h2, h3]
  exact this
theorem InvT.congr (h : InvT σ μ) (h10 : ∀ k, 2 ≤ k → k ≤ 9 → σ' 10 k = σ 10 k) (h12 : σ' 12 = σ 12) (ht : ∀ a, 13 ≤ a → a < 19 → σ' a = σ a) (m0 : ∀ k, k = 10 ∨ k = 5 ∨ k = 6 ∨ k = 7 ∨ k = 8 ∨ k = 17 ∨ k = 18 ∨ k = 19 → μ' 0 k = μ 0 k) (m : ∀ a, 4 ≤ a → a ≤ 10 → μ' a = μ a) : InvT σ' μ' := by
  unfold InvT at h ⊢
  rw [h10 2 (by omega) (by omega), h10 3 (by omega) (by omega), h10 4 (by omega) (by omega), h10 5 (by omega) (by omega), h10 6 (by omega) (by omega), h10 7 (by omega) (by omega), h10 8 (by omega) (by omega), h10 9 (by omega) (by omega), h12, m0 10 (by omega), m0 5 (by omega), m0 6 (by omega), m0 7 (by omega), m0 8 (by omega), m0 17 (by omega), m0 18 (by omega), m0 19 (by omega), m 4 (by omega) (by omega)]
  refine ⟨h.1, h.2.1, h.2.2.1, h.2.2.2.1, h.2.2.2.2.1, h.2.2.2.2.2.1, h.2.2.2.2.2.2.1, h.2.2.2.2.2.2.2.1, h.2.2.2.2.2.2.2.2.1, fun t htt => ?_⟩
  have := h.2.2.2.2.2.2.2.2.2 t htt
  unfold TbE at this ⊢
  rw [ht (13 + t) (by omega) (by omega), m 5 (by omega) (by omega), m 6 (by omega) (by omega), m 7 (by omega) (by omega), m 8 (by omega) (by omega), m 9 (by omega) (by omega), m 10 (by omega) (by omega)]
  exact this
theorem InvR.congr (h : InvR σ μ) (h19 : σ' 19 2 = σ 19 2) (h20 : σ' 20 = σ 20) (h21 : σ' 21 = σ 21) (m30 : μ' 0 30 = μ 0 30) (m10 : μ' 0 10 = μ 0 10) (m16 : μ' 16 = μ 16) (m17 : μ' 17 = μ 17) : InvR σ' μ' := by
  unfold InvR at h ⊢
  rw [h19, h20, h21, m30, m10, m16, m17]
  exact h
def Scr (μ μ' : Sg) : Prop := (∀ k, k ≠ 20 → k ≠ 21 → k ≠ 24 → k ≠ 26 → k ≠ 27 → μ' 0 k = μ 0 k) ∧ ∀ a, 1 ≤ a → a ≠ 11 → a ≠ 12 → a ≠ 13 → a ≠ 14 → a ≠ 15 → μ' a = μ a
theorem Scr.rf : Scr μ μ := ⟨fun _ _ _ _ _ _ => rfl, fun _ _ _ _ _ _ _ => rfl⟩
theorem Scr.tr {μ'' : Sg} (h : Scr μ μ') (h2 : Scr μ' μ'') : Scr μ μ'' := ⟨fun k a b c d e => (h2.1 k a b c d e).trans (h.1 k a b c d e), fun a z b c d e f => (h2.2 a z b c d e f).trans (h.2 a z b c d e f)⟩
theorem Scr.up0 (h : Scr μ μ') {k : Nat} (hk : k = 20 ∨ k = 21 ∨ k = 24 ∨ k = 26 ∨ k = 27) (v : Int32) : Scr μ (up2 μ' 0 k v) := by
  refine ⟨fun j a b c d e => ?_, fun q z b c d e f => ?_⟩
  · rw [up_nk (by omega)]; exact h.1 j a b c d e
  · rw [up_nc (by omega)]; exact h.2 q z b c d e f
theorem Scr.upc (h : Scr μ μ') {a : Nat} (ha : a = 11 ∨ a = 12 ∨ a = 13 ∨ a = 14 ∨ a = 15) (k : Nat) (v : Int32) : Scr μ (up2 μ' a k v) := by
  refine ⟨fun j z b c d e => ?_, fun q z b c d e f => ?_⟩
  · rw [up_nc (by omega)]; exact h.1 j z b c d e
  · rw [up_nc (by omega)]; exact h.2 q z b c d e f
theorem Inv.scr (h : Inv σ μ) (hs : Scr μ μ') : Inv σ μ' := by
  refine ⟨?_, h.2.1.congr (fun _ _ _ => rfl) (hs.2 1 (by omega) (by omega) (by omega) (by omega) (by omega) (by omega)) (hs.2 2 (by omega) (by omega) (by omega) (by omega) (by omega) (by omega)) (hs.2 3 (by omega) (by omega) (by omega) (by omega) (by omega) (by omega)), h.2.2.1.congr (fun _ _ _ => rfl) rfl (fun _ _ _ => rfl) (fun k hk => hs.1 k (by omega) (by omega) (by omega) (by omega) (by omega)) (fun a h1 h2 => hs.2 a (by omega) (by omega) (by omega) (by omega) (by omega) (by omega)), h.2.2.2.congr rfl rfl rfl (hs.1 30 (by omega) (by omega) (by omega) (by omega) (by omega)) (hs.1 10 (by omega) (by omega) (by omega) (by omega) (by omega)) (hs.2 16 (by omega) (by omega) (by omega) (by omega) (by omega) (by omega)) (hs.2 17 (by omega) (by omega) (by omega) (by omega) (by omega) (by omega))⟩
  unfold InvA
  rw [hs.1 1 (by omega) (by omega) (by omega) (by omega) (by omega), hs.1 0 (by omega) (by omega) (by omega) (by omega) (by omega)]
  exact h.1
/-- the FAULT, on both sides -/
theorem Inv.fault (h : Inv σ μ) (v : Int32) : Inv (up2 σ 0 4 v) (up2 μ 0 0 v) := by
  refine ⟨⟨?_, ?_⟩, h.2.1.congr (fun a h1 h2 => up_nc (by omega)) (up_nc (by omega)) (up_nc (by omega)) (up_nc (by omega)), h.2.2.1.congr (fun k h1 h2 => by rw [up_nc (by omega)]) (up_nc (by omega)) (fun a h1 h2 => up_nc (by omega)) (fun k hk => up_nk (by omega)) (fun a h1 h2 => up_nc (by omega)), h.2.2.2.congr (by rw [up_nc (by omega)]) (up_nc (by omega)) (up_nc (by omega)) (up_nk (by omega)) (up_nk (by omega)) (up_nc (by omega)) (up_nc (by omega))⟩
  · rw [up_nk (by omega), up_nk (by omega)]; exact h.1.1
  · rw [up_eq, up_eq]
theorem Inv.trace (h : Inv σ μ) (v : Int32) : Inv (up2 σ 0 3 v) (up2 μ 0 1 v) := by
  refine ⟨⟨?_, ?_⟩, h.2.1.congr (fun a h1 h2 => up_nc (by omega)) (up_nc (by omega)) (up_nc (by omega)) (up_nc (by omega)), h.2.2.1.congr (fun k h1 h2 => by rw [up_nc (by omega)]) (up_nc (by omega)) (fun a h1 h2 => up_nc (by omega)) (fun k hk => up_nk (by omega)) (fun a h1 h2 => up_nc (by omega)), h.2.2.2.congr (by rw [up_nc (by omega)]) (up_nc (by omega)) (up_nc (by omega)) (up_nk (by omega)) (up_nk (by omega)) (up_nc (by omega)) (up_nc (by omega))⟩
  · rw [up_eq, up_eq]
  · rw [up_nk (by omega), up_nk (by omega)]; exact h.1.2
theorem Inv.setMem (h : Inv σ μ) {u v : Int32} (hu : rg u 3) (hv : rg v 3) : Inv (up2 (up2 σ 10 7 u) 10 8 v) (up2 (up2 μ 0 17 u) 0 18 v) := by
  refine ⟨⟨?_, ?_⟩, h.2.1.congr (fun a h1 h2 => by rw [up_nc (by omega), up_nc (by omega)]) (by rw [up_nc (by omega), up_nc (by omega)]) (by rw [up_nc (by omega), up_nc (by omega)]) (by rw [up_nc (by omega), up_nc (by omega)]), ?_, h.2.2.2.congr (by rw [up_nc (by omega), up_nc (by omega)]) (by rw [up_nc (by omega), up_nc (by omega)]) (by rw [up_nc (by omega), up_nc (by omega)]) (by rw [up_nk (by omega), up_nk (by omega)]) (by rw [up_nk (by omega), up_nk (by omega)]) (by rw [up_nc (by omega), up_nc (by omega)]) (by rw [up_nc (by omega), up_nc (by omega)])⟩
  · rw [up_nc (by omega), up_nc (by omega), up_nk (by omega), up_nk (by omega)]; exact h.1.1
  · rw [up_nc (by omega), up_nc (by omega), up_nk (by omega), up_nk (by omega)]; exact h.1.2
  · have ht := h.2.2.1
    unfold InvT TbE at ht ⊢
    simp only [up_at, Nat.reduceEqDiff, false_and, and_false, and_true, true_and, and_self, if_true, if_false, show ∀ t : Nat, (13 + t = 10) = False from fun t => by simp; omega]
    exact ⟨ht.1, ht.2.1, ht.2.2.1, ht.2.2.2.1, ht.2.2.2.2.1, hu, hv, ht.2.2.2.2.2.2.2⟩
theorem Inv.setNear (h : Inv σ μ) {u : Int32} (hu : rg u 20) : Inv (up2 σ 10 9 u) (up2 μ 0 19 u) := by
  refine ⟨⟨?_, ?_⟩, h.2.1.congr (fun a h1 h2 => by rw [up_nc (by omega)]) (by rw [up_nc (by omega)]) (by rw [up_nc (by omega)]) (by rw [up_nc (by omega)]), ?_, h.2.2.2.congr (by rw [up_nc (by omega)]) (by rw [up_nc (by omega)]) (by rw [up_nc (by omega)]) (by rw [up_nk (by omega)]) (by rw [up_nk (by omega)]) (by rw [up_nc (by omega)]) (by rw [up_nc (by omega)])⟩
  · rw [up_nc (by omega), up_nk (by omega)]; exact h.1.1
  · rw [up_nc (by omega), up_nk (by omega)]; exact h.1.2
  · have ht := h.2.2.1
    unfold InvT TbE at ht ⊢
    simp only [up_at, Nat.reduceEqDiff, false_and, and_false, and_true, true_and, and_self, if_true, if_false, show ∀ t : Nat, (13 + t = 10) = False from fun t => by simp; omega]
    exact ⟨ht.1, ht.2.1, ht.2.2.1, ht.2.2.2.1, ht.2.2.2.2.1, ht.2.2.2.2.2.1, ht.2.2.2.2.2.2.1, hu, ht.2.2.2.2.2.2.2.2⟩
theorem E_remember (hI : Inv σ μ) (x1 : Int32) (x2 : Int32) : ∃ (r : Int32) (τ : Sg) (ν : Sg), fX6_remember x1 x2 σ = (r, τ) ∧ fX7_remember x1 x2 μ = (r, ν) ∧ Inv τ ν := by
  unfold fX6_remember fX7_remember fX6_memory
  rw [hI.redder, hI.larger]
  rcases wi x1 0 3 μ with ⟨w, hw⟩ | ⟨w, hw⟩
  · rw [w]
    refine ⟨-2, σ, μ, ?_, rfl, hI⟩
    repeat' split
    all_goals (first | rfl | (exfalso; simp only [fa_lt, fa_le, fa_eq, L_m100, L_m10, L_m9, L_m4, L_m3, L_m2, L_m1, L_0, L_1, L_2, L_3, L_4, L_5, L_6, L_7, L_8, L_9, L_10, L_11, L_12, L_13, L_14, L_15, L_16, L_17, L_18, L_19, L_20, L_21, L_48, L_49, L_50, L_51, L_52, L_53, L_54, L_55, L_56, L_57, L_59, L_60, L_63, L_64, L_97, L_98, L_99, L_100, L_104, L_107, L_111, L_115, L_116, L_240] at *; omega) | (exfalso; simp only [fa_lt, fa_le, fa_eq, L_m100, L_m10, L_m9, L_m4, L_m3, L_m2, L_m1, L_0, L_1, L_2, L_3, L_4, L_5, L_6, L_7, L_8, L_9, L_10, L_11, L_12, L_13, L_14, L_15, L_16, L_17, L_18, L_19, L_20, L_21, L_48, L_49, L_50, L_51, L_52, L_53, L_54, L_55, L_56, L_57, L_59, L_60, L_63, L_64, L_97, L_98, L_99, L_100, L_104, L_107, L_111, L_115, L_116, L_240] at *; done) | contradiction)
  · rcases wi x2 0 3 μ with ⟨w2, hw2⟩ | ⟨w2, hw2⟩
    · rw [w, w2]
      refine ⟨-2, σ, μ, ?_, rfl, hI⟩
      repeat' split
      all_goals (first | rfl | (exfalso; simp only [fa_lt, fa_le, fa_eq, L_m100, L_m10, L_m9, L_m4, L_m3, L_m2, L_m1, L_0, L_1, L_2, L_3, L_4, L_5, L_6, L_7, L_8, L_9, L_10, L_11, L_12, L_13, L_14, L_15, L_16, L_17, L_18, L_19, L_20, L_21, L_48, L_49, L_50, L_51, L_52, L_53, L_54, L_55, L_56, L_57, L_59, L_60, L_63, L_64, L_97, L_98, L_99, L_100, L_104, L_107, L_111, L_115, L_116, L_240] at *; omega) | (exfalso; simp only [fa_lt, fa_le, fa_eq, L_m100, L_m10, L_m9, L_m4, L_m3, L_m2, L_m1, L_0, L_1, L_2, L_3, L_4, L_5, L_6, L_7, L_8, L_9, L_10, L_11, L_12, L_13, L_14, L_15, L_16, L_17, L_18, L_19, L_20, L_21, L_48, L_49, L_50, L_51, L_52, L_53, L_54, L_55, L_56, L_57, L_59, L_60, L_63, L_64, L_97, L_98, L_99, L_100, L_104, L_107, L_111, L_115, L_116, L_240] at *; done) | contradiction)
    · rw [w, w2]
      rcases open_or hI with ⟨e1, e2⟩ | ⟨e1, e2⟩
      · rw [e1, e2]
        refine ⟨-3, σ, μ, ?_, rfl, hI⟩
        repeat' split
        all_goals (first | rfl | (exfalso; simp only [fa_lt, fa_le, fa_eq, L_m100, L_m10, L_m9, L_m4, L_m3, L_m2, L_m1, L_0, L_1, L_2, L_3, L_4, L_5, L_6, L_7, L_8, L_9, L_10, L_11, L_12, L_13, L_14, L_15, L_16, L_17, L_18, L_19, L_20, L_21, L_48, L_49, L_50, L_51, L_52, L_53, L_54, L_55, L_56, L_57, L_59, L_60, L_63, L_64, L_97, L_98, L_99, L_100, L_104, L_107, L_111, L_115, L_116, L_240] at *; omega) | (exfalso; simp only [fa_lt, fa_le, fa_eq, L_m100, L_m10, L_m9, L_m4, L_m3, L_m2, L_m1, L_0, L_1, L_2, L_3, L_4, L_5, L_6, L_7, L_8, L_9, L_10, L_11, L_12, L_13, L_14, L_15, L_16, L_17, L_18, L_19, L_20, L_21, L_48, L_49, L_50, L_51, L_52, L_53, L_54, L_55, L_56, L_57, L_59, L_60, L_63, L_64, L_97, L_98, L_99, L_100, L_104, L_107, L_111, L_115, L_116, L_240] at *; done) | contradiction)
      · rw [e1, if_neg e2]
        refine ⟨_, _, _, ?_, rfl, hI.setMem (of_rg (n := 3) (by decide) hw.1 hw.2) (of_rg (n := 3) (by decide) hw2.1 hw2.2)⟩
        repeat' split
        all_goals (first | rfl | (exfalso; simp only [fa_lt, fa_le, fa_eq, L_m100, L_m10, L_m9, L_m4, L_m3, L_m2, L_m1, L_0, L_1, L_2, L_3, L_4, L_5, L_6, L_7, L_8, L_9, L_10, L_11, L_12, L_13, L_14, L_15, L_16, L_17, L_18, L_19, L_20, L_21, L_48, L_49, L_50, L_51, L_52, L_53, L_54, L_55, L_56, L_57, L_59, L_60, L_63, L_64, L_97, L_98, L_99, L_100, L_104, L_107, L_111, L_115, L_116, L_240] at *; omega) | (exfalso; simp only [fa_lt, fa_le, fa_eq, L_m100, L_m10, L_m9, L_m4, L_m3, L_m2, L_m1, L_0, L_1, L_2, L_3, L_4, L_5, L_6, L_7, L_8, L_9, L_10, L_11, L_12, L_13, L_14, L_15, L_16, L_17, L_18, L_19, L_20, L_21, L_48, L_49, L_50, L_51, L_52, L_53, L_54, L_55, L_56, L_57, L_59, L_60, L_63, L_64, L_97, L_98, L_99, L_100, L_104, L_107, L_111, L_115, L_116, L_240] at *; done) | contradiction)
theorem E_near (hI : Inv σ μ) (x1 : Int32) : ∃ (r : Int32) (τ : Sg) (ν : Sg), fX6_near x1 σ = (r, τ) ∧ fX7_near x1 μ = (r, ν) ∧ Inv τ ν := by
  unfold fX6_near fX7_near
  rw [hI.near]
  rcases wi x1 0 20 μ with ⟨w, hw⟩ | ⟨w, hw⟩
  · rw [w]
    refine ⟨-2, σ, μ, ?_, rfl, hI⟩
    repeat' split
    all_goals (first | rfl | (exfalso; simp only [fa_lt, fa_le, fa_eq, L_m100, L_m10, L_m9, L_m4, L_m3, L_m2, L_m1, L_0, L_1, L_2, L_3, L_4, L_5, L_6, L_7, L_8, L_9, L_10, L_11, L_12, L_13, L_14, L_15, L_16, L_17, L_18, L_19, L_20, L_21, L_48, L_49, L_50, L_51, L_52, L_53, L_54, L_55, L_56, L_57, L_59, L_60, L_63, L_64, L_97, L_98, L_99, L_100, L_104, L_107, L_111, L_115, L_116, L_240] at *; omega) | (exfalso; simp only [fa_lt, fa_le, fa_eq, L_m100, L_m10, L_m9, L_m4, L_m3, L_m2, L_m1, L_0, L_1, L_2, L_3, L_4, L_5, L_6, L_7, L_8, L_9, L_10, L_11, L_12, L_13, L_14, L_15, L_16, L_17, L_18, L_19, L_20, L_21, L_48, L_49, L_50, L_51, L_52, L_53, L_54, L_55, L_56, L_57, L_59, L_60, L_63, L_64, L_97, L_98, L_99, L_100, L_104, L_107, L_111, L_115, L_116, L_240] at *; done) | contradiction)
  · rw [w]
    rcases open_or hI with ⟨e1, e2⟩ | ⟨e1, e2⟩
    · rw [e1, e2]
      refine ⟨-3, σ, μ, ?_, rfl, hI⟩
      repeat' split
      all_goals (first | rfl | (exfalso; simp only [fa_lt, fa_le, fa_eq, L_m100, L_m10, L_m9, L_m4, L_m3, L_m2, L_m1, L_0, L_1, L_2, L_3, L_4, L_5, L_6, L_7, L_8, L_9, L_10, L_11, L_12, L_13, L_14, L_15, L_16, L_17, L_18, L_19, L_20, L_21, L_48, L_49, L_50, L_51, L_52, L_53, L_54, L_55, L_56, L_57, L_59, L_60, L_63, L_64, L_97, L_98, L_99, L_100, L_104, L_107, L_111, L_115, L_116, L_240] at *; omega) | (exfalso; simp only [fa_lt, fa_le, fa_eq, L_m100, L_m10, L_m9, L_m4, L_m3, L_m2, L_m1, L_0, L_1, L_2, L_3, L_4, L_5, L_6, L_7, L_8, L_9, L_10, L_11, L_12, L_13, L_14, L_15, L_16, L_17, L_18, L_19, L_20, L_21, L_48, L_49, L_50, L_51, L_52, L_53, L_54, L_55, L_56, L_57, L_59, L_60, L_63, L_64, L_97, L_98, L_99, L_100, L_104, L_107, L_111, L_115, L_116, L_240] at *; done) | contradiction)
    · rw [e1, if_neg e2]
      refine ⟨_, _, _, ?_, rfl, hI.setNear (of_rg (n := 20) (by decide) hw.1 hw.2)⟩
      repeat' split
      all_goals (first | rfl | (exfalso; simp only [fa_lt, fa_le, fa_eq, L_m100, L_m10, L_m9, L_m4, L_m3, L_m2, L_m1, L_0, L_1, L_2, L_3, L_4, L_5, L_6, L_7, L_8, L_9, L_10, L_11, L_12, L_13, L_14, L_15, L_16, L_17, L_18, L_19, L_20, L_21, L_48, L_49, L_50, L_51, L_52, L_53, L_54, L_55, L_56, L_57, L_59, L_60, L_63, L_64, L_97, L_98, L_99, L_100, L_104, L_107, L_111, L_115, L_116, L_240] at *; omega) | (exfalso; simp only [fa_lt, fa_le, fa_eq, L_m100, L_m10, L_m9, L_m4, L_m3, L_m2, L_m1, L_0, L_1, L_2, L_3, L_4, L_5, L_6, L_7, L_8, L_9, L_10, L_11, L_12, L_13, L_14, L_15, L_16, L_17, L_18, L_19, L_20, L_21, L_48, L_49, L_50, L_51, L_52, L_53, L_54, L_55, L_56, L_57, L_59, L_60, L_63, L_64, L_97, L_98, L_99, L_100, L_104, L_107, L_111, L_115, L_116, L_240] at *; done) | contradiction)
theorem Inv.setCount (h : Inv σ μ) {t : Nat} (ht : t < 6) {u : Int32} (hu : rg u 9) : Inv (up2 σ (13 + t) 4 u) (up2 μ 9 t u) := by
  refine ⟨⟨?_, ?_⟩, h.2.1.congr (fun a h1 h2 => up_nc (by omega)) (up_nc (by omega)) (up_nc (by omega)) (up_nc (by omega)), ?_, h.2.2.2.congr (by rw [up_nc (by omega)]) (up_nc (by omega)) (up_nc (by omega)) (by rw [up_nc (by omega)]) (by rw [up_nc (by omega)]) (up_nc (by omega)) (up_nc (by omega))⟩
  · rw [up_nc (by omega), up_nc (by omega)]; exact h.1.1
  · rw [up_nc (by omega), up_nc (by omega)]; exact h.1.2
  · have ht' := h.2.2.1
    unfold InvT at ht' ⊢
    rw [up_nc (a := 13 + t) (b := 10) (by omega), up_nc (a := 13 + t) (b := 12) (by omega), up_nc (a := 9) (b := 0) (by omega), up_nc (a := 9) (b := 4) (by omega)]
    refine ⟨ht'.1, ht'.2.1, ht'.2.2.1, ht'.2.2.2.1, ht'.2.2.2.2.1, ht'.2.2.2.2.2.1, ht'.2.2.2.2.2.2.1, ht'.2.2.2.2.2.2.2.1, ht'.2.2.2.2.2.2.2.2.1, fun q hq => ?_⟩
    have hq' := ht'.2.2.2.2.2.2.2.2.2 q hq
    unfold TbE at hq' ⊢
    rw [up_nc (a := 9) (b := 5) (by omega), up_nc (a := 9) (b := 6) (by omega), up_nc (a := 9) (b := 7) (by omega), up_nc (a := 9) (b := 8) (by omega), up_nc (a := 9) (b := 10) (by omega)]
    by_cases e : q = t
    · subst e
      rw [up_nk (k := 4) (j := 0) (by omega), up_nk (k := 4) (j := 1) (by omega), up_nk (k := 4) (j := 2) (by omega), up_nk (k := 4) (j := 3) (by omega), up_nk (k := 4) (j := 5) (by omega), up_eq, up_eq]
      exact ⟨hq'.1, hq'.2.1, hq'.2.2.1, hq'.2.2.2.1, ⟨rfl, hu⟩, hq'.2.2.2.2.2⟩
    · rw [up_nc (by omega), up_nk e]
      exact hq'
theorem E_stock (hI : Inv σ μ) (x1 : Int32) (x2 : Int32) : ∃ (r : Int32) (τ : Sg) (ν : Sg), fX6_stock x1 x2 σ = some (r, τ) ∧ fX7_stock x1 x2 μ = some (r, ν) ∧ Inv τ ν := by
  unfold fX6_stock fX7_stock
  rcases tube_or hI x1 with ⟨a1, a2⟩ | ⟨a1, a2, t, N, ht, hN, rfl, en⟩
  · rw [a1, a2]
    exact ⟨-1, σ, μ, rfl, rfl, hI⟩
  · rw [a1, a2]
    rcases wi x2 0 9 μ with ⟨w, hw⟩ | ⟨w, hw⟩
    · rw [w]
      refine ⟨-2, σ, μ, ?_, rfl, hI⟩
      repeat' split
      all_goals (first | rfl | (exfalso; simp only [fa_lt, fa_le, fa_eq, L_m100, L_m10, L_m9, L_m4, L_m3, L_m2, L_m1, L_0, L_1, L_2, L_3, L_4, L_5, L_6, L_7, L_8, L_9, L_10, L_11, L_12, L_13, L_14, L_15, L_16, L_17, L_18, L_19, L_20, L_21, L_48, L_49, L_50, L_51, L_52, L_53, L_54, L_55, L_56, L_57, L_59, L_60, L_63, L_64, L_97, L_98, L_99, L_100, L_104, L_107, L_111, L_115, L_116, L_240] at *; omega) | (exfalso; simp only [fa_lt, fa_le, fa_eq, L_m100, L_m10, L_m9, L_m4, L_m3, L_m2, L_m1, L_0, L_1, L_2, L_3, L_4, L_5, L_6, L_7, L_8, L_9, L_10, L_11, L_12, L_13, L_14, L_15, L_16, L_17, L_18, L_19, L_20, L_21, L_48, L_49, L_50, L_51, L_52, L_53, L_54, L_55, L_56, L_57, L_59, L_60, L_63, L_64, L_97, L_98, L_99, L_100, L_104, L_107, L_111, L_115, L_116, L_240] at *; done) | contradiction)
    · have hg := gIn_nI (t := t) (n := 6) (by omega) (by decide)
      rw [w, if_pos hg, if_pos hg]
      simp only [nI_clamp (show t < 2 ^ 31 by omega)]
      have hT := hI.tube (t := t) (by omega)
      refine ⟨μ 9 t, _, _, ?_, rfl, hI.setCount (t := t) (by omega) (of_rg (n := 9) (by decide) hw.1 hw.2)⟩
      rw [hT.2.2.2.2.1.1]
      repeat' split
      all_goals (first | rfl | (exfalso; simp only [fa_lt, fa_le, fa_eq, L_m100, L_m10, L_m9, L_m4, L_m3, L_m2, L_m1, L_0, L_1, L_2, L_3, L_4, L_5, L_6, L_7, L_8, L_9, L_10, L_11, L_12, L_13, L_14, L_15, L_16, L_17, L_18, L_19, L_20, L_21, L_48, L_49, L_50, L_51, L_52, L_53, L_54, L_55, L_56, L_57, L_59, L_60, L_63, L_64, L_97, L_98, L_99, L_100, L_104, L_107, L_111, L_115, L_116, L_240] at *; omega) | (exfalso; simp only [fa_lt, fa_le, fa_eq, L_m100, L_m10, L_m9, L_m4, L_m3, L_m2, L_m1, L_0, L_1, L_2, L_3, L_4, L_5, L_6, L_7, L_8, L_9, L_10, L_11, L_12, L_13, L_14, L_15, L_16, L_17, L_18, L_19, L_20, L_21, L_48, L_49, L_50, L_51, L_52, L_53, L_54, L_55, L_56, L_57, L_59, L_60, L_63, L_64, L_97, L_98, L_99, L_100, L_104, L_107, L_111, L_115, L_116, L_240] at *; done) | contradiction)
theorem E_back (hI : Inv σ μ) (x1 : Int32) : ∃ (r : Int32) (τ : Sg) (ν : Sg), fX6_back x1 σ = (r, τ) ∧ fX7_back x1 μ = (r, ν) ∧ Inv τ ν := by
  obtain ⟨⟨ec, c, hc, e8⟩, h2, h3⟩ := hI.2.2.2
  unfold fX6_back fX7_back
  rw [ec]
  rcases wi x1 0 (μ 0 30) μ with ⟨w, hw⟩ | ⟨w, hw⟩
  · rw [w]
    refine ⟨-2, σ, μ, ?_, rfl, hI⟩
    repeat' split
    all_goals (first | rfl | (exfalso; simp only [fa_lt, fa_le, fa_eq, L_m100, L_m10, L_m9, L_m4, L_m3, L_m2, L_m1, L_0, L_1, L_2, L_3, L_4, L_5, L_6, L_7, L_8, L_9, L_10, L_11, L_12, L_13, L_14, L_15, L_16, L_17, L_18, L_19, L_20, L_21, L_48, L_49, L_50, L_51, L_52, L_53, L_54, L_55, L_56, L_57, L_59, L_60, L_63, L_64, L_97, L_98, L_99, L_100, L_104, L_107, L_111, L_115, L_116, L_240] at *; omega) | (exfalso; simp only [fa_lt, fa_le, fa_eq, L_m100, L_m10, L_m9, L_m4, L_m3, L_m2, L_m1, L_0, L_1, L_2, L_3, L_4, L_5, L_6, L_7, L_8, L_9, L_10, L_11, L_12, L_13, L_14, L_15, L_16, L_17, L_18, L_19, L_20, L_21, L_48, L_49, L_50, L_51, L_52, L_53, L_54, L_55, L_56, L_57, L_59, L_60, L_63, L_64, L_97, L_98, L_99, L_100, L_104, L_107, L_111, L_115, L_116, L_240] at *; done) | contradiction)
  · rw [w, e8] at *
    have e30 := nI_toInt (n := c) (by omega)
    rw [e30] at hw
    obtain ⟨j, hj, rfl⟩ := of_rg (n := c) (by omega) hw.1 hw.2
    have es : nI c - nI j = nI (c - j) := pk_sub hj
    refine ⟨nI c - nI j, up2 σ 19 2 (nI c - nI j), up2 μ 0 30 (nI c - nI j), ?_, rfl, ?_⟩
    · have e31 := nI_toInt (n := j) (by omega)
      repeat' split
      all_goals (first | rfl | (exfalso; simp only [fa_lt, fa_le, fa_eq, L_m100, L_m10, L_m9, L_m4, L_m3, L_m2, L_m1, L_0, L_1, L_2, L_3, L_4, L_5, L_6, L_7, L_8, L_9, L_10, L_11, L_12, L_13, L_14, L_15, L_16, L_17, L_18, L_19, L_20, L_21, L_48, L_49, L_50, L_51, L_52, L_53, L_54, L_55, L_56, L_57, L_59, L_60, L_63, L_64, L_97, L_98, L_99, L_100, L_104, L_107, L_111, L_115, L_116, L_240] at *; omega) | (exfalso; simp only [fa_lt, fa_le, fa_eq, L_m100, L_m10, L_m9, L_m4, L_m3, L_m2, L_m1, L_0, L_1, L_2, L_3, L_4, L_5, L_6, L_7, L_8, L_9, L_10, L_11, L_12, L_13, L_14, L_15, L_16, L_17, L_18, L_19, L_20, L_21, L_48, L_49, L_50, L_51, L_52, L_53, L_54, L_55, L_56, L_57, L_59, L_60, L_63, L_64, L_97, L_98, L_99, L_100, L_104, L_107, L_111, L_115, L_116, L_240] at *; done) | contradiction)
    · rw [es]
      refine ⟨⟨?_, ?_⟩, hI.2.1.congr (fun a h1 h2 => up_nc (by omega)) (up_nc (by omega)) (up_nc (by omega)) (up_nc (by omega)), hI.2.2.1.congr (fun k h1 h2 => by rw [up_nc (by omega)]) (up_nc (by omega)) (fun a h1 h2 => up_nc (by omega)) (fun k hk => up_nk (by omega)) (fun a h1 h2 => up_nc (by omega)), ⟨⟨?_, ?_⟩, ?_, ?_⟩⟩
      · rw [up_nc (by omega), up_nk (by omega)]; exact hI.1.1
      · rw [up_nc (by omega), up_nk (by omega)]; exact hI.1.2
      · rw [up_eq, up_eq]
      · rw [up_eq]; exact ⟨c - j, by omega, rfl⟩
      · rw [up_nc (by omega), up_nc (by omega), up_nc (by omega), up_nc (by omega)]; exact h2
      · rw [up_nc (a := 0) (b := 16) (by omega), up_eq, up_nk (k := 30) (j := 10) (by omega)]
        intro q hq
        rw [nI_clamp (by omega)] at hq
        exact h3 q (by rw [nI_clamp (by omega)]; omega)
end PUS
