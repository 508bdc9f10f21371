/-! what ties the class's state σ to the reference's μ -/
def rg (x : Int32) (n : Nat) : Prop := ∃ k : Nat, k ≤ n ∧ x = nI k
def InvA (σ μ : Sg) : Prop := σ 0 3 = μ 0 1 ∧ σ 0 4 = μ 0 0
def ShN (σ μ : Sg) (k : Nat) : Prop := σ (2 + k) 1 = -1 ∧ σ (2 + k) 2 = 0 ∧ μ 1 k = -9
def ShS (σ μ : Sg) (k : Nat) : Prop := σ (2 + k) 1 = μ 1 k ∧ rg (μ 1 k) 2 ∧ σ (2 + k) 2 = μ 2 k ∧ rg (μ 2 k) 60 ∧ ∀ i : Nat, i < 60 → σ (6 + k) i = μ 3 (60 * k + i)
def InvS (σ μ : Sg) : Prop := ∀ k : Nat, k < 4 → ShN σ μ k ∨ ShS σ μ k
def TbE (σ μ : Sg) (t : Nat) : Prop := (σ (13 + t) 0 = μ 5 t ∧ rg (μ 5 t) 2) ∧ (σ (13 + t) 1 = μ 6 t ∧ rg (μ 6 t) 7) ∧ (σ (13 + t) 2 = μ 7 t ∧ rg (μ 7 t) 9) ∧ (σ (13 + t) 3 = μ 8 t ∧ rg (μ 8 t) 9) ∧ (σ (13 + t) 4 = μ 9 t ∧ rg (μ 9 t) 9) ∧ (σ (13 + t) 5 = μ 10 t ∧ rg (μ 10 t) 9)
def InvT (σ μ : Sg) : Prop := (σ 10 2 = μ 0 10 ∧ rg (μ 0 10) 6) ∧ (σ 10 3 = μ 0 5 ∧ rg (μ 0 5) 7) ∧ (σ 10 4 = μ 0 6 ∧ rg (μ 0 6) 9) ∧ (σ 10 5 = μ 0 7 ∧ rg (μ 0 7) 9) ∧ (σ 10 6 = μ 0 8 ∧ rg (μ 0 8) 9) ∧ (σ 10 7 = μ 0 17 ∧ rg (μ 0 17) 3) ∧ (σ 10 8 = μ 0 18 ∧ rg (μ 0 18) 3) ∧ (σ 10 9 = μ 0 19 ∧ rg (μ 0 19) 20) ∧ (∀ p : Nat, p < 6 → σ 12 p = μ 4 p ∧ rg (μ 4 p) 9) ∧ ∀ t : Nat, t < 6 → TbE σ μ t
def InvR (σ μ : Sg) : Prop := (σ 19 2 = μ 0 30 ∧ rg (μ 0 30) 8) ∧ (∀ q : Nat, q < 8 → σ 20 q = μ 16 q ∧ σ 21 q = μ 17 q) ∧ ∀ q : Nat, q < (μ 0 30).toNatClampNeg → gIn (μ 16 q) (μ 0 10).toNatClampNeg
def Inv (σ μ : Sg) : Prop := InvA σ μ ∧ InvS σ μ ∧ InvT σ μ ∧ InvR σ μ
def sX0 : Sg := fun a => match a with
  | 2 => fun k => if k = 1 then -1 else 0
  | 3 => fun k => if k = 1 then -1 else 0
  | 4 => fun k => if k = 1 then -1 else 0
  | 5 => fun k => if k = 1 then -1 else 0
  | _ => fun _ => 0
def sM0 : Sg := fun a => match a with
  | 1 => upd (upd (upd (upd (fun _ => 0) 0 (-9)) 1 (-9)) 2 (-9)) 3 (-9)
  | _ => fun _ => 0
theorem rg0 (n : Nat) : rg 0 n := ⟨0, Nat.zero_le n, rfl⟩
theorem Inv0 : Inv sX0 sM0 := by
  refine ⟨⟨rfl, rfl⟩, fun k hk => Or.inl ?_, ?_, ?_⟩
  · match k, hk with
    | 0, _ => exact ⟨rfl, rfl, rfl⟩
    | 1, _ => exact ⟨rfl, rfl, rfl⟩
    | 2, _ => exact ⟨rfl, rfl, rfl⟩
    | 3, _ => exact ⟨rfl, rfl, rfl⟩
  · refine ⟨⟨rfl, rg0 _⟩, ⟨rfl, rg0 _⟩, ⟨rfl, rg0 _⟩, ⟨rfl, rg0 _⟩, ⟨rfl, rg0 _⟩, ⟨rfl, rg0 _⟩, ⟨rfl, rg0 _⟩, ⟨rfl, rg0 _⟩, fun p hp => ⟨rfl, rg0 _⟩, fun t ht => ?_⟩
    match t, ht with
    | 0, _ => exact ⟨⟨rfl, rg0 _⟩, ⟨rfl, rg0 _⟩, ⟨rfl, rg0 _⟩, ⟨rfl, rg0 _⟩, ⟨rfl, rg0 _⟩, ⟨rfl, rg0 _⟩⟩
    | 1, _ => exact ⟨⟨rfl, rg0 _⟩, ⟨rfl, rg0 _⟩, ⟨rfl, rg0 _⟩, ⟨rfl, rg0 _⟩, ⟨rfl, rg0 _⟩, ⟨rfl, rg0 _⟩⟩
    | 2, _ => exact ⟨⟨rfl, rg0 _⟩, ⟨rfl, rg0 _⟩, ⟨rfl, rg0 _⟩, ⟨rfl, rg0 _⟩, ⟨rfl, rg0 _⟩, ⟨rfl, rg0 _⟩⟩
    | 3, _ => exact ⟨⟨rfl, rg0 _⟩, ⟨rfl, rg0 _⟩, ⟨rfl, rg0 _⟩, ⟨rfl, rg0 _⟩, ⟨rfl, rg0 _⟩, ⟨rfl, rg0 _⟩⟩
    | 4, _ => exact ⟨⟨rfl, rg0 _⟩, ⟨rfl, rg0 _⟩, ⟨rfl, rg0 _⟩, ⟨rfl, rg0 _⟩, ⟨rfl, rg0 _⟩, ⟨rfl, rg0 _⟩⟩
    | 5, _ => exact ⟨⟨rfl, rg0 _⟩, ⟨rfl, rg0 _⟩, ⟨rfl, rg0 _⟩, ⟨rfl, rg0 _⟩, ⟨rfl, rg0 _⟩, ⟨rfl, rg0 _⟩⟩
  · refine ⟨⟨rfl, rg0 _⟩, fun q hq => ⟨rfl, rfl⟩, fun q hq => absurd (show q < 0 from hq) (Nat.not_lt_zero q)⟩
