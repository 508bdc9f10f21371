theorem E_shop {σ μ : Sg} (hI : Inv σ μ) (x1 : Int32) (x2 : Int32) (x3 : Int32) (x4 : Int32) : ∃ (r : Int32) (τ : Sg) (ν : Sg), fX6_shop x1 x2 x3 x4 σ = some (r, τ) ∧ fX7_shop x1 x2 x3 x4 μ = some (r, ν) ∧ Inv τ ν := by sorry
theorem E_wanted {σ μ : Sg} (hI : Inv σ μ) (x1 : Int32) : ∃ (r : Int32), fX6_wanted x1 σ = r ∧ fX7_wanted x1 μ = r := by sorry
theorem E_seen {σ μ : Sg} (hI : Inv σ μ) (x1 : Int32) : ∃ (r : Int32), fX6_seen x1 σ = some r ∧ fX7_seen x1 μ = some r := by sorry
theorem E_ofTube {σ μ : Sg} (hI : Inv σ μ) (x1 : Int32) (x2 : Int32) : ∃ (r : Int32), fX6_ofTube x1 x2 σ = some r ∧ fX7_ofTube x1 x2 μ = some r := by sorry
theorem E_remember {σ μ : Sg} (hI : Inv σ μ) (x1 : Int32) (x2 : Int32) : ∃ (r : Int32) (τ : Sg) (ν : Sg), fX6_remember x1 x2 σ = (r, τ) ∧ fX7_remember x1 x2 μ = (r, ν) ∧ Inv τ ν := by sorry
theorem E_near {σ μ : Sg} (hI : Inv σ μ) (x1 : Int32) : ∃ (r : Int32) (τ : Sg) (ν : Sg), fX6_near x1 σ = (r, τ) ∧ fX7_near x1 μ = (r, ν) ∧ Inv τ ν := by sorry
theorem E_stock {σ μ : Sg} (hI : Inv σ μ) (x1 : Int32) (x2 : Int32) : ∃ (r : Int32) (τ : Sg) (ν : Sg), fX6_stock x1 x2 σ = some (r, τ) ∧ fX7_stock x1 x2 μ = some (r, ν) ∧ Inv τ ν := by sorry
theorem E_far {σ μ : Sg} (hI : Inv σ μ) (x1 : Int32) : ∃ (r : Int32), fX6_far x1 σ = some r ∧ fX7_far x1 μ = some r := by sorry
theorem E_search {σ μ : Sg} (hI : Inv σ μ) (x1 : Int32) (x2 : Int32) (x3 : Int32) (x4 : Int32) (x5 : Int32) : ∃ (r : Int32) (τ : Sg) (ν : Sg), fX6_search x1 x2 x3 x4 x5 σ = some (r, τ) ∧ fX7_search x1 x2 x3 x4 x5 μ = some (r, ν) ∧ Inv τ ν := by sorry
theorem E_sieve {σ μ : Sg} (hI : Inv σ μ) (x1 : Int32) (x2 : Int32) (x3 : Int32) (x4 : Int32) (x5 : Int32) : ∃ (r : Int32) (τ : Sg) (ν : Sg), fX6_sieve x1 x2 x3 x4 x5 σ = some (r, τ) ∧ fX7_sieve x1 x2 x3 x4 x5 μ = some (r, ν) ∧ Inv τ ν := by sorry
theorem E_quick {σ μ : Sg} (hI : Inv σ μ) (x1 : Int32) : ∃ (r : Int32) (ν : Sg), fX6_quick x1 σ = r ∧ fX7_quick x1 μ = some (r, ν) ∧ Inv σ ν := by sorry
theorem E_signs {σ μ : Sg} (hI : Inv σ μ) (x1 : Int32) : ∃ (r : Int32) (ν : Sg), fX6_signs x1 σ = some r ∧ fX7_signs x1 μ = some (r, ν) ∧ Inv σ ν := by sorry
theorem E_sew {σ μ : Sg} (hI : Inv σ μ) (x1 : Int32) (x2 : Int32) : ∃ (r : Int32), fX6_sew x1 x2 σ = some r ∧ fX7_sew x1 x2 μ = some r := by sorry
theorem E_set {σ μ : Sg} (hI : Inv σ μ) (x1 : Int32) : ∃ (r : Int32), fX6_set x1 σ = some r ∧ fX7_set x1 μ = some r := by sorry
theorem E_tin {σ μ : Sg} (hI : Inv σ μ) (x1 : Int32) (x2 : Int32) : ∃ (r : Int64), fX6_tin x1 x2 σ = some r ∧ fX7_tin x1 x2 μ = some r := by sorry
theorem E_half {σ μ : Sg} (hI : Inv σ μ) : ∃ (r : Int32), fX6_half σ = some r ∧ fX7_half μ = some r := by sorry
theorem E_reading {σ μ : Sg} (hI : Inv σ μ) (x1 : Int32) (x2 : Int32) (hx2 : x2 = 0 ∨ x2 = 1) : ∃ (r : Int32) (τ : Sg) (ν : Sg), fX6_reading x1 x2 σ = some (r, τ) ∧ fX7_reading x1 x2 μ = some (r, ν) ∧ Inv τ ν := by sorry
theorem E_back {σ μ : Sg} (hI : Inv σ μ) (x1 : Int32) : ∃ (r : Int32) (τ : Sg) (ν : Sg), fX6_back x1 σ = (r, τ) ∧ fX7_back x1 μ = (r, ν) ∧ Inv τ ν := by sorry
theorem E_memories {σ μ : Sg} (hI : Inv σ μ) (x1 : Int32) : ∃ (r : Int32) (τ : Sg) (ν : Sg), fX6_memories x1 σ = some (r, τ) ∧ fX7_memories x1 μ = some (r, ν) ∧ Inv τ ν := by sorry
theorem E_kinds {σ μ : Sg} (hI : Inv σ μ) (x1 : Int32) : ∃ (r : Int32) (τ : Sg) (ν : Sg), fX6_kinds x1 σ = some (r, τ) ∧ fX7_kinds x1 μ = some (r, ν) ∧ Inv τ ν := by sorry
theorem E_colours {σ μ : Sg} (hI : Inv σ μ) (x1 : Int32) : ∃ (r : Int32) (τ : Sg) (ν : Sg), fX6_colours x1 σ = some (r, τ) ∧ fX7_colours x1 μ = some (r, ν) ∧ Inv τ ν := by sorry
theorem E_nears {σ μ : Sg} (hI : Inv σ μ) : ∃ (r : Int32) (τ : Sg) (ν : Sg), fX6_nears σ = some (r, τ) ∧ fX7_nears μ = some (r, ν) ∧ Inv τ ν := by sorry
theorem E_sheet {σ μ : Sg} (hI : Inv σ μ) (x1 : Int32) (x2 : Int32) (x3 : Int32) : ∃ (r : Int32) (τ : Sg) (ν : Sg), fX6_sheet x1 x2 x3 σ = some (r, τ) ∧ fX7_sheet x1 x2 x3 μ = some (r, ν) ∧ Inv τ ν := by sorry
theorem E_lose {σ μ : Sg} (hI : Inv σ μ) (x1 : Int32) : ∃ (r : Int32) (τ : Sg) (ν : Sg), fX6_lose x1 σ = some (r, τ) ∧ fX7_lose x1 μ = some (r, ν) ∧ Inv τ ν := by sorry
theorem E_put {σ μ : Sg} (hI : Inv σ μ) (x1 : Int32) (x2 : Int32) (x3 : Int32) : ∃ (r : Int32) (τ : Sg) (ν : Sg), fX6_put x1 x2 x3 σ = some (r, τ) ∧ fX7_put x1 x2 x3 μ = some (r, ν) ∧ Inv τ ν := by sorry
theorem E_cell {σ μ : Sg} (hI : Inv σ μ) (x1 : Int32) (x2 : Int32) (x3 : Int32) : ∃ (r : Int64) (τ : Sg) (ν : Sg), fX6_cell x1 x2 x3 σ = some (r, τ) ∧ fX7_cell x1 x2 x3 μ = some (r, ν) ∧ Inv τ ν := by sorry
theorem E_copy {σ μ : Sg} (hI : Inv σ μ) (x1 : Int32) (x2 : Int32) (x3 : Int32) (x4 : Int32) (x5 : Int32) : ∃ (r : Int32) (τ : Sg) (ν : Sg), fX6_copy x1 x2 x3 x4 x5 σ = some (r, τ) ∧ fX7_copy x1 x2 x3 x4 x5 μ = some (r, ν) ∧ Inv τ ν := by sorry
theorem E_tell {σ μ : Sg} (hI : Inv σ μ) (x1 : Int32) : ∃ (r : Int32) (τ : Sg) (ν : Sg), fX6_tell x1 σ = some (r, τ) ∧ fX7_tell x1 μ = some (r, ν) ∧ Inv τ ν := by sorry
theorem E_rattle {σ μ : Sg} (hI : Inv σ μ) (x1 : Int32) : ∃ (r : Int32) (τ : Sg) (ν : Sg), fX6_rattle x1 σ = some (r, τ) ∧ fX7_rattle x1 μ = some (r, ν) ∧ Inv τ ν := by sorry
theorem E_as {σ μ : Sg} (hI : Inv σ μ) (x1 : Int32) (x2 : Int32) : ∃ (r : Int32) (τ : Sg) (ν : Sg), fX6_as x1 x2 σ = some (r, τ) ∧ fX7_as x1 x2 μ = some (r, ν) ∧ Inv τ ν := by sorry
theorem E_trace {σ μ : Sg} (hI : Inv σ μ) : ∃ (r : Int32), fX6_trace σ = r ∧ fX7_trace μ = r := by sorry
theorem E_fault {σ μ : Sg} (hI : Inv σ μ) : ∃ (r : Int32), fX6_fault σ = r ∧ fX7_fault μ = r := by sorry
theorem E_many {σ μ : Sg} (hI : Inv σ μ) (x1 : Int32) : ∃ (r : Int32), fX6_many x1 σ = some r ∧ fX7_many x1 μ = some r := by sorry
