/-! two worlds side by side: the class's and the reference's -/
def W2 (D : va_G) (A : Nat → Prop) (H0 H : Heap) (locs : List Loc) (w v : Sg → va_W) (σ μ : Sg) : Prop := va_P D vwCl (w σ) H ∧ va_P D vwCl (v μ) H ∧ va_D A (w σ) ∧ va_D A (v μ) ∧ (∀ (σ μ : Sg) (i j : Nat) (p q : Nat × va_E), (w σ)[i]? = some p → (v μ)[j]? = some q → p.1 ≠ q.1) ∧ va_S A H0 H locs
theorem W2.swap {D : va_G} {A : Nat → Prop} {H0 H : Heap} {locs : List Loc} {w v : Sg → va_W} {σ μ : Sg} (h : W2 D A H0 H locs w v σ μ) : W2 D A H0 H locs v w μ σ := ⟨h.2.1, h.1, h.2.2.2.1, h.2.2.1, fun σ μ i j p q hp hq e => h.2.2.2.2.1 μ σ j i q p hq hp e.symm, h.2.2.2.2.2⟩
section MYL
variable {p : Program} {l : Launch} {e : Env} {R : Room} {s : State} {m : MethodId} {args : Array Value} {below : List Frame} {meth : Method} {c : Code} {H : Heap} {locs : List Loc} {cells slots : Nat} {Q : State → Prop}
variable {cc : ByteArray} {nL pc : Nat} {ret : Option FieldType} {Ts : List Cond} {own : String} {ls : Array Slot} {rest : List Value} {D : va_G} {κ : Kp} {w v : Sg → va_W} {A : Nat → Prop} {σ τ μ : Sg}
theorem W2.one (h : W2 D A s.heap H locs w v σ μ) : Wd D w A s.heap H locs σ := ⟨h.1, h.2.2.1, h.2.2.2.2.2⟩
theorem W2.back {H1 : Heap} {locs1 : List Loc} {t : State} (h : W2 D A s.heap H locs w v σ μ) (hF : ∀ q, va_A (w σ) H.size q → A q) (ht : t.heap = H1) (hB : Bk D w (va_A (w σ) H.size) τ t) (hk : ∀ q : Nat, q < H.size → ¬ va_A (w σ) H.size q → H1[q]? = H[q]?) (hS : va_S A s.heap H1 locs1) : W2 D A s.heap H1 locs1 w v τ μ := by
  obtain ⟨h1, h2, h3, h4, h5, -⟩ := h
  have hw := Wd.back (s := s) hF ht hB hS
  refine ⟨hw.1, h2.kept (fun k q hq => hk q.1 (h2 k q hq).lt (fun hh => ?_)), hw.2.1, h4, h5, hS⟩
  rcases hh with ⟨i, z, hz⟩ | hh
  · exact h5 σ μ i k _ q hz hq rfl
  · exact Nat.not_lt.mpr hh (h2 k q hq).lt
variable {y : MethodName} {ws : List Cond} {fr lo index n maxL : Nat} {bytes : ByteArray} {ret2 : Option FieldType} {As : List Value} {b ci q0 : Nat} {fs : List Value} {cls : vw_C}
theorem y_vi {r : Int32} (C : Mc p s m args meth c cc nL ret Ts own D κ A) (h : W2 D A s.heap H locs w v σ μ) (he : (w σ)[q0]? = some (b, .inr (ci, fs))) (hc : vwCl[ci]? = some cls) (hM : Ci l D κ w y ws fr lo (.ref b :: As) σ r τ) (cw : (∀ z ∈ Ts, z.before args s = true) → CallW R s args own cls.1 index y bytes maxL ret2 ws { frames := fr, cells := 0, slots := 0, locals := lo } 0 0 n) (hn : As.length = n) (hsz : ls.size = nL) (hW : (rest.map fun v => v.category).sum ≤ 8) {st : List Value} (hst : st = As.reverse ++ .ref b :: rest) (hdg : decode cc pc = .ok (.invokevirtual index, 3)) (hcs : cells + 0 ≤ R.cells ∧ slots + 0 ≤ R.slots)
    (kk : ∀ (H : Heap) (locs : List Loc), W2 D A s.heap H locs w v τ μ → W p l e R s m args below meth c H locs cells slots Q (F0 m (pc + 3) ls (.int r :: rest))) : W p l e R s m args below meth c H locs cells slots Q (F0 m pc ls st) := by
  have hF := h.one.free C
  have hpre := h.one.pre C
  obtain ⟨hx, hb, hml, -, -, hown, hts, hK, hA, hZ⟩ := C
  refine va_calli (va_runV (As := As) (rest := rest) ⟨hx, hb, hml, hown, hts⟩ (hM H.size) (cw hts) ⟨Pre0.blind, va_recv hK h.1 hc he, fun U hU hW => ⟨rfl, hpre U hU hW⟩⟩ rfl hn hsz hst (lv_room hW) hdg hcs) h.2.2.2.2.2 (fun q _ h => hF q h) hF (fun r_2 u t H1 locs ht hvm hw hB hz1 hk1 hS => ?_)
  obtain ⟨rfl, rfl⟩ := hw
  exact kk H1 locs (h.back hF ht hB hk1 hS)
theorem y_vl {r : Int64} (C : Mc p s m args meth c cc nL ret Ts own D κ A) (h : W2 D A s.heap H locs w v σ μ) (he : (w σ)[q0]? = some (b, .inr (ci, fs))) (hc : vwCl[ci]? = some cls) (hM : Cl l D κ w y ws fr lo (.ref b :: As) σ r τ) (cw : (∀ z ∈ Ts, z.before args s = true) → CallW R s args own cls.1 index y bytes maxL ret2 ws { frames := fr, cells := 0, slots := 0, locals := lo } 0 0 n) (hn : As.length = n) (hsz : ls.size = nL) (hW : (rest.map fun v => v.category).sum ≤ 8) {st : List Value} (hst : st = As.reverse ++ .ref b :: rest) (hdg : decode cc pc = .ok (.invokevirtual index, 3)) (hcs : cells + 0 ≤ R.cells ∧ slots + 0 ≤ R.slots)
    (kk : ∀ (H : Heap) (locs : List Loc), W2 D A s.heap H locs w v τ μ → W p l e R s m args below meth c H locs cells slots Q (F0 m (pc + 3) ls (.long r :: rest))) : W p l e R s m args below meth c H locs cells slots Q (F0 m pc ls st) := by
  have hF := h.one.free C
  have hpre := h.one.pre C
  obtain ⟨hx, hb, hml, -, -, hown, hts, hK, hA, hZ⟩ := C
  refine va_calll (va_runV (As := As) (rest := rest) ⟨hx, hb, hml, hown, hts⟩ (hM H.size) (cw hts) ⟨Pre0.blind, va_recv hK h.1 hc he, fun U hU hW => ⟨rfl, hpre U hU hW⟩⟩ rfl hn hsz hst (lv_room hW) hdg hcs) h.2.2.2.2.2 (fun q _ h => hF q h) hF (fun r_2 u t H1 locs ht hvm hw hB hz1 hk1 hS => ?_)
  obtain ⟨rfl, rfl⟩ := hw
  exact kk H1 locs (h.back hF ht hB hk1 hS)
end MYL
theorem arrV_congr (cI : ClassId) {N : Nat} {f g : Nat → Value} (h : ∀ j, j < N → f j = g j) : arrV cI N f = arrV cI N g := by
  unfold arrV
  congr 1
  apply Array.ext
  · simp
  · intro i h1 h2
    simp only [Array.getElem_ofFn]
    exact h i (by simpa using h1)
theorem va_K.one {D : va_G} {cl : List vw_C} {tys : List (ClassId × FieldType)} {U : State} (h : va_K D cl tys U) {i j : Nat} {a b : ClassId} {ty : FieldType} (hi : tys[i]? = some (a, ty)) (hj : tys[j]? = some (b, ty)) : a = b := by
  have h1 := (h.2 i _ hi).2
  have h2 := (h.2 j _ hj).2
  cases ty with
  | object C =>
    obtain ⟨_, _, _, _, _, e1⟩ := h1
    obtain ⟨_, _, _, _, _, e2⟩ := h2
    exact Option.some.inj (e1.symm.trans e2)
  | _ => exact Option.some.inj (Eq.trans (Eq.symm h1) h2)
/-- a row of references seen by another function, the same below its length -/
theorem va_P.refs {D : va_G} {cl : List vw_C} {A : Nat → Prop} {ws : va_W} {H : Heap} {p a n : Nat} {cA : ClassId} {f : Nat → Option Nat} (g : Nat → Option Nat) (h : va_P D cl ws H) (hD : va_D A ws) (hp : ws[p]? = some (a, .inl (cA, n, .inr (.inr (.inr (.inr f)))))) (hg : ∀ j, j < n → f j = g j) : va_P D cl (ws.set p (a, .inl (cA, n, .inr (.inr (.inr (.inr g)))))) H ∧ va_D A (ws.set p (a, .inl (cA, n, .inr (.inr (.inr (.inr g)))))) := by
  refine ⟨h.set hD hp ?_ (fun _ _ => rfl), hD.set hp⟩
  have h1 : H[a]? = some (vp_cell cA (n, .inr (.inr (.inr (.inr f))))) := h p _ hp
  show H[a]? = some (vp_cell cA (n, .inr (.inr (.inr (.inr g)))))
  rw [h1]
  show some (arrV cA n (fun j => va_rf (f j))) = some (arrV cA n (fun j => va_rf (g j)))
  rw [arrV_congr cA (fun j hj => by rw [hg j hj])]
theorem lg_cmp_self (r : Int64) : lg_cmp r r = 0 := by
  unfold lg_cmp
  simp
