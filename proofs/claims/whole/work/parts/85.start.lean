set_option maxHeartbeats 16000000 in
set_option maxRecDepth 100000 in
/-- THE LAW, from its entry -/
theorem whole_start {p : Program} {e : Env} {s : State} {m : MethodId} {below : List Frame} {meth : Method} {c : Code} (l : Launch) {b L : Nat} {xs : Nat → Int32} (hL : L ≤ 3072) (C0 : lw_At p s m meth c b L xs) : W p l e room_1 s m #[Value.ref b] below meth c s.heap [] 0 0 (lw_Z below #[Value.ref b] s) (entryFrame m ([Value.ref b] : List Value).toArray 4) := by
  obtain ⟨hx, hb, hr, hml, hown, hts0, hX, hbl, hlocks, hgv⟩ := id C0
  have hts : ∀ w ∈ wsL_law, w.before #[Value.ref b] s = true := fun w h => hts0 w (wsL_law_in w h)
  obtain ⟨ζ, hZ⟩ := zs_start hts0 hgv
  have hN : Nx s := ⟨ns_start hts0, va_AO.of (hts0 (.arrayOver (.object "ButtonMatch$Sheet")) (by decide +kernel)), va_AO.of (hts0 (.arrayOver (.object "ButtonMatch$Tube")) (by decide +kernel))⟩
  have hA : ∀ q : Nat, s.heap.size ≤ q → (fun q : Nat => s.heap.size ≤ q) q := fun _ h => h
  obtain ⟨c0, iS0, hKn0⟩ := u_known (C := RX0) (T := TX0) (N := 3) (n := 3) hts inlX0 (hts (.instantiable RX0 3) (by decide +kernel))
  obtain ⟨c1, iS1, hKn1⟩ := u_known (C := RX1) (T := TX1) (N := 3) (n := 3) hts inlX1 (hts (.instantiable RX1 3) (by decide +kernel))
  obtain ⟨c2, iS2, hKn2⟩ := u_known (C := RX2) (T := TX2) (N := 10) (n := 10) hts inlX2 (hts (.instantiable RX2 10) (by decide +kernel))
  obtain ⟨c3, iS3, hKn3⟩ := u_known (C := RX5) (T := TX5) (N := 6) (n := 6) hts inlX5 (hts (.instantiable RX5 6) (by decide +kernel))
  obtain ⟨c4, iS4, hKn4⟩ := u_known (C := RX6) (T := TX6) (N := 5) (n := 5) hts inlX6 (hts (.instantiable RX6 5) (by decide +kernel))
  obtain ⟨c5, iS5, hKn5⟩ := u_known (C := RX7) (T := TX7) (N := 33) (n := 33) hts inlX7 (hts (.instantiable RX7 33) (by decide +kernel))
  obtain ⟨D, hKc⟩ : ∃ D : va_G, ∀ (k : Nat) (q : vw_C), vwCl[k]? = some q → u_Kn s q.1 q.2.1 q.2.2 (D.1 k) (D.2 k) := by
    refine ⟨(fun k => match k with | 0 => c0 | 1 => c1 | 2 => c2 | 3 => c3 | 4 => c4 | _ => c5, fun k => match k with | 0 => iS0 | 1 => iS1 | 2 => iS2 | 3 => iS3 | 4 => iS4 | _ => iS5), ?_⟩
    intro k q hq
    match k, hq with
    | 0, hq => cases hq; exact hKn0
    | 1, hq => cases hq; exact hKn1
    | 2, hq => cases hq; exact hKn2
    | 3, hq => cases hq; exact hKn3
    | 4, hq => cases hq; exact hKn4
    | 5, hq => cases hq; exact hKn5
    | k + 6, hq => cases hq
  have hS : va_S (fun q : Nat => s.heap.size ≤ q) s.heap s.heap [] := va_S.rf
  have hK : va_K D vwCl [] s := ⟨hKc, fun k q h => by simp at h⟩
  have hP : va_P D vwCl [] s.heap := fun k q h => by simp at h
  have hD : va_D (fun q : Nat => s.heap.size ≤ q) [] := ⟨fun i j p q h => by simp at h, fun k q h => by simp at h⟩
  have hl := lv_entry ([.ref b]) (n := 4) (Nat.le_of_ble_eq_true rfl)
  rw [lg_entry_eq]
  generalize (lg_sl ([.ref b]) ++ List.replicate (4 - (lg_sl ([.ref b])).length) Slot.unset).toArray = ls at hl ⊢
  have hl : lv_has ls 4 [(0, .ref b)] := hl
  refine va_new (ci := 4) (fs := [.null, .null, .null, .int 0, .int 0]) (C := RX6) (T := TX6) (N := 5) hx hb hts inlX6 tyX6 tyX6_ok hown (hts (.classLink RL 7 RX6) (by decide +kernel)) (hts (.instantiable RX6 5) (by decide +kernel)) (hts (.initialized RX6) (by decide +kernel)) hK hP hD hS hA rfl dfX6 (Nat.le_of_ble_eq_true rfl) (Nat.le_of_ble_eq_true rfl) dL_law_0 (fun qX H hP hD hS => ?_)
  have hP : va_P D vwCl [(qX, .inr (4, [.null, .null, .null, .int 0, .int 0]))] H := hP
  have hD : va_D (fun q : Nat => s.heap.size ≤ q) [(qX, .inr (4, [.null, .null, .null, .int 0, .int 0]))] := hD
  refine lv_dup hx hb dL_law_3 rfl ?_
  have hPc := hP.sub (ws' := [(qX, .inr (4, [.null, .null, .null, .int 0, .int 0]))]) [0] rfl
  have hDc := hD.sub (ws' := [(qX, .inr (4, [.null, .null, .null, .int 0, .int 0]))]) [0] (by decide) rfl
  have hKc := hK.sub (tys' := []) [] rfl
  have hFc := va_free (wc := [(qX, .inr (4, [.null, .null, .null, .int 0, .int 0]))]) hD hS hA [0] rfl
  refine va_callv (va_runI (As := []) (rest := [.ref qX]) ⟨hx, hb, hml, hown, hts⟩ (nX6_init l D qX H.size) (cwI 0 hts gL_law_X6_init rfl rfl rfl (hts (.initialized RX6) (by decide +kernel)) (hts (.methodLink RL 9 yX6_init) (by decide +kernel)) (hts (.instanceMethod yX6_init) (by decide +kernel)) rfl (by decide +kernel) ⟨Nat.le_of_ble_eq_true rfl, Nat.le_of_ble_eq_true rfl⟩) ⟨Nx.blind, fun U hU hW => ⟨rfl, by rw [hU], by rw [hU]; exact hPc, va_K.moved hW.alike hKc, hDc.weaken (fun _ _ _ _ => trivial), hN.warm hW⟩⟩ rfl rfl hl.1 rfl (lv_room (Nat.le_of_ble_eq_true rfl)) dL_law_4 ⟨Nat.le_of_ble_eq_true rfl, Nat.le_of_ble_eq_true rfl⟩) hS (fun q _ h => hFc q h) hFc (fun u t H1 locs ht hvm hw hB hz1 hk1 hS => ?_)
  obtain ⟨xq1, xa2, xq3, xq4, xa5, xq6, xa7, xq8, xq9, xq10, xq11, xq12, xq13, xq14, xq15, xa16, xq17, xa18, xq19, xq20, xa21, xq22, xq23, xa24, xq25, xq26, xa27, xq28, xq29, xa30, hP1, hK1, hD1⟩ := hB
  rw [ht] at hP1
  have hK1 := va_K.moved hvm.symm hK1
  obtain ⟨hP, hD⟩ := va_join (wr := []) (w1 := [(qX, .inr (4, [.ref xq1, .ref xq3, .ref xq14, .int 0, .int 0])), (xq1, .inl (xa2, 4, .inr (.inr (.inr (.inr (va_up (va_up (va_up (va_up (fun _ => none) 0 (some xq19)) 1 (some xq22)) 2 (some xq25)) 3 (some xq28))))))), (xq3, .inr (2, [.ref xq4, .ref xq6, .int 0, .int 0, .int 0, .int 0, .int 0, .int 0, .int 0, .int 0])), (xq4, .inl (xa5, 6, .inr (.inr (.inr (.inr (va_up (va_up (va_up (va_up (va_up (va_up (fun _ => none) 0 (some xq8)) 1 (some xq9)) 2 (some xq10)) 3 (some xq11)) 4 (some xq12)) 5 (some xq13))))))), (xq6, .inl (xa7, 6, .inl (fun _ => 0))), (xq8, .inr (3, [.int 0, .int 0, .int 0, .int 0, .int 0, .int 0])), (xq9, .inr (3, [.int 0, .int 0, .int 0, .int 0, .int 0, .int 0])), (xq10, .inr (3, [.int 0, .int 0, .int 0, .int 0, .int 0, .int 0])), (xq11, .inr (3, [.int 0, .int 0, .int 0, .int 0, .int 0, .int 0])), (xq12, .inr (3, [.int 0, .int 0, .int 0, .int 0, .int 0, .int 0])), (xq13, .inr (3, [.int 0, .int 0, .int 0, .int 0, .int 0, .int 0])), (xq14, .inr (0, [.ref xq15, .ref xq17, .int 0])), (xq15, .inl (xa16, 8, .inl (fun _ => 0))), (xq17, .inl (xa18, 8, .inl (fun _ => 0))), (xq19, .inr (1, [.ref xq20, .int (-1), .int 0])), (xq20, .inl (xa21, 60, .inl (fun _ => 0))), (xq22, .inr (1, [.ref xq23, .int (-1), .int 0])), (xq23, .inl (xa24, 60, .inl (fun _ => 0))), (xq25, .inr (1, [.ref xq26, .int (-1), .int 0])), (xq26, .inl (xa27, 60, .inl (fun _ => 0))), (xq28, .inr (1, [.ref xq29, .int (-1), .int 0])), (xq29, .inl (xa30, 60, .inl (fun _ => 0)))]) hP hD [0] [] rfl rfl (by decide) (by decide) hk1 hFc hP1 hD1
  have hK := hK.app hK1
  generalize H1 = H at hP hS ⊢
  have hP : va_P D vwCl [(qX, .inr (4, [.ref xq1, .ref xq3, .ref xq14, .int 0, .int 0])), (xq1, .inl (xa2, 4, .inr (.inr (.inr (.inr (va_up (va_up (va_up (va_up (fun _ => none) 0 (some xq19)) 1 (some xq22)) 2 (some xq25)) 3 (some xq28))))))), (xq3, .inr (2, [.ref xq4, .ref xq6, .int 0, .int 0, .int 0, .int 0, .int 0, .int 0, .int 0, .int 0])), (xq4, .inl (xa5, 6, .inr (.inr (.inr (.inr (va_up (va_up (va_up (va_up (va_up (va_up (fun _ => none) 0 (some xq8)) 1 (some xq9)) 2 (some xq10)) 3 (some xq11)) 4 (some xq12)) 5 (some xq13))))))), (xq6, .inl (xa7, 6, .inl (fun _ => 0))), (xq8, .inr (3, [.int 0, .int 0, .int 0, .int 0, .int 0, .int 0])), (xq9, .inr (3, [.int 0, .int 0, .int 0, .int 0, .int 0, .int 0])), (xq10, .inr (3, [.int 0, .int 0, .int 0, .int 0, .int 0, .int 0])), (xq11, .inr (3, [.int 0, .int 0, .int 0, .int 0, .int 0, .int 0])), (xq12, .inr (3, [.int 0, .int 0, .int 0, .int 0, .int 0, .int 0])), (xq13, .inr (3, [.int 0, .int 0, .int 0, .int 0, .int 0, .int 0])), (xq14, .inr (0, [.ref xq15, .ref xq17, .int 0])), (xq15, .inl (xa16, 8, .inl (fun _ => 0))), (xq17, .inl (xa18, 8, .inl (fun _ => 0))), (xq19, .inr (1, [.ref xq20, .int (-1), .int 0])), (xq20, .inl (xa21, 60, .inl (fun _ => 0))), (xq22, .inr (1, [.ref xq23, .int (-1), .int 0])), (xq23, .inl (xa24, 60, .inl (fun _ => 0))), (xq25, .inr (1, [.ref xq26, .int (-1), .int 0])), (xq26, .inl (xa27, 60, .inl (fun _ => 0))), (xq28, .inr (1, [.ref xq29, .int (-1), .int 0])), (xq29, .inl (xa30, 60, .inl (fun _ => 0)))] H := hP
  have hD : va_D (fun q : Nat => s.heap.size ≤ q) [(qX, .inr (4, [.ref xq1, .ref xq3, .ref xq14, .int 0, .int 0])), (xq1, .inl (xa2, 4, .inr (.inr (.inr (.inr (va_up (va_up (va_up (va_up (fun _ => none) 0 (some xq19)) 1 (some xq22)) 2 (some xq25)) 3 (some xq28))))))), (xq3, .inr (2, [.ref xq4, .ref xq6, .int 0, .int 0, .int 0, .int 0, .int 0, .int 0, .int 0, .int 0])), (xq4, .inl (xa5, 6, .inr (.inr (.inr (.inr (va_up (va_up (va_up (va_up (va_up (va_up (fun _ => none) 0 (some xq8)) 1 (some xq9)) 2 (some xq10)) 3 (some xq11)) 4 (some xq12)) 5 (some xq13))))))), (xq6, .inl (xa7, 6, .inl (fun _ => 0))), (xq8, .inr (3, [.int 0, .int 0, .int 0, .int 0, .int 0, .int 0])), (xq9, .inr (3, [.int 0, .int 0, .int 0, .int 0, .int 0, .int 0])), (xq10, .inr (3, [.int 0, .int 0, .int 0, .int 0, .int 0, .int 0])), (xq11, .inr (3, [.int 0, .int 0, .int 0, .int 0, .int 0, .int 0])), (xq12, .inr (3, [.int 0, .int 0, .int 0, .int 0, .int 0, .int 0])), (xq13, .inr (3, [.int 0, .int 0, .int 0, .int 0, .int 0, .int 0])), (xq14, .inr (0, [.ref xq15, .ref xq17, .int 0])), (xq15, .inl (xa16, 8, .inl (fun _ => 0))), (xq17, .inl (xa18, 8, .inl (fun _ => 0))), (xq19, .inr (1, [.ref xq20, .int (-1), .int 0])), (xq20, .inl (xa21, 60, .inl (fun _ => 0))), (xq22, .inr (1, [.ref xq23, .int (-1), .int 0])), (xq23, .inl (xa24, 60, .inl (fun _ => 0))), (xq25, .inr (1, [.ref xq26, .int (-1), .int 0])), (xq26, .inl (xa27, 60, .inl (fun _ => 0))), (xq28, .inr (1, [.ref xq29, .int (-1), .int 0])), (xq29, .inl (xa30, 60, .inl (fun _ => 0)))] := hD
  have hK : va_K D vwCl [(xa2, .object "ButtonMatch$Sheet"), (xa5, .object "ButtonMatch$Tube"), (xa7, .int), (xa16, .int), (xa18, .boolean), (xa21, .int), (xa24, .int), (xa27, .int), (xa30, .int)] s := hK
  obtain rfl : xa7 = xa16 := hK.one (i := 2) (j := 3) rfl rfl
  obtain rfl : xa7 = xa21 := hK.one (i := 2) (j := 5) rfl rfl
  obtain rfl : xa7 = xa24 := hK.one (i := 2) (j := 6) rfl rfl
  obtain rfl : xa7 = xa27 := hK.one (i := 2) (j := 7) rfl rfl
  obtain rfl : xa7 = xa30 := hK.one (i := 2) (j := 8) rfl rfl
  have hP : va_P D vwCl [(qX, .inr (4, [.ref xq1, .ref xq3, .ref xq14, .int 0, .int 0])), (xq1, .inl (xa2, 4, .inr (.inr (.inr (.inr (va_up (va_up (va_up (va_up (fun _ => none) 0 (some xq19)) 1 (some xq22)) 2 (some xq25)) 3 (some xq28))))))), (xq3, .inr (2, [.ref xq4, .ref xq6, .int 0, .int 0, .int 0, .int 0, .int 0, .int 0, .int 0, .int 0])), (xq4, .inl (xa5, 6, .inr (.inr (.inr (.inr (va_up (va_up (va_up (va_up (va_up (va_up (fun _ => none) 0 (some xq8)) 1 (some xq9)) 2 (some xq10)) 3 (some xq11)) 4 (some xq12)) 5 (some xq13))))))), (xq6, .inl (xa7, 6, .inl (fun _ => 0))), (xq8, .inr (3, [.int 0, .int 0, .int 0, .int 0, .int 0, .int 0])), (xq9, .inr (3, [.int 0, .int 0, .int 0, .int 0, .int 0, .int 0])), (xq10, .inr (3, [.int 0, .int 0, .int 0, .int 0, .int 0, .int 0])), (xq11, .inr (3, [.int 0, .int 0, .int 0, .int 0, .int 0, .int 0])), (xq12, .inr (3, [.int 0, .int 0, .int 0, .int 0, .int 0, .int 0])), (xq13, .inr (3, [.int 0, .int 0, .int 0, .int 0, .int 0, .int 0])), (xq14, .inr (0, [.ref xq15, .ref xq17, .int 0])), (xq15, .inl (xa7, 8, .inl (fun _ => 0))), (xq17, .inl (xa18, 8, .inl (fun _ => 0))), (xq19, .inr (1, [.ref xq20, .int (-1), .int 0])), (xq20, .inl (xa7, 60, .inl (fun _ => 0))), (xq22, .inr (1, [.ref xq23, .int (-1), .int 0])), (xq23, .inl (xa7, 60, .inl (fun _ => 0))), (xq25, .inr (1, [.ref xq26, .int (-1), .int 0])), (xq26, .inl (xa7, 60, .inl (fun _ => 0))), (xq28, .inr (1, [.ref xq29, .int (-1), .int 0])), (xq29, .inl (xa7, 60, .inl (fun _ => 0)))] H := hP
  have hD : va_D (fun q : Nat => s.heap.size ≤ q) [(qX, .inr (4, [.ref xq1, .ref xq3, .ref xq14, .int 0, .int 0])), (xq1, .inl (xa2, 4, .inr (.inr (.inr (.inr (va_up (va_up (va_up (va_up (fun _ => none) 0 (some xq19)) 1 (some xq22)) 2 (some xq25)) 3 (some xq28))))))), (xq3, .inr (2, [.ref xq4, .ref xq6, .int 0, .int 0, .int 0, .int 0, .int 0, .int 0, .int 0, .int 0])), (xq4, .inl (xa5, 6, .inr (.inr (.inr (.inr (va_up (va_up (va_up (va_up (va_up (va_up (fun _ => none) 0 (some xq8)) 1 (some xq9)) 2 (some xq10)) 3 (some xq11)) 4 (some xq12)) 5 (some xq13))))))), (xq6, .inl (xa7, 6, .inl (fun _ => 0))), (xq8, .inr (3, [.int 0, .int 0, .int 0, .int 0, .int 0, .int 0])), (xq9, .inr (3, [.int 0, .int 0, .int 0, .int 0, .int 0, .int 0])), (xq10, .inr (3, [.int 0, .int 0, .int 0, .int 0, .int 0, .int 0])), (xq11, .inr (3, [.int 0, .int 0, .int 0, .int 0, .int 0, .int 0])), (xq12, .inr (3, [.int 0, .int 0, .int 0, .int 0, .int 0, .int 0])), (xq13, .inr (3, [.int 0, .int 0, .int 0, .int 0, .int 0, .int 0])), (xq14, .inr (0, [.ref xq15, .ref xq17, .int 0])), (xq15, .inl (xa7, 8, .inl (fun _ => 0))), (xq17, .inl (xa18, 8, .inl (fun _ => 0))), (xq19, .inr (1, [.ref xq20, .int (-1), .int 0])), (xq20, .inl (xa7, 60, .inl (fun _ => 0))), (xq22, .inr (1, [.ref xq23, .int (-1), .int 0])), (xq23, .inl (xa7, 60, .inl (fun _ => 0))), (xq25, .inr (1, [.ref xq26, .int (-1), .int 0])), (xq26, .inl (xa7, 60, .inl (fun _ => 0))), (xq28, .inr (1, [.ref xq29, .int (-1), .int 0])), (xq29, .inl (xa7, 60, .inl (fun _ => 0)))] := hD
  have hK : va_K D vwCl [(xa2, .object "ButtonMatch$Sheet"), (xa5, .object "ButtonMatch$Tube"), (xa7, .int), (xa7, .int), (xa18, .boolean), (xa7, .int), (xa7, .int), (xa7, .int), (xa7, .int)] s := hK
  obtain ⟨hP, hD⟩ := hP.refs (p := 1) (n := 4) (fun j => some ((fun k => [qX, xq1, xq19, xq22, xq25, xq28, xq20, xq23, xq26, xq29, xq3, xq4, xq6, xq8, xq9, xq10, xq11, xq12, xq13, xq14, xq15, xq17].getD k 0) (2 + j))) hD rfl (by
    intro j hj
    match j, hj with
    | 0, _ => rfl
    | 1, _ => rfl
    | 2, _ => rfl
    | 3, _ => rfl)
  have hP : va_P D vwCl [(qX, .inr (4, [.ref xq1, .ref xq3, .ref xq14, .int 0, .int 0])), (xq1, .inl (xa2, 4, .inr (.inr (.inr (.inr (fun j => some ((fun k => [qX, xq1, xq19, xq22, xq25, xq28, xq20, xq23, xq26, xq29, xq3, xq4, xq6, xq8, xq9, xq10, xq11, xq12, xq13, xq14, xq15, xq17].getD k 0) (2 + j)))))))), (xq3, .inr (2, [.ref xq4, .ref xq6, .int 0, .int 0, .int 0, .int 0, .int 0, .int 0, .int 0, .int 0])), (xq4, .inl (xa5, 6, .inr (.inr (.inr (.inr (va_up (va_up (va_up (va_up (va_up (va_up (fun _ => none) 0 (some xq8)) 1 (some xq9)) 2 (some xq10)) 3 (some xq11)) 4 (some xq12)) 5 (some xq13))))))), (xq6, .inl (xa7, 6, .inl (fun _ => 0))), (xq8, .inr (3, [.int 0, .int 0, .int 0, .int 0, .int 0, .int 0])), (xq9, .inr (3, [.int 0, .int 0, .int 0, .int 0, .int 0, .int 0])), (xq10, .inr (3, [.int 0, .int 0, .int 0, .int 0, .int 0, .int 0])), (xq11, .inr (3, [.int 0, .int 0, .int 0, .int 0, .int 0, .int 0])), (xq12, .inr (3, [.int 0, .int 0, .int 0, .int 0, .int 0, .int 0])), (xq13, .inr (3, [.int 0, .int 0, .int 0, .int 0, .int 0, .int 0])), (xq14, .inr (0, [.ref xq15, .ref xq17, .int 0])), (xq15, .inl (xa7, 8, .inl (fun _ => 0))), (xq17, .inl (xa18, 8, .inl (fun _ => 0))), (xq19, .inr (1, [.ref xq20, .int (-1), .int 0])), (xq20, .inl (xa7, 60, .inl (fun _ => 0))), (xq22, .inr (1, [.ref xq23, .int (-1), .int 0])), (xq23, .inl (xa7, 60, .inl (fun _ => 0))), (xq25, .inr (1, [.ref xq26, .int (-1), .int 0])), (xq26, .inl (xa7, 60, .inl (fun _ => 0))), (xq28, .inr (1, [.ref xq29, .int (-1), .int 0])), (xq29, .inl (xa7, 60, .inl (fun _ => 0)))] H := hP
  have hD : va_D (fun q : Nat => s.heap.size ≤ q) [(qX, .inr (4, [.ref xq1, .ref xq3, .ref xq14, .int 0, .int 0])), (xq1, .inl (xa2, 4, .inr (.inr (.inr (.inr (fun j => some ((fun k => [qX, xq1, xq19, xq22, xq25, xq28, xq20, xq23, xq26, xq29, xq3, xq4, xq6, xq8, xq9, xq10, xq11, xq12, xq13, xq14, xq15, xq17].getD k 0) (2 + j)))))))), (xq3, .inr (2, [.ref xq4, .ref xq6, .int 0, .int 0, .int 0, .int 0, .int 0, .int 0, .int 0, .int 0])), (xq4, .inl (xa5, 6, .inr (.inr (.inr (.inr (va_up (va_up (va_up (va_up (va_up (va_up (fun _ => none) 0 (some xq8)) 1 (some xq9)) 2 (some xq10)) 3 (some xq11)) 4 (some xq12)) 5 (some xq13))))))), (xq6, .inl (xa7, 6, .inl (fun _ => 0))), (xq8, .inr (3, [.int 0, .int 0, .int 0, .int 0, .int 0, .int 0])), (xq9, .inr (3, [.int 0, .int 0, .int 0, .int 0, .int 0, .int 0])), (xq10, .inr (3, [.int 0, .int 0, .int 0, .int 0, .int 0, .int 0])), (xq11, .inr (3, [.int 0, .int 0, .int 0, .int 0, .int 0, .int 0])), (xq12, .inr (3, [.int 0, .int 0, .int 0, .int 0, .int 0, .int 0])), (xq13, .inr (3, [.int 0, .int 0, .int 0, .int 0, .int 0, .int 0])), (xq14, .inr (0, [.ref xq15, .ref xq17, .int 0])), (xq15, .inl (xa7, 8, .inl (fun _ => 0))), (xq17, .inl (xa18, 8, .inl (fun _ => 0))), (xq19, .inr (1, [.ref xq20, .int (-1), .int 0])), (xq20, .inl (xa7, 60, .inl (fun _ => 0))), (xq22, .inr (1, [.ref xq23, .int (-1), .int 0])), (xq23, .inl (xa7, 60, .inl (fun _ => 0))), (xq25, .inr (1, [.ref xq26, .int (-1), .int 0])), (xq26, .inl (xa7, 60, .inl (fun _ => 0))), (xq28, .inr (1, [.ref xq29, .int (-1), .int 0])), (xq29, .inl (xa7, 60, .inl (fun _ => 0)))] := hD
  obtain ⟨hP, hD⟩ := hP.refs (p := 3) (n := 6) (fun j => some ((fun k => [qX, xq1, xq19, xq22, xq25, xq28, xq20, xq23, xq26, xq29, xq3, xq4, xq6, xq8, xq9, xq10, xq11, xq12, xq13, xq14, xq15, xq17].getD k 0) (13 + j))) hD rfl (by
    intro j hj
    match j, hj with
    | 0, _ => rfl
    | 1, _ => rfl
    | 2, _ => rfl
    | 3, _ => rfl
    | 4, _ => rfl
    | 5, _ => rfl)
  have hP : va_P D vwCl [(qX, .inr (4, [.ref xq1, .ref xq3, .ref xq14, .int 0, .int 0])), (xq1, .inl (xa2, 4, .inr (.inr (.inr (.inr (fun j => some ((fun k => [qX, xq1, xq19, xq22, xq25, xq28, xq20, xq23, xq26, xq29, xq3, xq4, xq6, xq8, xq9, xq10, xq11, xq12, xq13, xq14, xq15, xq17].getD k 0) (2 + j)))))))), (xq3, .inr (2, [.ref xq4, .ref xq6, .int 0, .int 0, .int 0, .int 0, .int 0, .int 0, .int 0, .int 0])), (xq4, .inl (xa5, 6, .inr (.inr (.inr (.inr (fun j => some ((fun k => [qX, xq1, xq19, xq22, xq25, xq28, xq20, xq23, xq26, xq29, xq3, xq4, xq6, xq8, xq9, xq10, xq11, xq12, xq13, xq14, xq15, xq17].getD k 0) (13 + j)))))))), (xq6, .inl (xa7, 6, .inl (fun _ => 0))), (xq8, .inr (3, [.int 0, .int 0, .int 0, .int 0, .int 0, .int 0])), (xq9, .inr (3, [.int 0, .int 0, .int 0, .int 0, .int 0, .int 0])), (xq10, .inr (3, [.int 0, .int 0, .int 0, .int 0, .int 0, .int 0])), (xq11, .inr (3, [.int 0, .int 0, .int 0, .int 0, .int 0, .int 0])), (xq12, .inr (3, [.int 0, .int 0, .int 0, .int 0, .int 0, .int 0])), (xq13, .inr (3, [.int 0, .int 0, .int 0, .int 0, .int 0, .int 0])), (xq14, .inr (0, [.ref xq15, .ref xq17, .int 0])), (xq15, .inl (xa7, 8, .inl (fun _ => 0))), (xq17, .inl (xa18, 8, .inl (fun _ => 0))), (xq19, .inr (1, [.ref xq20, .int (-1), .int 0])), (xq20, .inl (xa7, 60, .inl (fun _ => 0))), (xq22, .inr (1, [.ref xq23, .int (-1), .int 0])), (xq23, .inl (xa7, 60, .inl (fun _ => 0))), (xq25, .inr (1, [.ref xq26, .int (-1), .int 0])), (xq26, .inl (xa7, 60, .inl (fun _ => 0))), (xq28, .inr (1, [.ref xq29, .int (-1), .int 0])), (xq29, .inl (xa7, 60, .inl (fun _ => 0)))] H := hP
  have hD : va_D (fun q : Nat => s.heap.size ≤ q) [(qX, .inr (4, [.ref xq1, .ref xq3, .ref xq14, .int 0, .int 0])), (xq1, .inl (xa2, 4, .inr (.inr (.inr (.inr (fun j => some ((fun k => [qX, xq1, xq19, xq22, xq25, xq28, xq20, xq23, xq26, xq29, xq3, xq4, xq6, xq8, xq9, xq10, xq11, xq12, xq13, xq14, xq15, xq17].getD k 0) (2 + j)))))))), (xq3, .inr (2, [.ref xq4, .ref xq6, .int 0, .int 0, .int 0, .int 0, .int 0, .int 0, .int 0, .int 0])), (xq4, .inl (xa5, 6, .inr (.inr (.inr (.inr (fun j => some ((fun k => [qX, xq1, xq19, xq22, xq25, xq28, xq20, xq23, xq26, xq29, xq3, xq4, xq6, xq8, xq9, xq10, xq11, xq12, xq13, xq14, xq15, xq17].getD k 0) (13 + j)))))))), (xq6, .inl (xa7, 6, .inl (fun _ => 0))), (xq8, .inr (3, [.int 0, .int 0, .int 0, .int 0, .int 0, .int 0])), (xq9, .inr (3, [.int 0, .int 0, .int 0, .int 0, .int 0, .int 0])), (xq10, .inr (3, [.int 0, .int 0, .int 0, .int 0, .int 0, .int 0])), (xq11, .inr (3, [.int 0, .int 0, .int 0, .int 0, .int 0, .int 0])), (xq12, .inr (3, [.int 0, .int 0, .int 0, .int 0, .int 0, .int 0])), (xq13, .inr (3, [.int 0, .int 0, .int 0, .int 0, .int 0, .int 0])), (xq14, .inr (0, [.ref xq15, .ref xq17, .int 0])), (xq15, .inl (xa7, 8, .inl (fun _ => 0))), (xq17, .inl (xa18, 8, .inl (fun _ => 0))), (xq19, .inr (1, [.ref xq20, .int (-1), .int 0])), (xq20, .inl (xa7, 60, .inl (fun _ => 0))), (xq22, .inr (1, [.ref xq23, .int (-1), .int 0])), (xq23, .inl (xa7, 60, .inl (fun _ => 0))), (xq25, .inr (1, [.ref xq26, .int (-1), .int 0])), (xq26, .inl (xa7, 60, .inl (fun _ => 0))), (xq28, .inr (1, [.ref xq29, .int (-1), .int 0])), (xq29, .inl (xa7, 60, .inl (fun _ => 0)))] := hD
  obtain ⟨κ, eκ⟩ : ∃ κ : Kp, κ = ((fun k => match k with | 0 => xa7 | 1 => xa18 | 2 => xa2 | _ => xa5, ζ) : Kp) := ⟨_, rfl⟩
  obtain ⟨ad, ead⟩ : ∃ ad : Nat → Nat, ad = (fun k => [qX, xq1, xq19, xq22, xq25, xq28, xq20, xq23, xq26, xq29, xq3, xq4, xq6, xq8, xq9, xq10, xq11, xq12, xq13, xq14, xq15, xq17].getD k 0) := ⟨_, rfl⟩
  have e0 : qX = ad 0 := by rw [ead]; rfl
  have hP : va_P D vwCl (wsX κ ad sX0) H := by rw [eκ, ead]; exact hP.sub [0, 1, 14, 16, 18, 20, 15, 17, 19, 21, 2, 3, 4, 5, 6, 7, 8, 9, 10, 11, 12, 13] rfl
  have hD : va_D (fun q : Nat => s.heap.size ≤ q) (wsX κ ad sX0) := by rw [eκ, ead]; exact hD.sub [0, 1, 14, 16, 18, 20, 15, 17, 19, 21, 2, 3, 4, 5, 6, 7, 8, 9, 10, 11, 12, 13] (by decide) rfl
  have hK : va_K D vwCl (tysX κ) s := by rw [eκ]; exact hK.sub [2, 4, 0, 1] rfl
  have eζ : κ.2 = ζ := by rw [eκ]
  rw [e0]
  clear ead e0
  refine lv_astore_n (lv' := [(1, .ref (ad 0)), (0, .ref b)]) hx hb dL_law_7 rfl hl (by decide) rfl (fun ls hl => ?_)
  refine va_new (ci := 5) (fs := [.int 0, .int 0, .null, .null, .null, .int 0, .int 0, .int 0, .int 0, .null, .int 0, .null, .null, .null, .null, .null, .null, .int 0, .int 0, .int 0, .int 0, .int 0, .null, .null, .int 0, .null, .int 0, .int 0, .null, .null, .int 0, .null, .null]) (C := RX7) (T := TX7) (N := 33) hx hb hts inlX7 tyX7 tyX7_ok hown (hts (.classLink RL 10 RX7) (by decide +kernel)) (hts (.instantiable RX7 33) (by decide +kernel)) (hts (.initialized RX7) (by decide +kernel)) hK hP hD hS hA rfl dfX7 (Nat.le_of_ble_eq_true rfl) (Nat.le_of_ble_eq_true rfl) dL_law_8 (fun qM H hP hD hS => ?_)
  have hP2 := hP.sub (ws' := [(qM, .inr (5, [.int 0, .int 0, .null, .null, .null, .int 0, .int 0, .int 0, .int 0, .null, .int 0, .null, .null, .null, .null, .null, .null, .int 0, .int 0, .int 0, .int 0, .int 0, .null, .null, .int 0, .null, .int 0, .int 0, .null, .null, .int 0, .null, .null]))]) [22] rfl
  have hD2 := hD.sub (ws' := [(qM, .inr (5, [.int 0, .int 0, .null, .null, .null, .int 0, .int 0, .int 0, .int 0, .null, .int 0, .null, .null, .null, .null, .null, .null, .int 0, .int 0, .int 0, .int 0, .int 0, .null, .null, .int 0, .null, .int 0, .int 0, .null, .null, .int 0, .null, .null]))]) [22] (by decide) rfl
  refine lv_dup hx hb dL_law_11 rfl ?_
  have hKc := hK.sub (tys' := []) [] rfl
  have hFc := va_free (wc := [(qM, .inr (5, [.int 0, .int 0, .null, .null, .null, .int 0, .int 0, .int 0, .int 0, .null, .int 0, .null, .null, .null, .null, .null, .null, .int 0, .int 0, .int 0, .int 0, .int 0, .null, .null, .int 0, .null, .int 0, .int 0, .null, .null, .int 0, .null, .null]))]) hD hS hA [22] rfl
  refine va_callv (va_runI (As := []) (rest := [.ref qM]) ⟨hx, hb, hml, hown, hts⟩ (nX7_init l D qM H.size) (cwI 0 hts gL_law_X7_init rfl rfl rfl (hts (.initialized RX7) (by decide +kernel)) (hts (.methodLink RL 12 yX7_init) (by decide +kernel)) (hts (.instanceMethod yX7_init) (by decide +kernel)) rfl (by decide +kernel) ⟨Nat.le_of_ble_eq_true rfl, Nat.le_of_ble_eq_true rfl⟩) ⟨Nx.blind, fun U hU hW => ⟨rfl, by rw [hU], by rw [hU]; exact hP2, va_K.moved hW.alike hKc, hD2.weaken (fun _ _ _ _ => trivial), hN.warm hW⟩⟩ rfl rfl hl.1 rfl (lv_room (Nat.le_of_ble_eq_true rfl)) dL_law_12 ⟨Nat.le_of_ble_eq_true rfl, Nat.le_of_ble_eq_true rfl⟩) hS (fun q _ h => hFc q h) hFc (fun u t H1 locs ht hvm hw hB hz1 hk1 hS => ?_)
  obtain ⟨mq1, ma2, mq3, ma4, mq5, ma6, mq7, ma8, mq9, ma10, mq11, ma12, mq13, ma14, mq15, ma16, mq17, ma18, mq19, ma20, mq21, ma22, mq23, ma24, mq25, ma26, mq27, ma28, mq29, ma30, mq31, ma32, mq33, ma34, hP1, hK1, hD1⟩ := hB
  rw [ht] at hP1
  have hK1 := va_K.moved hvm.symm hK1
  obtain ⟨hP, hD⟩ := va_join (wr := wsX κ ad sX0) (w1 := [(qM, .inr (5, [.int 0, .int 0, .ref mq1, .ref mq3, .ref mq5, .int 0, .int 0, .int 0, .int 0, .ref mq7, .int 0, .ref mq9, .ref mq11, .ref mq13, .ref mq15, .ref mq17, .ref mq19, .int 0, .int 0, .int 0, .int 0, .int 0, .ref mq21, .ref mq23, .int 0, .ref mq25, .int 0, .int 0, .ref mq27, .ref mq29, .int 0, .ref mq31, .ref mq33])), (mq1, .inl (ma2, 4, .inl (upd (upd (upd (upd (fun _ => 0) 0 (-9)) 1 (-9)) 2 (-9)) 3 (-9)))), (mq3, .inl (ma4, 4, .inl (fun _ => 0))), (mq5, .inl (ma6, 240, .inl (fun _ => 0))), (mq7, .inl (ma8, 6, .inl (fun _ => 0))), (mq9, .inl (ma10, 6, .inl (fun _ => 0))), (mq11, .inl (ma12, 6, .inl (fun _ => 0))), (mq13, .inl (ma14, 6, .inl (fun _ => 0))), (mq15, .inl (ma16, 6, .inl (fun _ => 0))), (mq17, .inl (ma18, 6, .inl (fun _ => 0))), (mq19, .inl (ma20, 6, .inl (fun _ => 0))), (mq21, .inl (ma22, 10, .inl (fun _ => 0))), (mq23, .inl (ma24, 36, .inl (fun _ => 0))), (mq25, .inl (ma26, 3, .inl (fun _ => 0))), (mq27, .inl (ma28, 6, .inl (fun _ => 0))), (mq29, .inl (ma30, 6, .inl (fun _ => 0))), (mq31, .inl (ma32, 8, .inl (fun _ => 0))), (mq33, .inl (ma34, 8, .inl (fun _ => 0)))]) hP hD [22] [0, 1, 2, 3, 4, 5, 6, 7, 8, 9, 10, 11, 12, 13, 14, 15, 16, 17, 18, 19, 20, 21] rfl rfl (by decide) (by decide) hk1 hFc hP1 hD1
  have hK2 := hK.app hK1
  generalize H1 = H at hP hS ⊢
  have ea0 : ma2 = κ.1 0 := hK2.one (i := 4) (j := 0) (ty := .int) rfl rfl
  have ea1 : ma4 = κ.1 0 := hK2.one (i := 5) (j := 0) (ty := .int) rfl rfl
  have ea2 : ma6 = κ.1 0 := hK2.one (i := 6) (j := 0) (ty := .int) rfl rfl
  have ea3 : ma8 = κ.1 0 := hK2.one (i := 7) (j := 0) (ty := .int) rfl rfl
  have ea4 : ma10 = κ.1 0 := hK2.one (i := 8) (j := 0) (ty := .int) rfl rfl
  have ea5 : ma12 = κ.1 0 := hK2.one (i := 9) (j := 0) (ty := .int) rfl rfl
  have ea6 : ma14 = κ.1 0 := hK2.one (i := 10) (j := 0) (ty := .int) rfl rfl
  have ea7 : ma16 = κ.1 0 := hK2.one (i := 11) (j := 0) (ty := .int) rfl rfl
  have ea8 : ma18 = κ.1 0 := hK2.one (i := 12) (j := 0) (ty := .int) rfl rfl
  have ea9 : ma20 = κ.1 0 := hK2.one (i := 13) (j := 0) (ty := .int) rfl rfl
  have ea10 : ma22 = κ.1 0 := hK2.one (i := 14) (j := 0) (ty := .int) rfl rfl
  have ea11 : ma24 = κ.1 0 := hK2.one (i := 15) (j := 0) (ty := .int) rfl rfl
  have ea12 : ma26 = κ.1 0 := hK2.one (i := 16) (j := 0) (ty := .int) rfl rfl
  have ea13 : ma28 = κ.1 0 := hK2.one (i := 17) (j := 0) (ty := .int) rfl rfl
  have ea14 : ma30 = κ.1 0 := hK2.one (i := 18) (j := 0) (ty := .int) rfl rfl
  have ea15 : ma32 = κ.1 0 := hK2.one (i := 19) (j := 0) (ty := .int) rfl rfl
  have ea16 : ma34 = κ.1 1 := hK2.one (i := 20) (j := 1) (ty := .boolean) rfl rfl
  subst ea0 ea1 ea2 ea3 ea4 ea5 ea6 ea7 ea8 ea9 ea10 ea11 ea12 ea13 ea14 ea15 ea16
  obtain ⟨ad2, ead2⟩ : ∃ ad2 : Nat → Nat, ad2 = (fun k => [qM, mq1, mq3, mq5, mq7, mq9, mq11, mq13, mq15, mq17, mq19, mq21, mq23, mq25, mq27, mq29, mq31, mq33].getD k 0) := ⟨_, rfl⟩
  have e1 : qM = ad2 0 := by rw [ead2]; rfl
  have hPX : va_P D vwCl (wsX κ ad sX0) H := hP.sub [0, 1, 2, 3, 4, 5, 6, 7, 8, 9, 10, 11, 12, 13, 14, 15, 16, 17, 18, 19, 20, 21] rfl
  have hDX : va_D (fun q : Nat => s.heap.size ≤ q) (wsX κ ad sX0) := hD.sub [0, 1, 2, 3, 4, 5, 6, 7, 8, 9, 10, 11, 12, 13, 14, 15, 16, 17, 18, 19, 20, 21] (by decide) rfl
  have hPM : va_P D vwCl (wsM κ ad2 sM0) H := by rw [ead2]; exact hP.sub [22, 23, 24, 25, 26, 27, 28, 29, 30, 31, 32, 33, 34, 35, 36, 37, 38, 39] rfl
  have hDM : va_D (fun q : Nat => s.heap.size ≤ q) (wsM κ ad2 sM0) := by rw [ead2]; exact hD.sub [22, 23, 24, 25, 26, 27, 28, 29, 30, 31, 32, 33, 34, 35, 36, 37, 38, 39] (by decide) rfl
  have hdis : ∀ (σ μ : Sg) (i j : Nat) (p q : Nat × va_E), (wsX κ ad σ)[i]? = some p → (wsM κ ad2 μ)[j]? = some q → p.1 ≠ q.1 := by
    intro σ μ i j p q hp hq e
    obtain ⟨hi, ep⟩ := wsX_ad i p hp
    obtain ⟨hj, eq⟩ := wsM_ad j q hq
    have h1 : ∃ z, (wsX κ ad sX0 ++ [(qM, .inr (5, [.int 0, .int 0, .ref mq1, .ref mq3, .ref mq5, .int 0, .int 0, .int 0, .int 0, .ref mq7, .int 0, .ref mq9, .ref mq11, .ref mq13, .ref mq15, .ref mq17, .ref mq19, .int 0, .int 0, .int 0, .int 0, .int 0, .ref mq21, .ref mq23, .int 0, .ref mq25, .int 0, .int 0, .ref mq27, .ref mq29, .int 0, .ref mq31, .ref mq33])), (mq1, .inl ((κ.1 0), 4, .inl (upd (upd (upd (upd (fun _ => 0) 0 (-9)) 1 (-9)) 2 (-9)) 3 (-9)))), (mq3, .inl ((κ.1 0), 4, .inl (fun _ => 0))), (mq5, .inl ((κ.1 0), 240, .inl (fun _ => 0))), (mq7, .inl ((κ.1 0), 6, .inl (fun _ => 0))), (mq9, .inl ((κ.1 0), 6, .inl (fun _ => 0))), (mq11, .inl ((κ.1 0), 6, .inl (fun _ => 0))), (mq13, .inl ((κ.1 0), 6, .inl (fun _ => 0))), (mq15, .inl ((κ.1 0), 6, .inl (fun _ => 0))), (mq17, .inl ((κ.1 0), 6, .inl (fun _ => 0))), (mq19, .inl ((κ.1 0), 6, .inl (fun _ => 0))), (mq21, .inl ((κ.1 0), 10, .inl (fun _ => 0))), (mq23, .inl ((κ.1 0), 36, .inl (fun _ => 0))), (mq25, .inl ((κ.1 0), 3, .inl (fun _ => 0))), (mq27, .inl ((κ.1 0), 6, .inl (fun _ => 0))), (mq29, .inl ((κ.1 0), 6, .inl (fun _ => 0))), (mq31, .inl ((κ.1 0), 8, .inl (fun _ => 0))), (mq33, .inl ((κ.1 1), 8, .inl (fun _ => 0)))])[i]? = some (ad i, z) := by
      match i, hi with
      | 0, _ => exact ⟨_, rfl⟩
      | 1, _ => exact ⟨_, rfl⟩
      | 2, _ => exact ⟨_, rfl⟩
      | 3, _ => exact ⟨_, rfl⟩
      | 4, _ => exact ⟨_, rfl⟩
      | 5, _ => exact ⟨_, rfl⟩
      | 6, _ => exact ⟨_, rfl⟩
      | 7, _ => exact ⟨_, rfl⟩
      | 8, _ => exact ⟨_, rfl⟩
      | 9, _ => exact ⟨_, rfl⟩
      | 10, _ => exact ⟨_, rfl⟩
      | 11, _ => exact ⟨_, rfl⟩
      | 12, _ => exact ⟨_, rfl⟩
      | 13, _ => exact ⟨_, rfl⟩
      | 14, _ => exact ⟨_, rfl⟩
      | 15, _ => exact ⟨_, rfl⟩
      | 16, _ => exact ⟨_, rfl⟩
      | 17, _ => exact ⟨_, rfl⟩
      | 18, _ => exact ⟨_, rfl⟩
      | 19, _ => exact ⟨_, rfl⟩
      | 20, _ => exact ⟨_, rfl⟩
      | 21, _ => exact ⟨_, rfl⟩
      | k + 22, h => exact absurd h (by omega)
    have h2 : ∃ z k, 22 ≤ k ∧ (wsX κ ad sX0 ++ [(qM, .inr (5, [.int 0, .int 0, .ref mq1, .ref mq3, .ref mq5, .int 0, .int 0, .int 0, .int 0, .ref mq7, .int 0, .ref mq9, .ref mq11, .ref mq13, .ref mq15, .ref mq17, .ref mq19, .int 0, .int 0, .int 0, .int 0, .int 0, .ref mq21, .ref mq23, .int 0, .ref mq25, .int 0, .int 0, .ref mq27, .ref mq29, .int 0, .ref mq31, .ref mq33])), (mq1, .inl ((κ.1 0), 4, .inl (upd (upd (upd (upd (fun _ => 0) 0 (-9)) 1 (-9)) 2 (-9)) 3 (-9)))), (mq3, .inl ((κ.1 0), 4, .inl (fun _ => 0))), (mq5, .inl ((κ.1 0), 240, .inl (fun _ => 0))), (mq7, .inl ((κ.1 0), 6, .inl (fun _ => 0))), (mq9, .inl ((κ.1 0), 6, .inl (fun _ => 0))), (mq11, .inl ((κ.1 0), 6, .inl (fun _ => 0))), (mq13, .inl ((κ.1 0), 6, .inl (fun _ => 0))), (mq15, .inl ((κ.1 0), 6, .inl (fun _ => 0))), (mq17, .inl ((κ.1 0), 6, .inl (fun _ => 0))), (mq19, .inl ((κ.1 0), 6, .inl (fun _ => 0))), (mq21, .inl ((κ.1 0), 10, .inl (fun _ => 0))), (mq23, .inl ((κ.1 0), 36, .inl (fun _ => 0))), (mq25, .inl ((κ.1 0), 3, .inl (fun _ => 0))), (mq27, .inl ((κ.1 0), 6, .inl (fun _ => 0))), (mq29, .inl ((κ.1 0), 6, .inl (fun _ => 0))), (mq31, .inl ((κ.1 0), 8, .inl (fun _ => 0))), (mq33, .inl ((κ.1 1), 8, .inl (fun _ => 0)))])[k]? = some (ad2 j, z) := by
      rw [ead2]
      match j, hj with
      | 0, _ => exact ⟨_, 22, by decide, rfl⟩
      | 1, _ => exact ⟨_, 23, by decide, rfl⟩
      | 2, _ => exact ⟨_, 24, by decide, rfl⟩
      | 3, _ => exact ⟨_, 25, by decide, rfl⟩
      | 4, _ => exact ⟨_, 26, by decide, rfl⟩
      | 5, _ => exact ⟨_, 27, by decide, rfl⟩
      | 6, _ => exact ⟨_, 28, by decide, rfl⟩
      | 7, _ => exact ⟨_, 29, by decide, rfl⟩
      | 8, _ => exact ⟨_, 30, by decide, rfl⟩
      | 9, _ => exact ⟨_, 31, by decide, rfl⟩
      | 10, _ => exact ⟨_, 32, by decide, rfl⟩
      | 11, _ => exact ⟨_, 33, by decide, rfl⟩
      | 12, _ => exact ⟨_, 34, by decide, rfl⟩
      | 13, _ => exact ⟨_, 35, by decide, rfl⟩
      | 14, _ => exact ⟨_, 36, by decide, rfl⟩
      | 15, _ => exact ⟨_, 37, by decide, rfl⟩
      | 16, _ => exact ⟨_, 38, by decide, rfl⟩
      | 17, _ => exact ⟨_, 39, by decide, rfl⟩
      | k + 18, h => exact absurd h (by omega)
    obtain ⟨z1, h1⟩ := h1
    obtain ⟨z2, k, hk, h2⟩ := h2
    have := hD.1 i k _ _ h1 h2 (by rw [ep, eq] at e; exact e)
    omega
  rw [e1]
  clear ead2 e1
  refine lv_astore_n (lv' := [(2, .ref (ad2 0)), (1, .ref (ad 0)), (0, .ref b)]) hx hb dL_law_15 rfl hl (by decide) rfl (fun ls hl => ?_)
  refine lv_iconst (v := 0) hx hb dL_law_16 (by decide) ?_
  refine lv_istore_n (lv' := [(3, .int 0), (2, .ref (ad2 0)), (1, .ref (ad 0)), (0, .ref b)]) hx hb dL_law_17 rfl hl (by decide) rfl (fun ls hl => ?_)
  exact law_loop (κ := κ) hL ⟨hx, hb, hml, hr, hlocks, hown, hts, hK, hA, by rw [eζ]; exact hZ⟩ hX hbl (L + 1) 0 0 (Nat.zero_le L) (by omega) nI_0.symm sX0 sM0 _ _ _ ⟨hPX, hPM, hDX, hDM, hdis, hS⟩ Inv0 (lv_sub hl [3, 2, 1, 0] rfl)
