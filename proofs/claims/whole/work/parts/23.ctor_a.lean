theorem cz_i (n : Nat) (cA : ClassId) : vp_cell cA (n, .inl (fun _ => 0)) = arrV cA n (fun _ => defaultValue .int) := rfl
theorem cz_z (n : Nat) (cA : ClassId) : vp_cell cA (n, .inl (fun _ => 0)) = arrV cA n (fun _ => defaultValue .boolean) := rfl
def Nx (U : State) : Prop := Ns U ∧ va_AO "ButtonMatch$Sheet" U ∧ va_AO "ButtonMatch$Tube" U
theorem Nx.warm {s U : State} (hW : s.WarmedH U.vm) (h : Nx s) : Nx U := ⟨h.1.warm hW, h.2.1.moved hW.alike, h.2.2.moved hW.alike⟩
def PreN (D : va_G) (w : va_W) (sz : Nat) (U : State) : Prop := U.heap.size = sz ∧ va_P D vwCl w U.heap ∧ va_K D vwCl [] U ∧ va_D (fun _ => True) w ∧ Nx U
theorem Nx.blind {D : va_G} {w : va_W} {sz : Nat} {av : List Value} : FrameBlind (va_Pc av (PreN D w sz)) := fun a U g mk q => by
  obtain ⟨q0, q1, qP, qK, qD, qN⟩ := q
  exact ⟨q0, q1, qP, va_K.moved (u := U) (U := U.calling g mk a) (Vm.Alike.refl U.vm) qK, qD, Ns.same (u := U) (U := U.calling g mk a) rfl qN.1, va_AO.moved (u := U) (U := U.calling g mk a) (Vm.Alike.refl U.vm) qN.2.1, va_AO.moved (u := U) (U := U.calling g mk a) (Vm.Alike.refl U.vm) qN.2.2⟩
theorem dfX0 : ∀ j, j < 3 → defaultValue (tyX0 j) = vp_V [.null, .null, .int 0] j := by
  intro j hj
  match j, hj with
  | 0, _ => rfl
  | 1, _ => rfl
  | 2, _ => rfl
  | k + 3, h => exact absurd h (by omega)
theorem dfX1 : ∀ j, j < 3 → defaultValue (tyX1 j) = vp_V [.null, .int 0, .int 0] j := by
  intro j hj
  match j, hj with
  | 0, _ => rfl
  | 1, _ => rfl
  | 2, _ => rfl
  | k + 3, h => exact absurd h (by omega)
theorem dfX2 : ∀ j, j < 10 → defaultValue (tyX2 j) = vp_V [.null, .null, .int 0, .int 0, .int 0, .int 0, .int 0, .int 0, .int 0, .int 0] j := by
  intro j hj
  match j, hj with
  | 0, _ => rfl
  | 1, _ => rfl
  | 2, _ => rfl
  | 3, _ => rfl
  | 4, _ => rfl
  | 5, _ => rfl
  | 6, _ => rfl
  | 7, _ => rfl
  | 8, _ => rfl
  | 9, _ => rfl
  | k + 10, h => exact absurd h (by omega)
theorem dfX5 : ∀ j, j < 6 → defaultValue (tyX5 j) = vp_V [.int 0, .int 0, .int 0, .int 0, .int 0, .int 0] j := by
  intro j hj
  match j, hj with
  | 0, _ => rfl
  | 1, _ => rfl
  | 2, _ => rfl
  | 3, _ => rfl
  | 4, _ => rfl
  | 5, _ => rfl
  | k + 6, h => exact absurd h (by omega)
theorem dfX6 : ∀ j, j < 5 → defaultValue (tyX6 j) = vp_V [.null, .null, .null, .int 0, .int 0] j := by
  intro j hj
  match j, hj with
  | 0, _ => rfl
  | 1, _ => rfl
  | 2, _ => rfl
  | 3, _ => rfl
  | 4, _ => rfl
  | k + 5, h => exact absurd h (by omega)
theorem dfX7 : ∀ j, j < 33 → defaultValue (tyX7 j) = vp_V [.int 0, .int 0, .null, .null, .null, .int 0, .int 0, .int 0, .int 0, .null, .int 0, .null, .null, .null, .null, .null, .null, .int 0, .int 0, .int 0, .int 0, .int 0, .null, .null, .int 0, .null, .int 0, .int 0, .null, .null, .int 0, .null, .null] j := by
  intro j hj
  match j, hj with
  | 0, _ => rfl
  | 1, _ => rfl
  | 2, _ => rfl
  | 3, _ => rfl
  | 4, _ => rfl
  | 5, _ => rfl
  | 6, _ => rfl
  | 7, _ => rfl
  | 8, _ => rfl
  | 9, _ => rfl
  | 10, _ => rfl
  | 11, _ => rfl
  | 12, _ => rfl
  | 13, _ => rfl
  | 14, _ => rfl
  | 15, _ => rfl
  | 16, _ => rfl
  | 17, _ => rfl
  | 18, _ => rfl
  | 19, _ => rfl
  | 20, _ => rfl
  | 21, _ => rfl
  | 22, _ => rfl
  | 23, _ => rfl
  | 24, _ => rfl
  | 25, _ => rfl
  | 26, _ => rfl
  | 27, _ => rfl
  | 28, _ => rfl
  | 29, _ => rfl
  | 30, _ => rfl
  | 31, _ => rfl
  | 32, _ => rfl
  | k + 33, h => exact absurd h (by omega)
set_option maxHeartbeats 2000000 in
set_option maxRecDepth 100000 in
theorem nX5_init (l : Launch) (D : va_G) (h0 sz : Nat) : Met l yX5_init wsX5_init { frames := 1, cells := 0, slots := 0, locals := 12 } (va_Pc [.ref h0] (PreN D [(h0, .inr (3, [.int 0, .int 0, .int 0, .int 0, .int 0, .int 0]))] sz)) (va_Qv (fun _ : Unit => True) (fun _ t => va_P D vwCl [(h0, .inr (3, [.int 0, .int 0, .int 0, .int 0, .int 0, .int 0]))] t.heap ∧ va_K D vwCl [] t ∧ va_D (va_A [(h0, .inr (3, [.int 0, .int 0, .int 0, .int 0, .int 0, .int 0]))] sz) [(h0, .inr (3, [.int 0, .int 0, .int 0, .int 0, .int 0, .int 0]))]) (va_A [(h0, .inr (3, [.int 0, .int 0, .int 0, .int 0, .int 0, .int 0]))] sz)) 0 0 (va_A [(h0, .inr (3, [.int 0, .int 0, .int 0, .int 0, .int 0, .int 0]))] sz) := by
  refine Met.ofW (cc := cX5_init) (maxL := 1) (ret := none) (by decide) rfl ?_
  intro p e s m args below meth c s₁ B hml hv
  obtain ⟨rfl, hsz, hP, hK, hD0, hN⟩ := hv
  have hx := B.exec
  have hb := B.bytes
  have hr := B.returns
  have hts := atoms_spec (ws := wsX5_init) B.pre
  have hown : s.vm.findClass RX5 = some m.cls := findClass_of_methodNamed B.named
  have hlocks := B.notSynchronized
  have hin : meth.name = "<init>" := (name_of_methodNamed B.named B.method).1
  subst hsz
  have hD := hD0.self (sz := s.heap.size)
  generalize hAe : va_A [(h0, .inr (3, [.int 0, .int 0, .int 0, .int 0, .int 0, .int 0]))] s.heap.size = A at hD ⊢
  have hA : ∀ q : Nat, s.heap.size ≤ q → A q := fun q h => by rw [← hAe]; exact Or.inr h
  have hS : va_S A s.heap s.heap [] := va_S.rf
  have hP : va_P D vwCl [(h0, .inr (3, [.int 0, .int 0, .int 0, .int 0, .int 0, .int 0]))] s.heap := hP
  have hl := lv_entry ([.ref h0]) (n := 1) (Nat.le_of_ble_eq_true rfl)
  rw [lg_entry_eq]
  generalize (lg_sl ([.ref h0]) ++ List.replicate (1 - (lg_sl ([.ref h0])).length) Slot.unset).toArray = ls at hl ⊢
  have hl : lv_has ls 1 [(0, .ref h0)] := hl
  refine lv_aload_n hx hb dX5_init_0 rfl (lv_at hl 0 rfl) ?_
  refine W.objInit hx hb hown (hts (.methodLink RX5 3 objectInit) (by decide +kernel)) (hts (.instanceMethod objectInit) (by decide +kernel)) (hts _ (List.mem_cons_of_mem _ (List.mem_of_getElem? (i := 2) rfl))) rfl (by rw [hml]; exact hl.1) rfl dX5_init_1 (Nat.le_of_ble_eq_true rfl) (Nat.le_of_ble_eq_true rfl) ?_
  refine W.eq (g2 := F0 m 4 ls []) rfl ?_
  exact W.vret hx hb hr (fun t ht hW => ⟨⟨(), rfl, trivial, by rw [ht]; exact hP, va_K.moved hW.alike hK, hD⟩, hS.F ht⟩) hS.2.2 dX5_init_4

set_option maxHeartbeats 2000000 in
set_option maxRecDepth 100000 in
theorem nX1_init (l : Launch) (D : va_G) (h0 sz : Nat) : Met l yX1_init wsX1_init { frames := 1, cells := 1, slots := 60, locals := 12 } (va_Pc [.ref h0] (PreN D [(h0, .inr (1, [.null, .int 0, .int 0]))] sz)) (va_Qv (fun _ : Unit => True) (fun _ t => ∃ (q1 : Nat) (a2 : ClassId), va_P D vwCl [(h0, .inr (1, [.ref q1, .int (-1), .int 0])), (q1, .inl (a2, 60, .inl (fun _ => 0)))] t.heap ∧ va_K D vwCl [(a2, .int)] t ∧ va_D (va_A [(h0, .inr (1, [.null, .int 0, .int 0]))] sz) [(h0, .inr (1, [.ref q1, .int (-1), .int 0])), (q1, .inl (a2, 60, .inl (fun _ => 0)))]) (va_A [(h0, .inr (1, [.null, .int 0, .int 0]))] sz)) 1 60 (va_A [(h0, .inr (1, [.null, .int 0, .int 0]))] sz) := by
  refine Met.ofW (cc := cX1_init) (maxL := 1) (ret := none) (by decide) rfl ?_
  intro p e s m args below meth c s₁ B hml hv
  obtain ⟨rfl, hsz, hP, hK, hD0, hN⟩ := hv
  have hx := B.exec
  have hb := B.bytes
  have hr := B.returns
  have hts := atoms_spec (ws := wsX1_init) B.pre
  have hown : s.vm.findClass RX1 = some m.cls := findClass_of_methodNamed B.named
  have hlocks := B.notSynchronized
  have hin : meth.name = "<init>" := (name_of_methodNamed B.named B.method).1
  subst hsz
  have hD := hD0.self (sz := s.heap.size)
  generalize hAe : va_A [(h0, .inr (1, [.null, .int 0, .int 0]))] s.heap.size = A at hD ⊢
  have hA : ∀ q : Nat, s.heap.size ≤ q → A q := fun q h => by rw [← hAe]; exact Or.inr h
  have hS : va_S A s.heap s.heap [] := va_S.rf
  have hP : va_P D vwCl [(h0, .inr (1, [.null, .int 0, .int 0]))] s.heap := hP
  have hl := lv_entry ([.ref h0]) (n := 1) (Nat.le_of_ble_eq_true rfl)
  rw [lg_entry_eq]
  generalize (lg_sl ([.ref h0]) ++ List.replicate (1 - (lg_sl ([.ref h0])).length) Slot.unset).toArray = ls at hl ⊢
  have hl : lv_has ls 1 [(0, .ref h0)] := hl
  refine lv_aload_n hx hb dX1_init_0 rfl (lv_at hl 0 rfl) ?_
  refine W.objInit hx hb hown (hts (.methodLink RX1 3 objectInit) (by decide +kernel)) (hts (.instanceMethod objectInit) (by decide +kernel)) (hts _ (List.mem_cons_of_mem _ (List.mem_append_left _ (List.mem_of_getElem? (i := 2) rfl)))) rfl (by rw [hml]; exact hl.1) rfl dX1_init_1 (Nat.le_of_ble_eq_true rfl) (Nat.le_of_ble_eq_true rfl) ?_
  refine W.eq (g2 := F0 m 4 ls []) rfl ?_
  refine lv_aload_n hx hb dX1_init_4 rfl (lv_at hl 0 rfl) ?_
  refine lv_bipush (v := 60) hx hb dX1_init_5 (by decide) ?_
  refine va_newa (atype := .int) (n := 60) (a0 := (60, .inl (fun _ => 0))) (ty := .int) (N' := 60) hx hb (hts (.arrayClass .int) (by decide +kernel)) rfl hK hP hD hS hA (cz_i 60) (by decide) (by decide +kernel) (by decide +kernel) (Nat.le_of_ble_eq_true rfl) (Nat.le_of_ble_eq_true rfl) dX1_init_7 (fun q1 a2 H hK hP hD hS => ?_)
  have hP : va_P D vwCl [(h0, .inr (1, [.null, .int 0, .int 0])), (q1, .inl (a2, 60, .inl (fun _ => 0)))] H := hP
  have hD : va_D A [(h0, .inr (1, [.null, .int 0, .int 0])), (q1, .inl (a2, 60, .inl (fun _ => 0)))] := hD
  have hK : va_K D vwCl [(a2, .int)] s := hK
  refine va_putF (D := D) (ci := 1) (v := .ref q1) (ty := .array .int) (C := RX1) (T := TX1) (N := 3) hx hb hts (fun _ h => List.mem_cons_of_mem _ (List.mem_append_right _ h)) tyX1 tyX1_ok nmX1 hown hK hP hD hS 0 rfl rfl 0 (by decide) (hts (.fieldLink RX1 9 "ButtonMatch$Sheet" "cells" "[I") (by decide +kernel)) (fun _ h9 => h9) rfl hin rfl (by decide +kernel) rfl rfl (Nat.le_of_ble_eq_true rfl) dX1_init_9 (fun H locs hP hD hS => ?_)
  have hP : va_P D vwCl [(h0, .inr (1, [.ref q1, .int 0, .int 0])), (q1, .inl (a2, 60, .inl (fun _ => 0)))] H := hP
  have hD : va_D A [(h0, .inr (1, [.ref q1, .int 0, .int 0])), (q1, .inl (a2, 60, .inl (fun _ => 0)))] := hD
  refine lv_aload_n hx hb dX1_init_12 rfl (lv_at hl 0 rfl) ?_
  refine lv_iconst (v := (-1)) hx hb dX1_init_13 (by decide) ?_
  refine va_put (D := D) (ci := 1) (v := .int (-1)) (ty := .int) (C := RX1) (T := TX1) (N := 3) hx hb hts (fun _ h => List.mem_cons_of_mem _ (List.mem_append_right _ h)) tyX1 tyX1_ok nmX1 hown hK hP hD hS 0 rfl rfl 1 (by decide) (hts (.fieldLink RX1 15 "ButtonMatch$Sheet" "lane" "I") (by decide +kernel)) (fun _ h9 => h9) rfl (by decide +kernel) rfl rfl (Nat.le_of_ble_eq_true rfl) dX1_init_14 (fun H locs hP hD hS => ?_)
  have hP : va_P D vwCl [(h0, .inr (1, [.ref q1, .int (-1), .int 0])), (q1, .inl (a2, 60, .inl (fun _ => 0)))] H := hP
  have hD : va_D A [(h0, .inr (1, [.ref q1, .int (-1), .int 0])), (q1, .inl (a2, 60, .inl (fun _ => 0)))] := hD
  refine lv_aload_n hx hb dX1_init_17 rfl (lv_at hl 0 rfl) ?_
  refine lv_iconst (v := 0) hx hb dX1_init_18 (by decide) ?_
  refine va_put (D := D) (ci := 1) (v := .int 0) (ty := .int) (C := RX1) (T := TX1) (N := 3) hx hb hts (fun _ h => List.mem_cons_of_mem _ (List.mem_append_right _ h)) tyX1 tyX1_ok nmX1 hown hK hP hD hS 0 rfl rfl 2 (by decide) (hts (.fieldLink RX1 19 "ButtonMatch$Sheet" "length" "I") (by decide +kernel)) (fun _ h9 => h9) rfl (by decide +kernel) rfl rfl (Nat.le_of_ble_eq_true rfl) dX1_init_19 (fun H locs hP hD hS => ?_)
  have hP : va_P D vwCl [(h0, .inr (1, [.ref q1, .int (-1), .int 0])), (q1, .inl (a2, 60, .inl (fun _ => 0)))] H := hP
  have hD : va_D A [(h0, .inr (1, [.ref q1, .int (-1), .int 0])), (q1, .inl (a2, 60, .inl (fun _ => 0)))] := hD
  exact W.vret hx hb hr (fun t ht hW => ⟨⟨(), rfl, trivial, q1, a2, by rw [ht]; exact hP, va_K.moved hW.alike hK, hD⟩, hS.F ht⟩) hS.2.2 dX1_init_22

set_option maxHeartbeats 2000000 in
set_option maxRecDepth 100000 in
theorem nX0_init (l : Launch) (D : va_G) (h0 sz : Nat) : Met l yX0_init wsX0_init { frames := 1, cells := 2, slots := 16, locals := 12 } (va_Pc [.ref h0] (PreN D [(h0, .inr (0, [.null, .null, .int 0]))] sz)) (va_Qv (fun _ : Unit => True) (fun _ t => ∃ (q1 : Nat) (a2 : ClassId) (q3 : Nat) (a4 : ClassId), va_P D vwCl [(h0, .inr (0, [.ref q1, .ref q3, .int 0])), (q1, .inl (a2, 8, .inl (fun _ => 0))), (q3, .inl (a4, 8, .inl (fun _ => 0)))] t.heap ∧ va_K D vwCl [(a2, .int), (a4, .boolean)] t ∧ va_D (va_A [(h0, .inr (0, [.null, .null, .int 0]))] sz) [(h0, .inr (0, [.ref q1, .ref q3, .int 0])), (q1, .inl (a2, 8, .inl (fun _ => 0))), (q3, .inl (a4, 8, .inl (fun _ => 0)))]) (va_A [(h0, .inr (0, [.null, .null, .int 0]))] sz)) 2 16 (va_A [(h0, .inr (0, [.null, .null, .int 0]))] sz) := by
  refine Met.ofW (cc := cX0_init) (maxL := 1) (ret := none) (by decide) rfl ?_
  intro p e s m args below meth c s₁ B hml hv
  obtain ⟨rfl, hsz, hP, hK, hD0, hN⟩ := hv
  have hx := B.exec
  have hb := B.bytes
  have hr := B.returns
  have hts := atoms_spec (ws := wsX0_init) B.pre
  have hown : s.vm.findClass RX0 = some m.cls := findClass_of_methodNamed B.named
  have hlocks := B.notSynchronized
  have hin : meth.name = "<init>" := (name_of_methodNamed B.named B.method).1
  subst hsz
  have hD := hD0.self (sz := s.heap.size)
  generalize hAe : va_A [(h0, .inr (0, [.null, .null, .int 0]))] s.heap.size = A at hD ⊢
  have hA : ∀ q : Nat, s.heap.size ≤ q → A q := fun q h => by rw [← hAe]; exact Or.inr h
  have hS : va_S A s.heap s.heap [] := va_S.rf
  have hP : va_P D vwCl [(h0, .inr (0, [.null, .null, .int 0]))] s.heap := hP
  have hl := lv_entry ([.ref h0]) (n := 1) (Nat.le_of_ble_eq_true rfl)
  rw [lg_entry_eq]
  generalize (lg_sl ([.ref h0]) ++ List.replicate (1 - (lg_sl ([.ref h0])).length) Slot.unset).toArray = ls at hl ⊢
  have hl : lv_has ls 1 [(0, .ref h0)] := hl
  refine lv_aload_n hx hb dX0_init_0 rfl (lv_at hl 0 rfl) ?_
  refine W.objInit hx hb hown (hts (.methodLink RX0 3 objectInit) (by decide +kernel)) (hts (.instanceMethod objectInit) (by decide +kernel)) (hts _ (List.mem_cons_of_mem _ (List.mem_append_left _ (List.mem_of_getElem? (i := 2) rfl)))) rfl (by rw [hml]; exact hl.1) rfl dX0_init_1 (Nat.le_of_ble_eq_true rfl) (Nat.le_of_ble_eq_true rfl) ?_
  refine W.eq (g2 := F0 m 4 ls []) rfl ?_
  refine lv_aload_n hx hb dX0_init_4 rfl (lv_at hl 0 rfl) ?_
  refine lv_bipush (v := 8) hx hb dX0_init_5 (by decide) ?_
  refine va_newa (atype := .int) (n := 8) (a0 := (8, .inl (fun _ => 0))) (ty := .int) (N' := 8) hx hb (hts (.arrayClass .int) (by decide +kernel)) rfl hK hP hD hS hA (cz_i 8) (by decide) (by decide +kernel) (by decide +kernel) (Nat.le_of_ble_eq_true rfl) (Nat.le_of_ble_eq_true rfl) dX0_init_7 (fun q1 a2 H hK hP hD hS => ?_)
  have hP : va_P D vwCl [(h0, .inr (0, [.null, .null, .int 0])), (q1, .inl (a2, 8, .inl (fun _ => 0)))] H := hP
  have hD : va_D A [(h0, .inr (0, [.null, .null, .int 0])), (q1, .inl (a2, 8, .inl (fun _ => 0)))] := hD
  have hK : va_K D vwCl [(a2, .int)] s := hK
  refine va_putF (D := D) (ci := 0) (v := .ref q1) (ty := .array .int) (C := RX0) (T := TX0) (N := 3) hx hb hts (fun _ h => List.mem_cons_of_mem _ (List.mem_append_right _ h)) tyX0 tyX0_ok nmX0 hown hK hP hD hS 0 rfl rfl 0 (by decide) (hts (.fieldLink RX0 9 "ButtonMatch$Readings" "tubes" "[I") (by decide +kernel)) (fun _ h9 => h9) rfl hin rfl (by decide +kernel) rfl rfl (Nat.le_of_ble_eq_true rfl) dX0_init_9 (fun H locs hP hD hS => ?_)
  have hP : va_P D vwCl [(h0, .inr (0, [.ref q1, .null, .int 0])), (q1, .inl (a2, 8, .inl (fun _ => 0)))] H := hP
  have hD : va_D A [(h0, .inr (0, [.ref q1, .null, .int 0])), (q1, .inl (a2, 8, .inl (fun _ => 0)))] := hD
  refine lv_aload_n hx hb dX0_init_12 rfl (lv_at hl 0 rfl) ?_
  refine lv_bipush (v := 8) hx hb dX0_init_13 (by decide) ?_
  refine va_newa (atype := .boolean) (n := 8) (a0 := (8, .inl (fun _ => 0))) (ty := .boolean) (N' := 8) hx hb (hts (.arrayClass .boolean) (by decide +kernel)) rfl hK hP hD hS hA (cz_z 8) (by decide) (by decide +kernel) (by decide +kernel) (Nat.le_of_ble_eq_true rfl) (Nat.le_of_ble_eq_true rfl) dX0_init_15 (fun q3 a4 H hK hP hD hS => ?_)
  have hP : va_P D vwCl [(h0, .inr (0, [.ref q1, .null, .int 0])), (q1, .inl (a2, 8, .inl (fun _ => 0))), (q3, .inl (a4, 8, .inl (fun _ => 0)))] H := hP
  have hD : va_D A [(h0, .inr (0, [.ref q1, .null, .int 0])), (q1, .inl (a2, 8, .inl (fun _ => 0))), (q3, .inl (a4, 8, .inl (fun _ => 0)))] := hD
  have hK : va_K D vwCl [(a2, .int), (a4, .boolean)] s := hK
  refine va_putF (D := D) (ci := 0) (v := .ref q3) (ty := .array .boolean) (C := RX0) (T := TX0) (N := 3) hx hb hts (fun _ h => List.mem_cons_of_mem _ (List.mem_append_right _ h)) tyX0 tyX0_ok nmX0 hown hK hP hD hS 0 rfl rfl 1 (by decide) (hts (.fieldLink RX0 15 "ButtonMatch$Readings" "alikes" "[Z") (by decide +kernel)) (fun _ h9 => h9) rfl hin rfl (by decide +kernel) rfl rfl (Nat.le_of_ble_eq_true rfl) dX0_init_17 (fun H locs hP hD hS => ?_)
  have hP : va_P D vwCl [(h0, .inr (0, [.ref q1, .ref q3, .int 0])), (q1, .inl (a2, 8, .inl (fun _ => 0))), (q3, .inl (a4, 8, .inl (fun _ => 0)))] H := hP
  have hD : va_D A [(h0, .inr (0, [.ref q1, .ref q3, .int 0])), (q1, .inl (a2, 8, .inl (fun _ => 0))), (q3, .inl (a4, 8, .inl (fun _ => 0)))] := hD
  refine lv_aload_n hx hb dX0_init_20 rfl (lv_at hl 0 rfl) ?_
  refine lv_iconst (v := 0) hx hb dX0_init_21 (by decide) ?_
  refine va_put (D := D) (ci := 0) (v := .int 0) (ty := .int) (C := RX0) (T := TX0) (N := 3) hx hb hts (fun _ h => List.mem_cons_of_mem _ (List.mem_append_right _ h)) tyX0 tyX0_ok nmX0 hown hK hP hD hS 0 rfl rfl 2 (by decide) (hts (.fieldLink RX0 19 "ButtonMatch$Readings" "count" "I") (by decide +kernel)) (fun _ h9 => h9) rfl (by decide +kernel) rfl rfl (Nat.le_of_ble_eq_true rfl) dX0_init_22 (fun H locs hP hD hS => ?_)
  have hP : va_P D vwCl [(h0, .inr (0, [.ref q1, .ref q3, .int 0])), (q1, .inl (a2, 8, .inl (fun _ => 0))), (q3, .inl (a4, 8, .inl (fun _ => 0)))] H := hP
  have hD : va_D A [(h0, .inr (0, [.ref q1, .ref q3, .int 0])), (q1, .inl (a2, 8, .inl (fun _ => 0))), (q3, .inl (a4, 8, .inl (fun _ => 0)))] := hD
  exact W.vret hx hb hr (fun t ht hW => ⟨⟨(), rfl, trivial, q1, a2, q3, a4, by rw [ht]; exact hP, va_K.moved hW.alike hK, hD⟩, hS.F ht⟩) hS.2.2 dX0_init_25

set_option maxHeartbeats 2000000 in
set_option maxRecDepth 100000 in
theorem nX2_init (l : Launch) (D : va_G) (h0 sz : Nat) : Met l yX2_init wsX2_init { frames := 2, cells := 8, slots := 48, locals := 32 } (va_Pc [.ref h0] (PreN D [(h0, .inr (2, [.null, .null, .int 0, .int 0, .int 0, .int 0, .int 0, .int 0, .int 0, .int 0]))] sz)) (va_Qv (fun _ : Unit => True) (fun _ t => ∃ (q1 : Nat) (a2 : ClassId) (q3 : Nat) (a4 : ClassId) (q5 : Nat) (q6 : Nat) (q7 : Nat) (q8 : Nat) (q9 : Nat) (q10 : Nat), va_P D vwCl [(h0, .inr (2, [.ref q1, .ref q3, .int 0, .int 0, .int 0, .int 0, .int 0, .int 0, .int 0, .int 0])), (q1, .inl (a2, 6, .inr (.inr (.inr (.inr (va_up (va_up (va_up (va_up (va_up (va_up (fun _ => none) 0 (some q5)) 1 (some q6)) 2 (some q7)) 3 (some q8)) 4 (some q9)) 5 (some q10))))))), (q3, .inl (a4, 6, .inl (fun _ => 0))), (q5, .inr (3, [.int 0, .int 0, .int 0, .int 0, .int 0, .int 0])), (q6, .inr (3, [.int 0, .int 0, .int 0, .int 0, .int 0, .int 0])), (q7, .inr (3, [.int 0, .int 0, .int 0, .int 0, .int 0, .int 0])), (q8, .inr (3, [.int 0, .int 0, .int 0, .int 0, .int 0, .int 0])), (q9, .inr (3, [.int 0, .int 0, .int 0, .int 0, .int 0, .int 0])), (q10, .inr (3, [.int 0, .int 0, .int 0, .int 0, .int 0, .int 0]))] t.heap ∧ va_K D vwCl [(a2, .object "ButtonMatch$Tube"), (a4, .int)] t ∧ va_D (va_A [(h0, .inr (2, [.null, .null, .int 0, .int 0, .int 0, .int 0, .int 0, .int 0, .int 0, .int 0]))] sz) [(h0, .inr (2, [.ref q1, .ref q3, .int 0, .int 0, .int 0, .int 0, .int 0, .int 0, .int 0, .int 0])), (q1, .inl (a2, 6, .inr (.inr (.inr (.inr (va_up (va_up (va_up (va_up (va_up (va_up (fun _ => none) 0 (some q5)) 1 (some q6)) 2 (some q7)) 3 (some q8)) 4 (some q9)) 5 (some q10))))))), (q3, .inl (a4, 6, .inl (fun _ => 0))), (q5, .inr (3, [.int 0, .int 0, .int 0, .int 0, .int 0, .int 0])), (q6, .inr (3, [.int 0, .int 0, .int 0, .int 0, .int 0, .int 0])), (q7, .inr (3, [.int 0, .int 0, .int 0, .int 0, .int 0, .int 0])), (q8, .inr (3, [.int 0, .int 0, .int 0, .int 0, .int 0, .int 0])), (q9, .inr (3, [.int 0, .int 0, .int 0, .int 0, .int 0, .int 0])), (q10, .inr (3, [.int 0, .int 0, .int 0, .int 0, .int 0, .int 0]))]) (va_A [(h0, .inr (2, [.null, .null, .int 0, .int 0, .int 0, .int 0, .int 0, .int 0, .int 0, .int 0]))] sz)) 8 48 (va_A [(h0, .inr (2, [.null, .null, .int 0, .int 0, .int 0, .int 0, .int 0, .int 0, .int 0, .int 0]))] sz) := by
  refine Met.ofW (cc := cX2_init) (maxL := 2) (ret := none) (by decide) rfl ?_
  intro p e s m args below meth c s₁ B hml hv
  obtain ⟨rfl, hsz, hP, hK, hD0, hN⟩ := hv
  have hx := B.exec
  have hb := B.bytes
  have hr := B.returns
  have hts := atoms_spec (ws := wsX2_init) B.pre
  have hown : s.vm.findClass RX2 = some m.cls := findClass_of_methodNamed B.named
  have hlocks := B.notSynchronized
  have hin : meth.name = "<init>" := (name_of_methodNamed B.named B.method).1
  subst hsz
  have hD := hD0.self (sz := s.heap.size)
  generalize hAe : va_A [(h0, .inr (2, [.null, .null, .int 0, .int 0, .int 0, .int 0, .int 0, .int 0, .int 0, .int 0]))] s.heap.size = A at hD ⊢
  have hA : ∀ q : Nat, s.heap.size ≤ q → A q := fun q h => by rw [← hAe]; exact Or.inr h
  have hS : va_S A s.heap s.heap [] := va_S.rf
  have hP : va_P D vwCl [(h0, .inr (2, [.null, .null, .int 0, .int 0, .int 0, .int 0, .int 0, .int 0, .int 0, .int 0]))] s.heap := hP
  have hl := lv_entry ([.ref h0]) (n := 2) (Nat.le_of_ble_eq_true rfl)
  rw [lg_entry_eq]
  generalize (lg_sl ([.ref h0]) ++ List.replicate (2 - (lg_sl ([.ref h0])).length) Slot.unset).toArray = ls at hl ⊢
  have hl : lv_has ls 2 [(0, .ref h0)] := hl
  refine lv_aload_n hx hb dX2_init_0 rfl (lv_at hl 0 rfl) ?_
  refine W.objInit hx hb hown (hts (.methodLink RX2 3 objectInit) (by decide +kernel)) (hts (.instanceMethod objectInit) (by decide +kernel)) (hts _ (List.mem_cons_of_mem _ (List.mem_append_left _ (List.mem_append_left _ (List.mem_of_getElem? (i := 2) rfl))))) rfl (by rw [hml]; exact hl.1) rfl dX2_init_1 (Nat.le_of_ble_eq_true rfl) (Nat.le_of_ble_eq_true rfl) ?_
  refine W.eq (g2 := F0 m 4 ls []) rfl ?_
  refine lv_aload_n hx hb dX2_init_4 rfl (lv_at hl 0 rfl) ?_
  refine lv_bipush (v := 6) hx hb dX2_init_5 (by decide) ?_
  refine va_newq (C := "ButtonMatch$Tube") (n := 6) (N' := 6) hx hb hown (hts (.classLink RX2 9 RX5) (by decide +kernel)) hN.2.2 hK hP hD hS hA (by decide) (by decide +kernel) (by decide +kernel) (Nat.le_of_ble_eq_true rfl) (Nat.le_of_ble_eq_true rfl) dX2_init_7 (fun q1 a2 H hK hP hD hS => ?_)
  have hP : va_P D vwCl [(h0, .inr (2, [.null, .null, .int 0, .int 0, .int 0, .int 0, .int 0, .int 0, .int 0, .int 0])), (q1, .inl (a2, 6, .inr (.inr (.inr (.inr (fun _ => none))))))] H := hP
  have hD : va_D A [(h0, .inr (2, [.null, .null, .int 0, .int 0, .int 0, .int 0, .int 0, .int 0, .int 0, .int 0])), (q1, .inl (a2, 6, .inr (.inr (.inr (.inr (fun _ => none))))))] := hD
  have hK : va_K D vwCl [(a2, .object "ButtonMatch$Tube")] s := hK
  refine va_putF (D := D) (ci := 2) (v := .ref q1) (ty := .array (.object "ButtonMatch$Tube")) (C := RX2) (T := TX2) (N := 10) hx hb hts (fun _ h => List.mem_cons_of_mem _ (List.mem_append_left _ (List.mem_append_right _ h))) tyX2 tyX2_ok nmX2 hown hK hP hD hS 0 rfl rfl 0 (by decide) (hts (.fieldLink RX2 11 "ButtonMatch$Shop" "tubes" "[LButtonMatch$Tube;") (by decide +kernel)) (fun _ h9 => h9) rfl hin rfl (by decide +kernel) rfl rfl (Nat.le_of_ble_eq_true rfl) dX2_init_10 (fun H locs hP hD hS => ?_)
  have hP : va_P D vwCl [(h0, .inr (2, [.ref q1, .null, .int 0, .int 0, .int 0, .int 0, .int 0, .int 0, .int 0, .int 0])), (q1, .inl (a2, 6, .inr (.inr (.inr (.inr (fun _ => none))))))] H := hP
  have hD : va_D A [(h0, .inr (2, [.ref q1, .null, .int 0, .int 0, .int 0, .int 0, .int 0, .int 0, .int 0, .int 0])), (q1, .inl (a2, 6, .inr (.inr (.inr (.inr (fun _ => none))))))] := hD
  refine lv_aload_n hx hb dX2_init_13 rfl (lv_at hl 0 rfl) ?_
  refine lv_bipush (v := 6) hx hb dX2_init_14 (by decide) ?_
  refine va_newa (atype := .int) (n := 6) (a0 := (6, .inl (fun _ => 0))) (ty := .int) (N' := 6) hx hb (hts (.arrayClass .int) (by decide +kernel)) rfl hK hP hD hS hA (cz_i 6) (by decide) (by decide +kernel) (by decide +kernel) (Nat.le_of_ble_eq_true rfl) (Nat.le_of_ble_eq_true rfl) dX2_init_16 (fun q3 a4 H hK hP hD hS => ?_)
  have hP : va_P D vwCl [(h0, .inr (2, [.ref q1, .null, .int 0, .int 0, .int 0, .int 0, .int 0, .int 0, .int 0, .int 0])), (q1, .inl (a2, 6, .inr (.inr (.inr (.inr (fun _ => none)))))), (q3, .inl (a4, 6, .inl (fun _ => 0)))] H := hP
  have hD : va_D A [(h0, .inr (2, [.ref q1, .null, .int 0, .int 0, .int 0, .int 0, .int 0, .int 0, .int 0, .int 0])), (q1, .inl (a2, 6, .inr (.inr (.inr (.inr (fun _ => none)))))), (q3, .inl (a4, 6, .inl (fun _ => 0)))] := hD
  have hK : va_K D vwCl [(a2, .object "ButtonMatch$Tube"), (a4, .int)] s := hK
  refine va_putF (D := D) (ci := 2) (v := .ref q3) (ty := .array .int) (C := RX2) (T := TX2) (N := 10) hx hb hts (fun _ h => List.mem_cons_of_mem _ (List.mem_append_left _ (List.mem_append_right _ h))) tyX2 tyX2_ok nmX2 hown hK hP hD hS 0 rfl rfl 1 (by decide) (hts (.fieldLink RX2 17 "ButtonMatch$Shop" "seen" "[I") (by decide +kernel)) (fun _ h9 => h9) rfl hin rfl (by decide +kernel) rfl rfl (Nat.le_of_ble_eq_true rfl) dX2_init_18 (fun H locs hP hD hS => ?_)
  have hP : va_P D vwCl [(h0, .inr (2, [.ref q1, .ref q3, .int 0, .int 0, .int 0, .int 0, .int 0, .int 0, .int 0, .int 0])), (q1, .inl (a2, 6, .inr (.inr (.inr (.inr (fun _ => none)))))), (q3, .inl (a4, 6, .inl (fun _ => 0)))] H := hP
  have hD : va_D A [(h0, .inr (2, [.ref q1, .ref q3, .int 0, .int 0, .int 0, .int 0, .int 0, .int 0, .int 0, .int 0])), (q1, .inl (a2, 6, .inr (.inr (.inr (.inr (fun _ => none)))))), (q3, .inl (a4, 6, .inl (fun _ => 0)))] := hD
  refine lv_aload_n hx hb dX2_init_21 rfl (lv_at hl 0 rfl) ?_
  refine lv_iconst (v := 0) hx hb dX2_init_22 (by decide) ?_
  refine va_put (D := D) (ci := 2) (v := .int 0) (ty := .int) (C := RX2) (T := TX2) (N := 10) hx hb hts (fun _ h => List.mem_cons_of_mem _ (List.mem_append_left _ (List.mem_append_right _ h))) tyX2 tyX2_ok nmX2 hown hK hP hD hS 0 rfl rfl 2 (by decide) (hts (.fieldLink RX2 21 "ButtonMatch$Shop" "tubeCount" "I") (by decide +kernel)) (fun _ h9 => h9) rfl (by decide +kernel) rfl rfl (Nat.le_of_ble_eq_true rfl) dX2_init_23 (fun H locs hP hD hS => ?_)
  have hP : va_P D vwCl [(h0, .inr (2, [.ref q1, .ref q3, .int 0, .int 0, .int 0, .int 0, .int 0, .int 0, .int 0, .int 0])), (q1, .inl (a2, 6, .inr (.inr (.inr (.inr (fun _ => none)))))), (q3, .inl (a4, 6, .inl (fun _ => 0)))] H := hP
  have hD : va_D A [(h0, .inr (2, [.ref q1, .ref q3, .int 0, .int 0, .int 0, .int 0, .int 0, .int 0, .int 0, .int 0])), (q1, .inl (a2, 6, .inr (.inr (.inr (.inr (fun _ => none)))))), (q3, .inl (a4, 6, .inl (fun _ => 0)))] := hD
  refine lv_iconst (v := 0) hx hb dX2_init_26 (by decide) ?_
  refine lv_istore_n (lv' := [(1, .int 0), (0, .ref h0)]) hx hb dX2_init_27 rfl hl (by decide) rfl (fun ls hl => ?_)
  refine lv_iload_n hx hb dX2_init_28 rfl (lv_at hl 0 rfl) ?_
  refine lv_bipush (v := 6) hx hb dX2_init_29 (by decide) ?_
  refine lv_icmp_ge (tgt := 53) hx hb dX2_init_31 (by decide) (fun c9 => absurd c9 (by decide)) (fun c9 => ?_)
  refine lv_aload_n hx hb dX2_init_34 rfl (lv_at hl 1 rfl) ?_
  refine va_get (D := D) (ci := 2) (v := .ref q1) (C := RX2) (T := TX2) (N := 10) hx hb hts (fun _ h => List.mem_cons_of_mem _ (List.mem_append_left _ (List.mem_append_right _ h))) hown hK hP 0 rfl rfl 0 (by decide) (hts (.fieldLink RX2 11 "ButtonMatch$Shop" "tubes" "[LButtonMatch$Tube;") (by decide +kernel)) (fun _ h9 => h9) rfl dX2_init_35 ?_
  refine lv_iload_n hx hb dX2_init_38 rfl (lv_at hl 0 rfl) ?_
  refine va_new (ci := 3) (fs := [.int 0, .int 0, .int 0, .int 0, .int 0, .int 0]) (C := RX5) (T := TX5) (N := 6) hx hb hts (fun _ h => List.mem_cons_of_mem _ (List.mem_append_right _ h)) tyX5 tyX5_ok hown (hts (.classLink RX2 9 RX5) (by decide +kernel)) (hts (.instantiable RX5 6) (by decide +kernel)) (hts (.initialized RX5) (by decide +kernel)) hK hP hD hS hA rfl dfX5 (Nat.le_of_ble_eq_true rfl) (Nat.le_of_ble_eq_true rfl) dX2_init_39 (fun q5 H hP hD hS => ?_)
  have hP : va_P D vwCl [(h0, .inr (2, [.ref q1, .ref q3, .int 0, .int 0, .int 0, .int 0, .int 0, .int 0, .int 0, .int 0])), (q1, .inl (a2, 6, .inr (.inr (.inr (.inr (fun _ => none)))))), (q3, .inl (a4, 6, .inl (fun _ => 0))), (q5, .inr (3, [.int 0, .int 0, .int 0, .int 0, .int 0, .int 0]))] H := hP
  have hD : va_D A [(h0, .inr (2, [.ref q1, .ref q3, .int 0, .int 0, .int 0, .int 0, .int 0, .int 0, .int 0, .int 0])), (q1, .inl (a2, 6, .inr (.inr (.inr (.inr (fun _ => none)))))), (q3, .inl (a4, 6, .inl (fun _ => 0))), (q5, .inr (3, [.int 0, .int 0, .int 0, .int 0, .int 0, .int 0]))] := hD
  refine lv_dup hx hb dX2_init_42 rfl ?_
  have hPc := hP.sub (ws' := [(q5, .inr (3, [.int 0, .int 0, .int 0, .int 0, .int 0, .int 0]))]) [3] rfl
  have hDc := hD.sub (ws' := [(q5, .inr (3, [.int 0, .int 0, .int 0, .int 0, .int 0, .int 0]))]) [3] (by decide) rfl
  have hKc := hK.sub (tys' := []) [] rfl
  have hFc := va_free (wc := [(q5, .inr (3, [.int 0, .int 0, .int 0, .int 0, .int 0, .int 0]))]) hD hS hA [3] rfl
  refine va_callv (va_runIN (host := "ButtonMatch") (As := []) (rest := [.ref q5, .int 0, .ref q1]) ⟨hx, hb, hml, hown, hts⟩ (nX5_init l D q5 H.size) ⟨va_cnB 0 hts gX2_init_X5_init_n25 rfl rfl rfl (hN.1.2 ("ButtonMatch$Shop", 25, yX5_init) (by decide)) (hts (.initialized RX5) (by decide +kernel)) (by decide +kernel) ⟨Nat.le_of_ble_eq_true rfl, Nat.le_of_ble_eq_true rfl⟩, rfl, (hts (.instanceMethod yX5_init) (by decide +kernel))⟩ ⟨Nx.blind, fun U hU hW => ⟨rfl, by rw [hU], by rw [hU]; exact hPc, va_K.moved hW.alike hKc, hDc.weaken (fun _ _ _ _ => trivial), hN.warm hW⟩⟩ rfl rfl hl.1 rfl (lv_room (Nat.le_of_ble_eq_true rfl)) dX2_init_43 ⟨Nat.le_of_ble_eq_true rfl, Nat.le_of_ble_eq_true rfl⟩) hS (fun q _ h => hFc q h) hFc (fun u t H1 locs ht hvm hw hB hz1 hk1 hS => ?_)
  obtain ⟨hP1, hK1, hD1⟩ := hB
  rw [ht] at hP1
  have hK1 := va_K.moved hvm.symm hK1
  obtain ⟨hP, hD⟩ := va_join (wr := [(h0, .inr (2, [.ref q1, .ref q3, .int 0, .int 0, .int 0, .int 0, .int 0, .int 0, .int 0, .int 0])), (q1, .inl (a2, 6, .inr (.inr (.inr (.inr (fun _ => none)))))), (q3, .inl (a4, 6, .inl (fun _ => 0)))]) (w1 := [(q5, .inr (3, [.int 0, .int 0, .int 0, .int 0, .int 0, .int 0]))]) hP hD [3] [0, 1, 2] rfl rfl (by decide) (by decide) hk1 hFc hP1 hD1
  have hK := hK.app hK1
  generalize H1 = H at hP hS ⊢
  have hP : va_P D vwCl [(h0, .inr (2, [.ref q1, .ref q3, .int 0, .int 0, .int 0, .int 0, .int 0, .int 0, .int 0, .int 0])), (q1, .inl (a2, 6, .inr (.inr (.inr (.inr (fun _ => none)))))), (q3, .inl (a4, 6, .inl (fun _ => 0))), (q5, .inr (3, [.int 0, .int 0, .int 0, .int 0, .int 0, .int 0]))] H := hP
  have hD : va_D A [(h0, .inr (2, [.ref q1, .ref q3, .int 0, .int 0, .int 0, .int 0, .int 0, .int 0, .int 0, .int 0])), (q1, .inl (a2, 6, .inr (.inr (.inr (.inr (fun _ => none)))))), (q3, .inl (a4, 6, .inl (fun _ => 0))), (q5, .inr (3, [.int 0, .int 0, .int 0, .int 0, .int 0, .int 0]))] := hD
  have hK : va_K D vwCl [(a2, .object "ButtonMatch$Tube"), (a4, .int)] s := hK
  refine va_astq hx hb hK hP hD hS 1 0 3 3 rfl rfl rfl rfl (show gIn 0 6 by decide) dX2_init_46 (fun H locs hP hD hS => ?_)
  have hP : va_P D vwCl [(h0, .inr (2, [.ref q1, .ref q3, .int 0, .int 0, .int 0, .int 0, .int 0, .int 0, .int 0, .int 0])), (q1, .inl (a2, 6, .inr (.inr (.inr (.inr (va_up (fun _ => none) 0 (some q5))))))), (q3, .inl (a4, 6, .inl (fun _ => 0))), (q5, .inr (3, [.int 0, .int 0, .int 0, .int 0, .int 0, .int 0]))] H := hP
  have hD : va_D A [(h0, .inr (2, [.ref q1, .ref q3, .int 0, .int 0, .int 0, .int 0, .int 0, .int 0, .int 0, .int 0])), (q1, .inl (a2, 6, .inr (.inr (.inr (.inr (va_up (fun _ => none) 0 (some q5))))))), (q3, .inl (a4, 6, .inl (fun _ => 0))), (q5, .inr (3, [.int 0, .int 0, .int 0, .int 0, .int 0, .int 0]))] := hD
  refine lv_iinc (v := 1) (lv' := [(1, .int 1), (0, .ref h0)]) hx hb dX2_init_47 hl (k := 0) rfl rfl (by decide) rfl (fun ls hl => ?_)
  refine lv_goto (tgt := 28) hx hb dX2_init_50 (by decide) ?_
  refine lv_iload_n hx hb dX2_init_28 rfl (lv_at hl 0 rfl) ?_
  refine lv_bipush (v := 6) hx hb dX2_init_29 (by decide) ?_
  refine lv_icmp_ge (tgt := 53) hx hb dX2_init_31 (by decide) (fun c9 => absurd c9 (by decide)) (fun c9 => ?_)
  refine lv_aload_n hx hb dX2_init_34 rfl (lv_at hl 1 rfl) ?_
  refine va_get (D := D) (ci := 2) (v := .ref q1) (C := RX2) (T := TX2) (N := 10) hx hb hts (fun _ h => List.mem_cons_of_mem _ (List.mem_append_left _ (List.mem_append_right _ h))) hown hK hP 0 rfl rfl 0 (by decide) (hts (.fieldLink RX2 11 "ButtonMatch$Shop" "tubes" "[LButtonMatch$Tube;") (by decide +kernel)) (fun _ h9 => h9) rfl dX2_init_35 ?_
  refine lv_iload_n hx hb dX2_init_38 rfl (lv_at hl 0 rfl) ?_
  refine va_new (ci := 3) (fs := [.int 0, .int 0, .int 0, .int 0, .int 0, .int 0]) (C := RX5) (T := TX5) (N := 6) hx hb hts (fun _ h => List.mem_cons_of_mem _ (List.mem_append_right _ h)) tyX5 tyX5_ok hown (hts (.classLink RX2 9 RX5) (by decide +kernel)) (hts (.instantiable RX5 6) (by decide +kernel)) (hts (.initialized RX5) (by decide +kernel)) hK hP hD hS hA rfl dfX5 (Nat.le_of_ble_eq_true rfl) (Nat.le_of_ble_eq_true rfl) dX2_init_39 (fun q6 H hP hD hS => ?_)
  have hP : va_P D vwCl [(h0, .inr (2, [.ref q1, .ref q3, .int 0, .int 0, .int 0, .int 0, .int 0, .int 0, .int 0, .int 0])), (q1, .inl (a2, 6, .inr (.inr (.inr (.inr (va_up (fun _ => none) 0 (some q5))))))), (q3, .inl (a4, 6, .inl (fun _ => 0))), (q5, .inr (3, [.int 0, .int 0, .int 0, .int 0, .int 0, .int 0])), (q6, .inr (3, [.int 0, .int 0, .int 0, .int 0, .int 0, .int 0]))] H := hP
  have hD : va_D A [(h0, .inr (2, [.ref q1, .ref q3, .int 0, .int 0, .int 0, .int 0, .int 0, .int 0, .int 0, .int 0])), (q1, .inl (a2, 6, .inr (.inr (.inr (.inr (va_up (fun _ => none) 0 (some q5))))))), (q3, .inl (a4, 6, .inl (fun _ => 0))), (q5, .inr (3, [.int 0, .int 0, .int 0, .int 0, .int 0, .int 0])), (q6, .inr (3, [.int 0, .int 0, .int 0, .int 0, .int 0, .int 0]))] := hD
  refine lv_dup hx hb dX2_init_42 rfl ?_
  have hPc := hP.sub (ws' := [(q6, .inr (3, [.int 0, .int 0, .int 0, .int 0, .int 0, .int 0]))]) [4] rfl
  have hDc := hD.sub (ws' := [(q6, .inr (3, [.int 0, .int 0, .int 0, .int 0, .int 0, .int 0]))]) [4] (by decide) rfl
  have hKc := hK.sub (tys' := []) [] rfl
  have hFc := va_free (wc := [(q6, .inr (3, [.int 0, .int 0, .int 0, .int 0, .int 0, .int 0]))]) hD hS hA [4] rfl
  refine va_callv (va_runIN (host := "ButtonMatch") (As := []) (rest := [.ref q6, .int 1, .ref q1]) ⟨hx, hb, hml, hown, hts⟩ (nX5_init l D q6 H.size) ⟨va_cnB 0 hts gX2_init_X5_init_n25 rfl rfl rfl (hN.1.2 ("ButtonMatch$Shop", 25, yX5_init) (by decide)) (hts (.initialized RX5) (by decide +kernel)) (by decide +kernel) ⟨Nat.le_of_ble_eq_true rfl, Nat.le_of_ble_eq_true rfl⟩, rfl, (hts (.instanceMethod yX5_init) (by decide +kernel))⟩ ⟨Nx.blind, fun U hU hW => ⟨rfl, by rw [hU], by rw [hU]; exact hPc, va_K.moved hW.alike hKc, hDc.weaken (fun _ _ _ _ => trivial), hN.warm hW⟩⟩ rfl rfl hl.1 rfl (lv_room (Nat.le_of_ble_eq_true rfl)) dX2_init_43 ⟨Nat.le_of_ble_eq_true rfl, Nat.le_of_ble_eq_true rfl⟩) hS (fun q _ h => hFc q h) hFc (fun u t H1 locs ht hvm hw hB hz1 hk1 hS => ?_)
  obtain ⟨hP1, hK1, hD1⟩ := hB
  rw [ht] at hP1
  have hK1 := va_K.moved hvm.symm hK1
  obtain ⟨hP, hD⟩ := va_join (wr := [(h0, .inr (2, [.ref q1, .ref q3, .int 0, .int 0, .int 0, .int 0, .int 0, .int 0, .int 0, .int 0])), (q1, .inl (a2, 6, .inr (.inr (.inr (.inr (va_up (fun _ => none) 0 (some q5))))))), (q3, .inl (a4, 6, .inl (fun _ => 0))), (q5, .inr (3, [.int 0, .int 0, .int 0, .int 0, .int 0, .int 0]))]) (w1 := [(q6, .inr (3, [.int 0, .int 0, .int 0, .int 0, .int 0, .int 0]))]) hP hD [4] [0, 1, 2, 3] rfl rfl (by decide) (by decide) hk1 hFc hP1 hD1
  have hK := hK.app hK1
  generalize H1 = H at hP hS ⊢
  have hP : va_P D vwCl [(h0, .inr (2, [.ref q1, .ref q3, .int 0, .int 0, .int 0, .int 0, .int 0, .int 0, .int 0, .int 0])), (q1, .inl (a2, 6, .inr (.inr (.inr (.inr (va_up (fun _ => none) 0 (some q5))))))), (q3, .inl (a4, 6, .inl (fun _ => 0))), (q5, .inr (3, [.int 0, .int 0, .int 0, .int 0, .int 0, .int 0])), (q6, .inr (3, [.int 0, .int 0, .int 0, .int 0, .int 0, .int 0]))] H := hP
  have hD : va_D A [(h0, .inr (2, [.ref q1, .ref q3, .int 0, .int 0, .int 0, .int 0, .int 0, .int 0, .int 0, .int 0])), (q1, .inl (a2, 6, .inr (.inr (.inr (.inr (va_up (fun _ => none) 0 (some q5))))))), (q3, .inl (a4, 6, .inl (fun _ => 0))), (q5, .inr (3, [.int 0, .int 0, .int 0, .int 0, .int 0, .int 0])), (q6, .inr (3, [.int 0, .int 0, .int 0, .int 0, .int 0, .int 0]))] := hD
  have hK : va_K D vwCl [(a2, .object "ButtonMatch$Tube"), (a4, .int)] s := hK
  refine va_astq hx hb hK hP hD hS 1 0 4 3 rfl rfl rfl rfl (show gIn 1 6 by decide) dX2_init_46 (fun H locs hP hD hS => ?_)
  have hP : va_P D vwCl [(h0, .inr (2, [.ref q1, .ref q3, .int 0, .int 0, .int 0, .int 0, .int 0, .int 0, .int 0, .int 0])), (q1, .inl (a2, 6, .inr (.inr (.inr (.inr (va_up (va_up (fun _ => none) 0 (some q5)) 1 (some q6))))))), (q3, .inl (a4, 6, .inl (fun _ => 0))), (q5, .inr (3, [.int 0, .int 0, .int 0, .int 0, .int 0, .int 0])), (q6, .inr (3, [.int 0, .int 0, .int 0, .int 0, .int 0, .int 0]))] H := hP
  have hD : va_D A [(h0, .inr (2, [.ref q1, .ref q3, .int 0, .int 0, .int 0, .int 0, .int 0, .int 0, .int 0, .int 0])), (q1, .inl (a2, 6, .inr (.inr (.inr (.inr (va_up (va_up (fun _ => none) 0 (some q5)) 1 (some q6))))))), (q3, .inl (a4, 6, .inl (fun _ => 0))), (q5, .inr (3, [.int 0, .int 0, .int 0, .int 0, .int 0, .int 0])), (q6, .inr (3, [.int 0, .int 0, .int 0, .int 0, .int 0, .int 0]))] := hD
  refine lv_iinc (v := 2) (lv' := [(1, .int 2), (0, .ref h0)]) hx hb dX2_init_47 hl (k := 0) rfl rfl (by decide) rfl (fun ls hl => ?_)
  refine lv_goto (tgt := 28) hx hb dX2_init_50 (by decide) ?_
  refine lv_iload_n hx hb dX2_init_28 rfl (lv_at hl 0 rfl) ?_
  refine lv_bipush (v := 6) hx hb dX2_init_29 (by decide) ?_
  refine lv_icmp_ge (tgt := 53) hx hb dX2_init_31 (by decide) (fun c9 => absurd c9 (by decide)) (fun c9 => ?_)
  refine lv_aload_n hx hb dX2_init_34 rfl (lv_at hl 1 rfl) ?_
  refine va_get (D := D) (ci := 2) (v := .ref q1) (C := RX2) (T := TX2) (N := 10) hx hb hts (fun _ h => List.mem_cons_of_mem _ (List.mem_append_left _ (List.mem_append_right _ h))) hown hK hP 0 rfl rfl 0 (by decide) (hts (.fieldLink RX2 11 "ButtonMatch$Shop" "tubes" "[LButtonMatch$Tube;") (by decide +kernel)) (fun _ h9 => h9) rfl dX2_init_35 ?_
  refine lv_iload_n hx hb dX2_init_38 rfl (lv_at hl 0 rfl) ?_
  refine va_new (ci := 3) (fs := [.int 0, .int 0, .int 0, .int 0, .int 0, .int 0]) (C := RX5) (T := TX5) (N := 6) hx hb hts (fun _ h => List.mem_cons_of_mem _ (List.mem_append_right _ h)) tyX5 tyX5_ok hown (hts (.classLink RX2 9 RX5) (by decide +kernel)) (hts (.instantiable RX5 6) (by decide +kernel)) (hts (.initialized RX5) (by decide +kernel)) hK hP hD hS hA rfl dfX5 (Nat.le_of_ble_eq_true rfl) (Nat.le_of_ble_eq_true rfl) dX2_init_39 (fun q7 H hP hD hS => ?_)
  have hP : va_P D vwCl [(h0, .inr (2, [.ref q1, .ref q3, .int 0, .int 0, .int 0, .int 0, .int 0, .int 0, .int 0, .int 0])), (q1, .inl (a2, 6, .inr (.inr (.inr (.inr (va_up (va_up (fun _ => none) 0 (some q5)) 1 (some q6))))))), (q3, .inl (a4, 6, .inl (fun _ => 0))), (q5, .inr (3, [.int 0, .int 0, .int 0, .int 0, .int 0, .int 0])), (q6, .inr (3, [.int 0, .int 0, .int 0, .int 0, .int 0, .int 0])), (q7, .inr (3, [.int 0, .int 0, .int 0, .int 0, .int 0, .int 0]))] H := hP
  have hD : va_D A [(h0, .inr (2, [.ref q1, .ref q3, .int 0, .int 0, .int 0, .int 0, .int 0, .int 0, .int 0, .int 0])), (q1, .inl (a2, 6, .inr (.inr (.inr (.inr (va_up (va_up (fun _ => none) 0 (some q5)) 1 (some q6))))))), (q3, .inl (a4, 6, .inl (fun _ => 0))), (q5, .inr (3, [.int 0, .int 0, .int 0, .int 0, .int 0, .int 0])), (q6, .inr (3, [.int 0, .int 0, .int 0, .int 0, .int 0, .int 0])), (q7, .inr (3, [.int 0, .int 0, .int 0, .int 0, .int 0, .int 0]))] := hD
  refine lv_dup hx hb dX2_init_42 rfl ?_
  have hPc := hP.sub (ws' := [(q7, .inr (3, [.int 0, .int 0, .int 0, .int 0, .int 0, .int 0]))]) [5] rfl
  have hDc := hD.sub (ws' := [(q7, .inr (3, [.int 0, .int 0, .int 0, .int 0, .int 0, .int 0]))]) [5] (by decide) rfl
  have hKc := hK.sub (tys' := []) [] rfl
  have hFc := va_free (wc := [(q7, .inr (3, [.int 0, .int 0, .int 0, .int 0, .int 0, .int 0]))]) hD hS hA [5] rfl
  refine va_callv (va_runIN (host := "ButtonMatch") (As := []) (rest := [.ref q7, .int 2, .ref q1]) ⟨hx, hb, hml, hown, hts⟩ (nX5_init l D q7 H.size) ⟨va_cnB 0 hts gX2_init_X5_init_n25 rfl rfl rfl (hN.1.2 ("ButtonMatch$Shop", 25, yX5_init) (by decide)) (hts (.initialized RX5) (by decide +kernel)) (by decide +kernel) ⟨Nat.le_of_ble_eq_true rfl, Nat.le_of_ble_eq_true rfl⟩, rfl, (hts (.instanceMethod yX5_init) (by decide +kernel))⟩ ⟨Nx.blind, fun U hU hW => ⟨rfl, by rw [hU], by rw [hU]; exact hPc, va_K.moved hW.alike hKc, hDc.weaken (fun _ _ _ _ => trivial), hN.warm hW⟩⟩ rfl rfl hl.1 rfl (lv_room (Nat.le_of_ble_eq_true rfl)) dX2_init_43 ⟨Nat.le_of_ble_eq_true rfl, Nat.le_of_ble_eq_true rfl⟩) hS (fun q _ h => hFc q h) hFc (fun u t H1 locs ht hvm hw hB hz1 hk1 hS => ?_)
  obtain ⟨hP1, hK1, hD1⟩ := hB
  rw [ht] at hP1
  have hK1 := va_K.moved hvm.symm hK1
  obtain ⟨hP, hD⟩ := va_join (wr := [(h0, .inr (2, [.ref q1, .ref q3, .int 0, .int 0, .int 0, .int 0, .int 0, .int 0, .int 0, .int 0])), (q1, .inl (a2, 6, .inr (.inr (.inr (.inr (va_up (va_up (fun _ => none) 0 (some q5)) 1 (some q6))))))), (q3, .inl (a4, 6, .inl (fun _ => 0))), (q5, .inr (3, [.int 0, .int 0, .int 0, .int 0, .int 0, .int 0])), (q6, .inr (3, [.int 0, .int 0, .int 0, .int 0, .int 0, .int 0]))]) (w1 := [(q7, .inr (3, [.int 0, .int 0, .int 0, .int 0, .int 0, .int 0]))]) hP hD [5] [0, 1, 2, 3, 4] rfl rfl (by decide) (by decide) hk1 hFc hP1 hD1
  have hK := hK.app hK1
  generalize H1 = H at hP hS ⊢
  have hP : va_P D vwCl [(h0, .inr (2, [.ref q1, .ref q3, .int 0, .int 0, .int 0, .int 0, .int 0, .int 0, .int 0, .int 0])), (q1, .inl (a2, 6, .inr (.inr (.inr (.inr (va_up (va_up (fun _ => none) 0 (some q5)) 1 (some q6))))))), (q3, .inl (a4, 6, .inl (fun _ => 0))), (q5, .inr (3, [.int 0, .int 0, .int 0, .int 0, .int 0, .int 0])), (q6, .inr (3, [.int 0, .int 0, .int 0, .int 0, .int 0, .int 0])), (q7, .inr (3, [.int 0, .int 0, .int 0, .int 0, .int 0, .int 0]))] H := hP
  have hD : va_D A [(h0, .inr (2, [.ref q1, .ref q3, .int 0, .int 0, .int 0, .int 0, .int 0, .int 0, .int 0, .int 0])), (q1, .inl (a2, 6, .inr (.inr (.inr (.inr (va_up (va_up (fun _ => none) 0 (some q5)) 1 (some q6))))))), (q3, .inl (a4, 6, .inl (fun _ => 0))), (q5, .inr (3, [.int 0, .int 0, .int 0, .int 0, .int 0, .int 0])), (q6, .inr (3, [.int 0, .int 0, .int 0, .int 0, .int 0, .int 0])), (q7, .inr (3, [.int 0, .int 0, .int 0, .int 0, .int 0, .int 0]))] := hD
  have hK : va_K D vwCl [(a2, .object "ButtonMatch$Tube"), (a4, .int)] s := hK
  refine va_astq hx hb hK hP hD hS 1 0 5 3 rfl rfl rfl rfl (show gIn 2 6 by decide) dX2_init_46 (fun H locs hP hD hS => ?_)
  have hP : va_P D vwCl [(h0, .inr (2, [.ref q1, .ref q3, .int 0, .int 0, .int 0, .int 0, .int 0, .int 0, .int 0, .int 0])), (q1, .inl (a2, 6, .inr (.inr (.inr (.inr (va_up (va_up (va_up (fun _ => none) 0 (some q5)) 1 (some q6)) 2 (some q7))))))), (q3, .inl (a4, 6, .inl (fun _ => 0))), (q5, .inr (3, [.int 0, .int 0, .int 0, .int 0, .int 0, .int 0])), (q6, .inr (3, [.int 0, .int 0, .int 0, .int 0, .int 0, .int 0])), (q7, .inr (3, [.int 0, .int 0, .int 0, .int 0, .int 0, .int 0]))] H := hP
  have hD : va_D A [(h0, .inr (2, [.ref q1, .ref q3, .int 0, .int 0, .int 0, .int 0, .int 0, .int 0, .int 0, .int 0])), (q1, .inl (a2, 6, .inr (.inr (.inr (.inr (va_up (va_up (va_up (fun _ => none) 0 (some q5)) 1 (some q6)) 2 (some q7))))))), (q3, .inl (a4, 6, .inl (fun _ => 0))), (q5, .inr (3, [.int 0, .int 0, .int 0, .int 0, .int 0, .int 0])), (q6, .inr (3, [.int 0, .int 0, .int 0, .int 0, .int 0, .int 0])), (q7, .inr (3, [.int 0, .int 0, .int 0, .int 0, .int 0, .int 0]))] := hD
  refine lv_iinc (v := 3) (lv' := [(1, .int 3), (0, .ref h0)]) hx hb dX2_init_47 hl (k := 0) rfl rfl (by decide) rfl (fun ls hl => ?_)
  refine lv_goto (tgt := 28) hx hb dX2_init_50 (by decide) ?_
  refine lv_iload_n hx hb dX2_init_28 rfl (lv_at hl 0 rfl) ?_
  refine lv_bipush (v := 6) hx hb dX2_init_29 (by decide) ?_
  refine lv_icmp_ge (tgt := 53) hx hb dX2_init_31 (by decide) (fun c9 => absurd c9 (by decide)) (fun c9 => ?_)
  refine lv_aload_n hx hb dX2_init_34 rfl (lv_at hl 1 rfl) ?_
  refine va_get (D := D) (ci := 2) (v := .ref q1) (C := RX2) (T := TX2) (N := 10) hx hb hts (fun _ h => List.mem_cons_of_mem _ (List.mem_append_left _ (List.mem_append_right _ h))) hown hK hP 0 rfl rfl 0 (by decide) (hts (.fieldLink RX2 11 "ButtonMatch$Shop" "tubes" "[LButtonMatch$Tube;") (by decide +kernel)) (fun _ h9 => h9) rfl dX2_init_35 ?_
  refine lv_iload_n hx hb dX2_init_38 rfl (lv_at hl 0 rfl) ?_
  refine va_new (ci := 3) (fs := [.int 0, .int 0, .int 0, .int 0, .int 0, .int 0]) (C := RX5) (T := TX5) (N := 6) hx hb hts (fun _ h => List.mem_cons_of_mem _ (List.mem_append_right _ h)) tyX5 tyX5_ok hown (hts (.classLink RX2 9 RX5) (by decide +kernel)) (hts (.instantiable RX5 6) (by decide +kernel)) (hts (.initialized RX5) (by decide +kernel)) hK hP hD hS hA rfl dfX5 (Nat.le_of_ble_eq_true rfl) (Nat.le_of_ble_eq_true rfl) dX2_init_39 (fun q8 H hP hD hS => ?_)
  have hP : va_P D vwCl [(h0, .inr (2, [.ref q1, .ref q3, .int 0, .int 0, .int 0, .int 0, .int 0, .int 0, .int 0, .int 0])), (q1, .inl (a2, 6, .inr (.inr (.inr (.inr (va_up (va_up (va_up (fun _ => none) 0 (some q5)) 1 (some q6)) 2 (some q7))))))), (q3, .inl (a4, 6, .inl (fun _ => 0))), (q5, .inr (3, [.int 0, .int 0, .int 0, .int 0, .int 0, .int 0])), (q6, .inr (3, [.int 0, .int 0, .int 0, .int 0, .int 0, .int 0])), (q7, .inr (3, [.int 0, .int 0, .int 0, .int 0, .int 0, .int 0])), (q8, .inr (3, [.int 0, .int 0, .int 0, .int 0, .int 0, .int 0]))] H := hP
  have hD : va_D A [(h0, .inr (2, [.ref q1, .ref q3, .int 0, .int 0, .int 0, .int 0, .int 0, .int 0, .int 0, .int 0])), (q1, .inl (a2, 6, .inr (.inr (.inr (.inr (va_up (va_up (va_up (fun _ => none) 0 (some q5)) 1 (some q6)) 2 (some q7))))))), (q3, .inl (a4, 6, .inl (fun _ => 0))), (q5, .inr (3, [.int 0, .int 0, .int 0, .int 0, .int 0, .int 0])), (q6, .inr (3, [.int 0, .int 0, .int 0, .int 0, .int 0, .int 0])), (q7, .inr (3, [.int 0, .int 0, .int 0, .int 0, .int 0, .int 0])), (q8, .inr (3, [.int 0, .int 0, .int 0, .int 0, .int 0, .int 0]))] := hD
  refine lv_dup hx hb dX2_init_42 rfl ?_
  have hPc := hP.sub (ws' := [(q8, .inr (3, [.int 0, .int 0, .int 0, .int 0, .int 0, .int 0]))]) [6] rfl
  have hDc := hD.sub (ws' := [(q8, .inr (3, [.int 0, .int 0, .int 0, .int 0, .int 0, .int 0]))]) [6] (by decide) rfl
  have hKc := hK.sub (tys' := []) [] rfl
  have hFc := va_free (wc := [(q8, .inr (3, [.int 0, .int 0, .int 0, .int 0, .int 0, .int 0]))]) hD hS hA [6] rfl
  refine va_callv (va_runIN (host := "ButtonMatch") (As := []) (rest := [.ref q8, .int 3, .ref q1]) ⟨hx, hb, hml, hown, hts⟩ (nX5_init l D q8 H.size) ⟨va_cnB 0 hts gX2_init_X5_init_n25 rfl rfl rfl (hN.1.2 ("ButtonMatch$Shop", 25, yX5_init) (by decide)) (hts (.initialized RX5) (by decide +kernel)) (by decide +kernel) ⟨Nat.le_of_ble_eq_true rfl, Nat.le_of_ble_eq_true rfl⟩, rfl, (hts (.instanceMethod yX5_init) (by decide +kernel))⟩ ⟨Nx.blind, fun U hU hW => ⟨rfl, by rw [hU], by rw [hU]; exact hPc, va_K.moved hW.alike hKc, hDc.weaken (fun _ _ _ _ => trivial), hN.warm hW⟩⟩ rfl rfl hl.1 rfl (lv_room (Nat.le_of_ble_eq_true rfl)) dX2_init_43 ⟨Nat.le_of_ble_eq_true rfl, Nat.le_of_ble_eq_true rfl⟩) hS (fun q _ h => hFc q h) hFc (fun u t H1 locs ht hvm hw hB hz1 hk1 hS => ?_)
  obtain ⟨hP1, hK1, hD1⟩ := hB
  rw [ht] at hP1
  have hK1 := va_K.moved hvm.symm hK1
  obtain ⟨hP, hD⟩ := va_join (wr := [(h0, .inr (2, [.ref q1, .ref q3, .int 0, .int 0, .int 0, .int 0, .int 0, .int 0, .int 0, .int 0])), (q1, .inl (a2, 6, .inr (.inr (.inr (.inr (va_up (va_up (va_up (fun _ => none) 0 (some q5)) 1 (some q6)) 2 (some q7))))))), (q3, .inl (a4, 6, .inl (fun _ => 0))), (q5, .inr (3, [.int 0, .int 0, .int 0, .int 0, .int 0, .int 0])), (q6, .inr (3, [.int 0, .int 0, .int 0, .int 0, .int 0, .int 0])), (q7, .inr (3, [.int 0, .int 0, .int 0, .int 0, .int 0, .int 0]))]) (w1 := [(q8, .inr (3, [.int 0, .int 0, .int 0, .int 0, .int 0, .int 0]))]) hP hD [6] [0, 1, 2, 3, 4, 5] rfl rfl (by decide) (by decide) hk1 hFc hP1 hD1
  have hK := hK.app hK1
  generalize H1 = H at hP hS ⊢
  have hP : va_P D vwCl [(h0, .inr (2, [.ref q1, .ref q3, .int 0, .int 0, .int 0, .int 0, .int 0, .int 0, .int 0, .int 0])), (q1, .inl (a2, 6, .inr (.inr (.inr (.inr (va_up (va_up (va_up (fun _ => none) 0 (some q5)) 1 (some q6)) 2 (some q7))))))), (q3, .inl (a4, 6, .inl (fun _ => 0))), (q5, .inr (3, [.int 0, .int 0, .int 0, .int 0, .int 0, .int 0])), (q6, .inr (3, [.int 0, .int 0, .int 0, .int 0, .int 0, .int 0])), (q7, .inr (3, [.int 0, .int 0, .int 0, .int 0, .int 0, .int 0])), (q8, .inr (3, [.int 0, .int 0, .int 0, .int 0, .int 0, .int 0]))] H := hP
  have hD : va_D A [(h0, .inr (2, [.ref q1, .ref q3, .int 0, .int 0, .int 0, .int 0, .int 0, .int 0, .int 0, .int 0])), (q1, .inl (a2, 6, .inr (.inr (.inr (.inr (va_up (va_up (va_up (fun _ => none) 0 (some q5)) 1 (some q6)) 2 (some q7))))))), (q3, .inl (a4, 6, .inl (fun _ => 0))), (q5, .inr (3, [.int 0, .int 0, .int 0, .int 0, .int 0, .int 0])), (q6, .inr (3, [.int 0, .int 0, .int 0, .int 0, .int 0, .int 0])), (q7, .inr (3, [.int 0, .int 0, .int 0, .int 0, .int 0, .int 0])), (q8, .inr (3, [.int 0, .int 0, .int 0, .int 0, .int 0, .int 0]))] := hD
  have hK : va_K D vwCl [(a2, .object "ButtonMatch$Tube"), (a4, .int)] s := hK
  refine va_astq hx hb hK hP hD hS 1 0 6 3 rfl rfl rfl rfl (show gIn 3 6 by decide) dX2_init_46 (fun H locs hP hD hS => ?_)
  have hP : va_P D vwCl [(h0, .inr (2, [.ref q1, .ref q3, .int 0, .int 0, .int 0, .int 0, .int 0, .int 0, .int 0, .int 0])), (q1, .inl (a2, 6, .inr (.inr (.inr (.inr (va_up (va_up (va_up (va_up (fun _ => none) 0 (some q5)) 1 (some q6)) 2 (some q7)) 3 (some q8))))))), (q3, .inl (a4, 6, .inl (fun _ => 0))), (q5, .inr (3, [.int 0, .int 0, .int 0, .int 0, .int 0, .int 0])), (q6, .inr (3, [.int 0, .int 0, .int 0, .int 0, .int 0, .int 0])), (q7, .inr (3, [.int 0, .int 0, .int 0, .int 0, .int 0, .int 0])), (q8, .inr (3, [.int 0, .int 0, .int 0, .int 0, .int 0, .int 0]))] H := hP
  have hD : va_D A [(h0, .inr (2, [.ref q1, .ref q3, .int 0, .int 0, .int 0, .int 0, .int 0, .int 0, .int 0, .int 0])), (q1, .inl (a2, 6, .inr (.inr (.inr (.inr (va_up (va_up (va_up (va_up (fun _ => none) 0 (some q5)) 1 (some q6)) 2 (some q7)) 3 (some q8))))))), (q3, .inl (a4, 6, .inl (fun _ => 0))), (q5, .inr (3, [.int 0, .int 0, .int 0, .int 0, .int 0, .int 0])), (q6, .inr (3, [.int 0, .int 0, .int 0, .int 0, .int 0, .int 0])), (q7, .inr (3, [.int 0, .int 0, .int 0, .int 0, .int 0, .int 0])), (q8, .inr (3, [.int 0, .int 0, .int 0, .int 0, .int 0, .int 0]))] := hD
  refine lv_iinc (v := 4) (lv' := [(1, .int 4), (0, .ref h0)]) hx hb dX2_init_47 hl (k := 0) rfl rfl (by decide) rfl (fun ls hl => ?_)
  refine lv_goto (tgt := 28) hx hb dX2_init_50 (by decide) ?_
  refine lv_iload_n hx hb dX2_init_28 rfl (lv_at hl 0 rfl) ?_
  refine lv_bipush (v := 6) hx hb dX2_init_29 (by decide) ?_
  refine lv_icmp_ge (tgt := 53) hx hb dX2_init_31 (by decide) (fun c9 => absurd c9 (by decide)) (fun c9 => ?_)
  refine lv_aload_n hx hb dX2_init_34 rfl (lv_at hl 1 rfl) ?_
  refine va_get (D := D) (ci := 2) (v := .ref q1) (C := RX2) (T := TX2) (N := 10) hx hb hts (fun _ h => List.mem_cons_of_mem _ (List.mem_append_left _ (List.mem_append_right _ h))) hown hK hP 0 rfl rfl 0 (by decide) (hts (.fieldLink RX2 11 "ButtonMatch$Shop" "tubes" "[LButtonMatch$Tube;") (by decide +kernel)) (fun _ h9 => h9) rfl dX2_init_35 ?_
  refine lv_iload_n hx hb dX2_init_38 rfl (lv_at hl 0 rfl) ?_
  refine va_new (ci := 3) (fs := [.int 0, .int 0, .int 0, .int 0, .int 0, .int 0]) (C := RX5) (T := TX5) (N := 6) hx hb hts (fun _ h => List.mem_cons_of_mem _ (List.mem_append_right _ h)) tyX5 tyX5_ok hown (hts (.classLink RX2 9 RX5) (by decide +kernel)) (hts (.instantiable RX5 6) (by decide +kernel)) (hts (.initialized RX5) (by decide +kernel)) hK hP hD hS hA rfl dfX5 (Nat.le_of_ble_eq_true rfl) (Nat.le_of_ble_eq_true rfl) dX2_init_39 (fun q9 H hP hD hS => ?_)
  have hP : va_P D vwCl [(h0, .inr (2, [.ref q1, .ref q3, .int 0, .int 0, .int 0, .int 0, .int 0, .int 0, .int 0, .int 0])), (q1, .inl (a2, 6, .inr (.inr (.inr (.inr (va_up (va_up (va_up (va_up (fun _ => none) 0 (some q5)) 1 (some q6)) 2 (some q7)) 3 (some q8))))))), (q3, .inl (a4, 6, .inl (fun _ => 0))), (q5, .inr (3, [.int 0, .int 0, .int 0, .int 0, .int 0, .int 0])), (q6, .inr (3, [.int 0, .int 0, .int 0, .int 0, .int 0, .int 0])), (q7, .inr (3, [.int 0, .int 0, .int 0, .int 0, .int 0, .int 0])), (q8, .inr (3, [.int 0, .int 0, .int 0, .int 0, .int 0, .int 0])), (q9, .inr (3, [.int 0, .int 0, .int 0, .int 0, .int 0, .int 0]))] H := hP
  have hD : va_D A [(h0, .inr (2, [.ref q1, .ref q3, .int 0, .int 0, .int 0, .int 0, .int 0, .int 0, .int 0, .int 0])), (q1, .inl (a2, 6, .inr (.inr (.inr (.inr (va_up (va_up (va_up (va_up (fun _ => none) 0 (some q5)) 1 (some q6)) 2 (some q7)) 3 (some q8))))))), (q3, .inl (a4, 6, .inl (fun _ => 0))), (q5, .inr (3, [.int 0, .int 0, .int 0, .int 0, .int 0, .int 0])), (q6, .inr (3, [.int 0, .int 0, .int 0, .int 0, .int 0, .int 0])), (q7, .inr (3, [.int 0, .int 0, .int 0, .int 0, .int 0, .int 0])), (q8, .inr (3, [.int 0, .int 0, .int 0, .int 0, .int 0, .int 0])), (q9, .inr (3, [.int 0, .int 0, .int 0, .int 0, .int 0, .int 0]))] := hD
  refine lv_dup hx hb dX2_init_42 rfl ?_
  have hPc := hP.sub (ws' := [(q9, .inr (3, [.int 0, .int 0, .int 0, .int 0, .int 0, .int 0]))]) [7] rfl
  have hDc := hD.sub (ws' := [(q9, .inr (3, [.int 0, .int 0, .int 0, .int 0, .int 0, .int 0]))]) [7] (by decide) rfl
  have hKc := hK.sub (tys' := []) [] rfl
  have hFc := va_free (wc := [(q9, .inr (3, [.int 0, .int 0, .int 0, .int 0, .int 0, .int 0]))]) hD hS hA [7] rfl
  refine va_callv (va_runIN (host := "ButtonMatch") (As := []) (rest := [.ref q9, .int 4, .ref q1]) ⟨hx, hb, hml, hown, hts⟩ (nX5_init l D q9 H.size) ⟨va_cnB 0 hts gX2_init_X5_init_n25 rfl rfl rfl (hN.1.2 ("ButtonMatch$Shop", 25, yX5_init) (by decide)) (hts (.initialized RX5) (by decide +kernel)) (by decide +kernel) ⟨Nat.le_of_ble_eq_true rfl, Nat.le_of_ble_eq_true rfl⟩, rfl, (hts (.instanceMethod yX5_init) (by decide +kernel))⟩ ⟨Nx.blind, fun U hU hW => ⟨rfl, by rw [hU], by rw [hU]; exact hPc, va_K.moved hW.alike hKc, hDc.weaken (fun _ _ _ _ => trivial), hN.warm hW⟩⟩ rfl rfl hl.1 rfl (lv_room (Nat.le_of_ble_eq_true rfl)) dX2_init_43 ⟨Nat.le_of_ble_eq_true rfl, Nat.le_of_ble_eq_true rfl⟩) hS (fun q _ h => hFc q h) hFc (fun u t H1 locs ht hvm hw hB hz1 hk1 hS => ?_)
  obtain ⟨hP1, hK1, hD1⟩ := hB
  rw [ht] at hP1
  have hK1 := va_K.moved hvm.symm hK1
  obtain ⟨hP, hD⟩ := va_join (wr := [(h0, .inr (2, [.ref q1, .ref q3, .int 0, .int 0, .int 0, .int 0, .int 0, .int 0, .int 0, .int 0])), (q1, .inl (a2, 6, .inr (.inr (.inr (.inr (va_up (va_up (va_up (va_up (fun _ => none) 0 (some q5)) 1 (some q6)) 2 (some q7)) 3 (some q8))))))), (q3, .inl (a4, 6, .inl (fun _ => 0))), (q5, .inr (3, [.int 0, .int 0, .int 0, .int 0, .int 0, .int 0])), (q6, .inr (3, [.int 0, .int 0, .int 0, .int 0, .int 0, .int 0])), (q7, .inr (3, [.int 0, .int 0, .int 0, .int 0, .int 0, .int 0])), (q8, .inr (3, [.int 0, .int 0, .int 0, .int 0, .int 0, .int 0]))]) (w1 := [(q9, .inr (3, [.int 0, .int 0, .int 0, .int 0, .int 0, .int 0]))]) hP hD [7] [0, 1, 2, 3, 4, 5, 6] rfl rfl (by decide) (by decide) hk1 hFc hP1 hD1
  have hK := hK.app hK1
  generalize H1 = H at hP hS ⊢
  have hP : va_P D vwCl [(h0, .inr (2, [.ref q1, .ref q3, .int 0, .int 0, .int 0, .int 0, .int 0, .int 0, .int 0, .int 0])), (q1, .inl (a2, 6, .inr (.inr (.inr (.inr (va_up (va_up (va_up (va_up (fun _ => none) 0 (some q5)) 1 (some q6)) 2 (some q7)) 3 (some q8))))))), (q3, .inl (a4, 6, .inl (fun _ => 0))), (q5, .inr (3, [.int 0, .int 0, .int 0, .int 0, .int 0, .int 0])), (q6, .inr (3, [.int 0, .int 0, .int 0, .int 0, .int 0, .int 0])), (q7, .inr (3, [.int 0, .int 0, .int 0, .int 0, .int 0, .int 0])), (q8, .inr (3, [.int 0, .int 0, .int 0, .int 0, .int 0, .int 0])), (q9, .inr (3, [.int 0, .int 0, .int 0, .int 0, .int 0, .int 0]))] H := hP
  have hD : va_D A [(h0, .inr (2, [.ref q1, .ref q3, .int 0, .int 0, .int 0, .int 0, .int 0, .int 0, .int 0, .int 0])), (q1, .inl (a2, 6, .inr (.inr (.inr (.inr (va_up (va_up (va_up (va_up (fun _ => none) 0 (some q5)) 1 (some q6)) 2 (some q7)) 3 (some q8))))))), (q3, .inl (a4, 6, .inl (fun _ => 0))), (q5, .inr (3, [.int 0, .int 0, .int 0, .int 0, .int 0, .int 0])), (q6, .inr (3, [.int 0, .int 0, .int 0, .int 0, .int 0, .int 0])), (q7, .inr (3, [.int 0, .int 0, .int 0, .int 0, .int 0, .int 0])), (q8, .inr (3, [.int 0, .int 0, .int 0, .int 0, .int 0, .int 0])), (q9, .inr (3, [.int 0, .int 0, .int 0, .int 0, .int 0, .int 0]))] := hD
  have hK : va_K D vwCl [(a2, .object "ButtonMatch$Tube"), (a4, .int)] s := hK
  refine va_astq hx hb hK hP hD hS 1 0 7 3 rfl rfl rfl rfl (show gIn 4 6 by decide) dX2_init_46 (fun H locs hP hD hS => ?_)
  have hP : va_P D vwCl [(h0, .inr (2, [.ref q1, .ref q3, .int 0, .int 0, .int 0, .int 0, .int 0, .int 0, .int 0, .int 0])), (q1, .inl (a2, 6, .inr (.inr (.inr (.inr (va_up (va_up (va_up (va_up (va_up (fun _ => none) 0 (some q5)) 1 (some q6)) 2 (some q7)) 3 (some q8)) 4 (some q9))))))), (q3, .inl (a4, 6, .inl (fun _ => 0))), (q5, .inr (3, [.int 0, .int 0, .int 0, .int 0, .int 0, .int 0])), (q6, .inr (3, [.int 0, .int 0, .int 0, .int 0, .int 0, .int 0])), (q7, .inr (3, [.int 0, .int 0, .int 0, .int 0, .int 0, .int 0])), (q8, .inr (3, [.int 0, .int 0, .int 0, .int 0, .int 0, .int 0])), (q9, .inr (3, [.int 0, .int 0, .int 0, .int 0, .int 0, .int 0]))] H := hP
  have hD : va_D A [(h0, .inr (2, [.ref q1, .ref q3, .int 0, .int 0, .int 0, .int 0, .int 0, .int 0, .int 0, .int 0])), (q1, .inl (a2, 6, .inr (.inr (.inr (.inr (va_up (va_up (va_up (va_up (va_up (fun _ => none) 0 (some q5)) 1 (some q6)) 2 (some q7)) 3 (some q8)) 4 (some q9))))))), (q3, .inl (a4, 6, .inl (fun _ => 0))), (q5, .inr (3, [.int 0, .int 0, .int 0, .int 0, .int 0, .int 0])), (q6, .inr (3, [.int 0, .int 0, .int 0, .int 0, .int 0, .int 0])), (q7, .inr (3, [.int 0, .int 0, .int 0, .int 0, .int 0, .int 0])), (q8, .inr (3, [.int 0, .int 0, .int 0, .int 0, .int 0, .int 0])), (q9, .inr (3, [.int 0, .int 0, .int 0, .int 0, .int 0, .int 0]))] := hD
  refine lv_iinc (v := 5) (lv' := [(1, .int 5), (0, .ref h0)]) hx hb dX2_init_47 hl (k := 0) rfl rfl (by decide) rfl (fun ls hl => ?_)
  refine lv_goto (tgt := 28) hx hb dX2_init_50 (by decide) ?_
  refine lv_iload_n hx hb dX2_init_28 rfl (lv_at hl 0 rfl) ?_
  refine lv_bipush (v := 6) hx hb dX2_init_29 (by decide) ?_
  refine lv_icmp_ge (tgt := 53) hx hb dX2_init_31 (by decide) (fun c9 => absurd c9 (by decide)) (fun c9 => ?_)
  refine lv_aload_n hx hb dX2_init_34 rfl (lv_at hl 1 rfl) ?_
  refine va_get (D := D) (ci := 2) (v := .ref q1) (C := RX2) (T := TX2) (N := 10) hx hb hts (fun _ h => List.mem_cons_of_mem _ (List.mem_append_left _ (List.mem_append_right _ h))) hown hK hP 0 rfl rfl 0 (by decide) (hts (.fieldLink RX2 11 "ButtonMatch$Shop" "tubes" "[LButtonMatch$Tube;") (by decide +kernel)) (fun _ h9 => h9) rfl dX2_init_35 ?_
  refine lv_iload_n hx hb dX2_init_38 rfl (lv_at hl 0 rfl) ?_
  refine va_new (ci := 3) (fs := [.int 0, .int 0, .int 0, .int 0, .int 0, .int 0]) (C := RX5) (T := TX5) (N := 6) hx hb hts (fun _ h => List.mem_cons_of_mem _ (List.mem_append_right _ h)) tyX5 tyX5_ok hown (hts (.classLink RX2 9 RX5) (by decide +kernel)) (hts (.instantiable RX5 6) (by decide +kernel)) (hts (.initialized RX5) (by decide +kernel)) hK hP hD hS hA rfl dfX5 (Nat.le_of_ble_eq_true rfl) (Nat.le_of_ble_eq_true rfl) dX2_init_39 (fun q10 H hP hD hS => ?_)
  have hP : va_P D vwCl [(h0, .inr (2, [.ref q1, .ref q3, .int 0, .int 0, .int 0, .int 0, .int 0, .int 0, .int 0, .int 0])), (q1, .inl (a2, 6, .inr (.inr (.inr (.inr (va_up (va_up (va_up (va_up (va_up (fun _ => none) 0 (some q5)) 1 (some q6)) 2 (some q7)) 3 (some q8)) 4 (some q9))))))), (q3, .inl (a4, 6, .inl (fun _ => 0))), (q5, .inr (3, [.int 0, .int 0, .int 0, .int 0, .int 0, .int 0])), (q6, .inr (3, [.int 0, .int 0, .int 0, .int 0, .int 0, .int 0])), (q7, .inr (3, [.int 0, .int 0, .int 0, .int 0, .int 0, .int 0])), (q8, .inr (3, [.int 0, .int 0, .int 0, .int 0, .int 0, .int 0])), (q9, .inr (3, [.int 0, .int 0, .int 0, .int 0, .int 0, .int 0])), (q10, .inr (3, [.int 0, .int 0, .int 0, .int 0, .int 0, .int 0]))] H := hP
  have hD : va_D A [(h0, .inr (2, [.ref q1, .ref q3, .int 0, .int 0, .int 0, .int 0, .int 0, .int 0, .int 0, .int 0])), (q1, .inl (a2, 6, .inr (.inr (.inr (.inr (va_up (va_up (va_up (va_up (va_up (fun _ => none) 0 (some q5)) 1 (some q6)) 2 (some q7)) 3 (some q8)) 4 (some q9))))))), (q3, .inl (a4, 6, .inl (fun _ => 0))), (q5, .inr (3, [.int 0, .int 0, .int 0, .int 0, .int 0, .int 0])), (q6, .inr (3, [.int 0, .int 0, .int 0, .int 0, .int 0, .int 0])), (q7, .inr (3, [.int 0, .int 0, .int 0, .int 0, .int 0, .int 0])), (q8, .inr (3, [.int 0, .int 0, .int 0, .int 0, .int 0, .int 0])), (q9, .inr (3, [.int 0, .int 0, .int 0, .int 0, .int 0, .int 0])), (q10, .inr (3, [.int 0, .int 0, .int 0, .int 0, .int 0, .int 0]))] := hD
  refine lv_dup hx hb dX2_init_42 rfl ?_
  have hPc := hP.sub (ws' := [(q10, .inr (3, [.int 0, .int 0, .int 0, .int 0, .int 0, .int 0]))]) [8] rfl
  have hDc := hD.sub (ws' := [(q10, .inr (3, [.int 0, .int 0, .int 0, .int 0, .int 0, .int 0]))]) [8] (by decide) rfl
  have hKc := hK.sub (tys' := []) [] rfl
  have hFc := va_free (wc := [(q10, .inr (3, [.int 0, .int 0, .int 0, .int 0, .int 0, .int 0]))]) hD hS hA [8] rfl
  refine va_callv (va_runIN (host := "ButtonMatch") (As := []) (rest := [.ref q10, .int 5, .ref q1]) ⟨hx, hb, hml, hown, hts⟩ (nX5_init l D q10 H.size) ⟨va_cnB 0 hts gX2_init_X5_init_n25 rfl rfl rfl (hN.1.2 ("ButtonMatch$Shop", 25, yX5_init) (by decide)) (hts (.initialized RX5) (by decide +kernel)) (by decide +kernel) ⟨Nat.le_of_ble_eq_true rfl, Nat.le_of_ble_eq_true rfl⟩, rfl, (hts (.instanceMethod yX5_init) (by decide +kernel))⟩ ⟨Nx.blind, fun U hU hW => ⟨rfl, by rw [hU], by rw [hU]; exact hPc, va_K.moved hW.alike hKc, hDc.weaken (fun _ _ _ _ => trivial), hN.warm hW⟩⟩ rfl rfl hl.1 rfl (lv_room (Nat.le_of_ble_eq_true rfl)) dX2_init_43 ⟨Nat.le_of_ble_eq_true rfl, Nat.le_of_ble_eq_true rfl⟩) hS (fun q _ h => hFc q h) hFc (fun u t H1 locs ht hvm hw hB hz1 hk1 hS => ?_)
  obtain ⟨hP1, hK1, hD1⟩ := hB
  rw [ht] at hP1
  have hK1 := va_K.moved hvm.symm hK1
  obtain ⟨hP, hD⟩ := va_join (wr := [(h0, .inr (2, [.ref q1, .ref q3, .int 0, .int 0, .int 0, .int 0, .int 0, .int 0, .int 0, .int 0])), (q1, .inl (a2, 6, .inr (.inr (.inr (.inr (va_up (va_up (va_up (va_up (va_up (fun _ => none) 0 (some q5)) 1 (some q6)) 2 (some q7)) 3 (some q8)) 4 (some q9))))))), (q3, .inl (a4, 6, .inl (fun _ => 0))), (q5, .inr (3, [.int 0, .int 0, .int 0, .int 0, .int 0, .int 0])), (q6, .inr (3, [.int 0, .int 0, .int 0, .int 0, .int 0, .int 0])), (q7, .inr (3, [.int 0, .int 0, .int 0, .int 0, .int 0, .int 0])), (q8, .inr (3, [.int 0, .int 0, .int 0, .int 0, .int 0, .int 0])), (q9, .inr (3, [.int 0, .int 0, .int 0, .int 0, .int 0, .int 0]))]) (w1 := [(q10, .inr (3, [.int 0, .int 0, .int 0, .int 0, .int 0, .int 0]))]) hP hD [8] [0, 1, 2, 3, 4, 5, 6, 7] rfl rfl (by decide) (by decide) hk1 hFc hP1 hD1
  have hK := hK.app hK1
  generalize H1 = H at hP hS ⊢
  have hP : va_P D vwCl [(h0, .inr (2, [.ref q1, .ref q3, .int 0, .int 0, .int 0, .int 0, .int 0, .int 0, .int 0, .int 0])), (q1, .inl (a2, 6, .inr (.inr (.inr (.inr (va_up (va_up (va_up (va_up (va_up (fun _ => none) 0 (some q5)) 1 (some q6)) 2 (some q7)) 3 (some q8)) 4 (some q9))))))), (q3, .inl (a4, 6, .inl (fun _ => 0))), (q5, .inr (3, [.int 0, .int 0, .int 0, .int 0, .int 0, .int 0])), (q6, .inr (3, [.int 0, .int 0, .int 0, .int 0, .int 0, .int 0])), (q7, .inr (3, [.int 0, .int 0, .int 0, .int 0, .int 0, .int 0])), (q8, .inr (3, [.int 0, .int 0, .int 0, .int 0, .int 0, .int 0])), (q9, .inr (3, [.int 0, .int 0, .int 0, .int 0, .int 0, .int 0])), (q10, .inr (3, [.int 0, .int 0, .int 0, .int 0, .int 0, .int 0]))] H := hP
  have hD : va_D A [(h0, .inr (2, [.ref q1, .ref q3, .int 0, .int 0, .int 0, .int 0, .int 0, .int 0, .int 0, .int 0])), (q1, .inl (a2, 6, .inr (.inr (.inr (.inr (va_up (va_up (va_up (va_up (va_up (fun _ => none) 0 (some q5)) 1 (some q6)) 2 (some q7)) 3 (some q8)) 4 (some q9))))))), (q3, .inl (a4, 6, .inl (fun _ => 0))), (q5, .inr (3, [.int 0, .int 0, .int 0, .int 0, .int 0, .int 0])), (q6, .inr (3, [.int 0, .int 0, .int 0, .int 0, .int 0, .int 0])), (q7, .inr (3, [.int 0, .int 0, .int 0, .int 0, .int 0, .int 0])), (q8, .inr (3, [.int 0, .int 0, .int 0, .int 0, .int 0, .int 0])), (q9, .inr (3, [.int 0, .int 0, .int 0, .int 0, .int 0, .int 0])), (q10, .inr (3, [.int 0, .int 0, .int 0, .int 0, .int 0, .int 0]))] := hD
  have hK : va_K D vwCl [(a2, .object "ButtonMatch$Tube"), (a4, .int)] s := hK
  refine va_astq hx hb hK hP hD hS 1 0 8 3 rfl rfl rfl rfl (show gIn 5 6 by decide) dX2_init_46 (fun H locs hP hD hS => ?_)
  have hP : va_P D vwCl [(h0, .inr (2, [.ref q1, .ref q3, .int 0, .int 0, .int 0, .int 0, .int 0, .int 0, .int 0, .int 0])), (q1, .inl (a2, 6, .inr (.inr (.inr (.inr (va_up (va_up (va_up (va_up (va_up (va_up (fun _ => none) 0 (some q5)) 1 (some q6)) 2 (some q7)) 3 (some q8)) 4 (some q9)) 5 (some q10))))))), (q3, .inl (a4, 6, .inl (fun _ => 0))), (q5, .inr (3, [.int 0, .int 0, .int 0, .int 0, .int 0, .int 0])), (q6, .inr (3, [.int 0, .int 0, .int 0, .int 0, .int 0, .int 0])), (q7, .inr (3, [.int 0, .int 0, .int 0, .int 0, .int 0, .int 0])), (q8, .inr (3, [.int 0, .int 0, .int 0, .int 0, .int 0, .int 0])), (q9, .inr (3, [.int 0, .int 0, .int 0, .int 0, .int 0, .int 0])), (q10, .inr (3, [.int 0, .int 0, .int 0, .int 0, .int 0, .int 0]))] H := hP
  have hD : va_D A [(h0, .inr (2, [.ref q1, .ref q3, .int 0, .int 0, .int 0, .int 0, .int 0, .int 0, .int 0, .int 0])), (q1, .inl (a2, 6, .inr (.inr (.inr (.inr (va_up (va_up (va_up (va_up (va_up (va_up (fun _ => none) 0 (some q5)) 1 (some q6)) 2 (some q7)) 3 (some q8)) 4 (some q9)) 5 (some q10))))))), (q3, .inl (a4, 6, .inl (fun _ => 0))), (q5, .inr (3, [.int 0, .int 0, .int 0, .int 0, .int 0, .int 0])), (q6, .inr (3, [.int 0, .int 0, .int 0, .int 0, .int 0, .int 0])), (q7, .inr (3, [.int 0, .int 0, .int 0, .int 0, .int 0, .int 0])), (q8, .inr (3, [.int 0, .int 0, .int 0, .int 0, .int 0, .int 0])), (q9, .inr (3, [.int 0, .int 0, .int 0, .int 0, .int 0, .int 0])), (q10, .inr (3, [.int 0, .int 0, .int 0, .int 0, .int 0, .int 0]))] := hD
  refine lv_iinc (v := 6) (lv' := [(1, .int 6), (0, .ref h0)]) hx hb dX2_init_47 hl (k := 0) rfl rfl (by decide) rfl (fun ls hl => ?_)
  refine lv_goto (tgt := 28) hx hb dX2_init_50 (by decide) ?_
  refine lv_iload_n hx hb dX2_init_28 rfl (lv_at hl 0 rfl) ?_
  refine lv_bipush (v := 6) hx hb dX2_init_29 (by decide) ?_
  refine lv_icmp_ge (tgt := 53) hx hb dX2_init_31 (by decide) (fun c9 => ?_) (fun c9 => absurd (by decide) c9)
  exact W.vret hx hb hr (fun t ht hW => ⟨⟨(), rfl, trivial, q1, a2, q3, a4, q5, q6, q7, q8, q9, q10, by rw [ht]; exact hP, va_K.moved hW.alike hK, hD⟩, hS.F ht⟩) hS.2.2 dX2_init_53

