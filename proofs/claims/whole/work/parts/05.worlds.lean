def wsX (κ : Kp) (ad : Nat → Nat) (σ : Sg) : va_W :=
  [(ad 0, .inr (4, [.ref (ad 1), .ref (ad 10), .ref (ad 19), .int (σ 0 3), .int (σ 0 4)])),
   (ad 1, .inl (κ.1 2, 4, .inr (.inr (.inr (.inr (fun j => some (ad (2 + j)))))))),
   (ad 2, .inr (1, [.ref (ad (6 + 0)), .int (σ 2 1), .int (σ 2 2)])),
   (ad 3, .inr (1, [.ref (ad (6 + 1)), .int (σ 3 1), .int (σ 3 2)])),
   (ad 4, .inr (1, [.ref (ad (6 + 2)), .int (σ 4 1), .int (σ 4 2)])),
   (ad 5, .inr (1, [.ref (ad (6 + 3)), .int (σ 5 1), .int (σ 5 2)])),
   (ad 6, .inl (κ.1 0, 60, .inl (σ 6))),
   (ad 7, .inl (κ.1 0, 60, .inl (σ 7))),
   (ad 8, .inl (κ.1 0, 60, .inl (σ 8))),
   (ad 9, .inl (κ.1 0, 60, .inl (σ 9))),
   (ad 10, .inr (2, [.ref (ad 11), .ref (ad 12), .int (σ 10 2), .int (σ 10 3), .int (σ 10 4), .int (σ 10 5), .int (σ 10 6), .int (σ 10 7), .int (σ 10 8), .int (σ 10 9)])),
   (ad 11, .inl (κ.1 3, 6, .inr (.inr (.inr (.inr (fun j => some (ad (13 + j)))))))),
   (ad 12, .inl (κ.1 0, 6, .inl (σ 12))),
   (ad 13, .inr (3, [.int (σ 13 0), .int (σ 13 1), .int (σ 13 2), .int (σ 13 3), .int (σ 13 4), .int (σ 13 5)])),
   (ad 14, .inr (3, [.int (σ 14 0), .int (σ 14 1), .int (σ 14 2), .int (σ 14 3), .int (σ 14 4), .int (σ 14 5)])),
   (ad 15, .inr (3, [.int (σ 15 0), .int (σ 15 1), .int (σ 15 2), .int (σ 15 3), .int (σ 15 4), .int (σ 15 5)])),
   (ad 16, .inr (3, [.int (σ 16 0), .int (σ 16 1), .int (σ 16 2), .int (σ 16 3), .int (σ 16 4), .int (σ 16 5)])),
   (ad 17, .inr (3, [.int (σ 17 0), .int (σ 17 1), .int (σ 17 2), .int (σ 17 3), .int (σ 17 4), .int (σ 17 5)])),
   (ad 18, .inr (3, [.int (σ 18 0), .int (σ 18 1), .int (σ 18 2), .int (σ 18 3), .int (σ 18 4), .int (σ 18 5)])),
   (ad 19, .inr (0, [.ref (ad 20), .ref (ad 21), .int (σ 19 2)])),
   (ad 20, .inl (κ.1 0, 8, .inl (σ 20))),
   (ad 21, .inl (κ.1 1, 8, .inl (σ 21)))]
theorem gX_BM (κ : Kp) (ad : Nat → Nat) (σ : Sg) : (wsX κ ad σ)[0]? = some (ad 0, .inr (4, [.ref (ad 1), .ref (ad 10), .ref (ad 19), .int (σ 0 3), .int (σ 0 4)])) := rfl
theorem sX_BM_3 (κ : Kp) (ad : Nat → Nat) (σ : Sg) (v : Int32) : (wsX κ ad σ).set 0 (ad 0, .inr (4, [.ref (ad 1), .ref (ad 10), .ref (ad 19), .int v, .int (σ 0 4)])) = wsX κ ad (up2 σ 0 3 v) := rfl
theorem sX_BM_4 (κ : Kp) (ad : Nat → Nat) (σ : Sg) (v : Int32) : (wsX κ ad σ).set 0 (ad 0, .inr (4, [.ref (ad 1), .ref (ad 10), .ref (ad 19), .int (σ 0 3), .int v])) = wsX κ ad (up2 σ 0 4 v) := rfl
theorem gX_arS (κ : Kp) (ad : Nat → Nat) (σ : Sg) : (wsX κ ad σ)[1]? = some (ad 1, .inl (κ.1 2, 4, .inr (.inr (.inr (.inr (fun j => some (ad (2 + j)))))))) := rfl
theorem gX_Sh (κ : Kp) (ad : Nat → Nat) (σ : Sg) {k : Nat} (hk : k < 4) : (wsX κ ad σ)[2 + k]? = some (ad (2 + k), .inr (1, [.ref (ad (6 + k)), .int (σ (2 + k) 1), .int (σ (2 + k) 2)])) := by
  match k, hk with
  | 0, _ => rfl
  | 1, _ => rfl
  | 2, _ => rfl
  | 3, _ => rfl
theorem sX_Sh_1 (κ : Kp) (ad : Nat → Nat) (σ : Sg) (v : Int32) {k : Nat} (hk : k < 4) : (wsX κ ad σ).set (2 + k) (ad (2 + k), .inr (1, [.ref (ad (6 + k)), .int v, .int (σ (2 + k) 2)])) = wsX κ ad (up2 σ (2 + k) 1 v) := by
  match k, hk with
  | 0, _ => rfl
  | 1, _ => rfl
  | 2, _ => rfl
  | 3, _ => rfl
theorem sX_Sh_2 (κ : Kp) (ad : Nat → Nat) (σ : Sg) (v : Int32) {k : Nat} (hk : k < 4) : (wsX κ ad σ).set (2 + k) (ad (2 + k), .inr (1, [.ref (ad (6 + k)), .int (σ (2 + k) 1), .int v])) = wsX κ ad (up2 σ (2 + k) 2 v) := by
  match k, hk with
  | 0, _ => rfl
  | 1, _ => rfl
  | 2, _ => rfl
  | 3, _ => rfl
theorem gX_cl (κ : Kp) (ad : Nat → Nat) (σ : Sg) {k : Nat} (hk : k < 4) : (wsX κ ad σ)[6 + k]? = some (ad (6 + k), .inl (κ.1 0, 60, .inl (σ (6 + k)))) := by
  match k, hk with
  | 0, _ => rfl
  | 1, _ => rfl
  | 2, _ => rfl
  | 3, _ => rfl
theorem sX_cl (κ : Kp) (ad : Nat → Nat) (σ : Sg) (i : Nat) (v : Int32) {k : Nat} (hk : k < 4) : (wsX κ ad σ).set (6 + k) (ad (6 + k), .inl (κ.1 0, 60, .inl (upd (σ (6 + k)) i v))) = wsX κ ad (up2 σ (6 + k) i v) := by
  match k, hk with
  | 0, _ => rfl
  | 1, _ => rfl
  | 2, _ => rfl
  | 3, _ => rfl
theorem aX_cl (κ : Kp) (ad : Nat → Nat) (σ : Sg) (f : Nat → Int32) {k : Nat} (hk : k < 4) : (wsX κ ad σ).set (6 + k) (ad (6 + k), .inl (κ.1 0, 60, .inl f)) = wsX κ ad (upA σ (6 + k) f) := by
  match k, hk with
  | 0, _ => rfl
  | 1, _ => rfl
  | 2, _ => rfl
  | 3, _ => rfl
theorem gX_Sp (κ : Kp) (ad : Nat → Nat) (σ : Sg) : (wsX κ ad σ)[10]? = some (ad 10, .inr (2, [.ref (ad 11), .ref (ad 12), .int (σ 10 2), .int (σ 10 3), .int (σ 10 4), .int (σ 10 5), .int (σ 10 6), .int (σ 10 7), .int (σ 10 8), .int (σ 10 9)])) := rfl
theorem sX_Sp_2 (κ : Kp) (ad : Nat → Nat) (σ : Sg) (v : Int32) : (wsX κ ad σ).set 10 (ad 10, .inr (2, [.ref (ad 11), .ref (ad 12), .int v, .int (σ 10 3), .int (σ 10 4), .int (σ 10 5), .int (σ 10 6), .int (σ 10 7), .int (σ 10 8), .int (σ 10 9)])) = wsX κ ad (up2 σ 10 2 v) := rfl
theorem sX_Sp_3 (κ : Kp) (ad : Nat → Nat) (σ : Sg) (v : Int32) : (wsX κ ad σ).set 10 (ad 10, .inr (2, [.ref (ad 11), .ref (ad 12), .int (σ 10 2), .int v, .int (σ 10 4), .int (σ 10 5), .int (σ 10 6), .int (σ 10 7), .int (σ 10 8), .int (σ 10 9)])) = wsX κ ad (up2 σ 10 3 v) := rfl
theorem sX_Sp_4 (κ : Kp) (ad : Nat → Nat) (σ : Sg) (v : Int32) : (wsX κ ad σ).set 10 (ad 10, .inr (2, [.ref (ad 11), .ref (ad 12), .int (σ 10 2), .int (σ 10 3), .int v, .int (σ 10 5), .int (σ 10 6), .int (σ 10 7), .int (σ 10 8), .int (σ 10 9)])) = wsX κ ad (up2 σ 10 4 v) := rfl
theorem sX_Sp_5 (κ : Kp) (ad : Nat → Nat) (σ : Sg) (v : Int32) : (wsX κ ad σ).set 10 (ad 10, .inr (2, [.ref (ad 11), .ref (ad 12), .int (σ 10 2), .int (σ 10 3), .int (σ 10 4), .int v, .int (σ 10 6), .int (σ 10 7), .int (σ 10 8), .int (σ 10 9)])) = wsX κ ad (up2 σ 10 5 v) := rfl
theorem sX_Sp_6 (κ : Kp) (ad : Nat → Nat) (σ : Sg) (v : Int32) : (wsX κ ad σ).set 10 (ad 10, .inr (2, [.ref (ad 11), .ref (ad 12), .int (σ 10 2), .int (σ 10 3), .int (σ 10 4), .int (σ 10 5), .int v, .int (σ 10 7), .int (σ 10 8), .int (σ 10 9)])) = wsX κ ad (up2 σ 10 6 v) := rfl
theorem sX_Sp_7 (κ : Kp) (ad : Nat → Nat) (σ : Sg) (v : Int32) : (wsX κ ad σ).set 10 (ad 10, .inr (2, [.ref (ad 11), .ref (ad 12), .int (σ 10 2), .int (σ 10 3), .int (σ 10 4), .int (σ 10 5), .int (σ 10 6), .int v, .int (σ 10 8), .int (σ 10 9)])) = wsX κ ad (up2 σ 10 7 v) := rfl
theorem sX_Sp_8 (κ : Kp) (ad : Nat → Nat) (σ : Sg) (v : Int32) : (wsX κ ad σ).set 10 (ad 10, .inr (2, [.ref (ad 11), .ref (ad 12), .int (σ 10 2), .int (σ 10 3), .int (σ 10 4), .int (σ 10 5), .int (σ 10 6), .int (σ 10 7), .int v, .int (σ 10 9)])) = wsX κ ad (up2 σ 10 8 v) := rfl
theorem sX_Sp_9 (κ : Kp) (ad : Nat → Nat) (σ : Sg) (v : Int32) : (wsX κ ad σ).set 10 (ad 10, .inr (2, [.ref (ad 11), .ref (ad 12), .int (σ 10 2), .int (σ 10 3), .int (σ 10 4), .int (σ 10 5), .int (σ 10 6), .int (σ 10 7), .int (σ 10 8), .int v])) = wsX κ ad (up2 σ 10 9 v) := rfl
theorem gX_arT (κ : Kp) (ad : Nat → Nat) (σ : Sg) : (wsX κ ad σ)[11]? = some (ad 11, .inl (κ.1 3, 6, .inr (.inr (.inr (.inr (fun j => some (ad (13 + j)))))))) := rfl
theorem gX_se (κ : Kp) (ad : Nat → Nat) (σ : Sg) : (wsX κ ad σ)[12]? = some (ad 12, .inl (κ.1 0, 6, .inl (σ 12))) := rfl
theorem sX_se (κ : Kp) (ad : Nat → Nat) (σ : Sg) (i : Nat) (v : Int32) : (wsX κ ad σ).set 12 (ad 12, .inl (κ.1 0, 6, .inl (upd (σ 12) i v))) = wsX κ ad (up2 σ 12 i v) := rfl
theorem gX_Tu (κ : Kp) (ad : Nat → Nat) (σ : Sg) {k : Nat} (hk : k < 6) : (wsX κ ad σ)[13 + k]? = some (ad (13 + k), .inr (3, [.int (σ (13 + k) 0), .int (σ (13 + k) 1), .int (σ (13 + k) 2), .int (σ (13 + k) 3), .int (σ (13 + k) 4), .int (σ (13 + k) 5)])) := by
  match k, hk with
  | 0, _ => rfl
  | 1, _ => rfl
  | 2, _ => rfl
  | 3, _ => rfl
  | 4, _ => rfl
  | 5, _ => rfl
theorem sX_Tu_0 (κ : Kp) (ad : Nat → Nat) (σ : Sg) (v : Int32) {k : Nat} (hk : k < 6) : (wsX κ ad σ).set (13 + k) (ad (13 + k), .inr (3, [.int v, .int (σ (13 + k) 1), .int (σ (13 + k) 2), .int (σ (13 + k) 3), .int (σ (13 + k) 4), .int (σ (13 + k) 5)])) = wsX κ ad (up2 σ (13 + k) 0 v) := by
  match k, hk with
  | 0, _ => rfl
  | 1, _ => rfl
  | 2, _ => rfl
  | 3, _ => rfl
  | 4, _ => rfl
  | 5, _ => rfl
theorem sX_Tu_1 (κ : Kp) (ad : Nat → Nat) (σ : Sg) (v : Int32) {k : Nat} (hk : k < 6) : (wsX κ ad σ).set (13 + k) (ad (13 + k), .inr (3, [.int (σ (13 + k) 0), .int v, .int (σ (13 + k) 2), .int (σ (13 + k) 3), .int (σ (13 + k) 4), .int (σ (13 + k) 5)])) = wsX κ ad (up2 σ (13 + k) 1 v) := by
  match k, hk with
  | 0, _ => rfl
  | 1, _ => rfl
  | 2, _ => rfl
  | 3, _ => rfl
  | 4, _ => rfl
  | 5, _ => rfl
theorem sX_Tu_2 (κ : Kp) (ad : Nat → Nat) (σ : Sg) (v : Int32) {k : Nat} (hk : k < 6) : (wsX κ ad σ).set (13 + k) (ad (13 + k), .inr (3, [.int (σ (13 + k) 0), .int (σ (13 + k) 1), .int v, .int (σ (13 + k) 3), .int (σ (13 + k) 4), .int (σ (13 + k) 5)])) = wsX κ ad (up2 σ (13 + k) 2 v) := by
  match k, hk with
  | 0, _ => rfl
  | 1, _ => rfl
  | 2, _ => rfl
  | 3, _ => rfl
  | 4, _ => rfl
  | 5, _ => rfl
theorem sX_Tu_3 (κ : Kp) (ad : Nat → Nat) (σ : Sg) (v : Int32) {k : Nat} (hk : k < 6) : (wsX κ ad σ).set (13 + k) (ad (13 + k), .inr (3, [.int (σ (13 + k) 0), .int (σ (13 + k) 1), .int (σ (13 + k) 2), .int v, .int (σ (13 + k) 4), .int (σ (13 + k) 5)])) = wsX κ ad (up2 σ (13 + k) 3 v) := by
  match k, hk with
  | 0, _ => rfl
  | 1, _ => rfl
  | 2, _ => rfl
  | 3, _ => rfl
  | 4, _ => rfl
  | 5, _ => rfl
theorem sX_Tu_4 (κ : Kp) (ad : Nat → Nat) (σ : Sg) (v : Int32) {k : Nat} (hk : k < 6) : (wsX κ ad σ).set (13 + k) (ad (13 + k), .inr (3, [.int (σ (13 + k) 0), .int (σ (13 + k) 1), .int (σ (13 + k) 2), .int (σ (13 + k) 3), .int v, .int (σ (13 + k) 5)])) = wsX κ ad (up2 σ (13 + k) 4 v) := by
  match k, hk with
  | 0, _ => rfl
  | 1, _ => rfl
  | 2, _ => rfl
  | 3, _ => rfl
  | 4, _ => rfl
  | 5, _ => rfl
theorem sX_Tu_5 (κ : Kp) (ad : Nat → Nat) (σ : Sg) (v : Int32) {k : Nat} (hk : k < 6) : (wsX κ ad σ).set (13 + k) (ad (13 + k), .inr (3, [.int (σ (13 + k) 0), .int (σ (13 + k) 1), .int (σ (13 + k) 2), .int (σ (13 + k) 3), .int (σ (13 + k) 4), .int v])) = wsX κ ad (up2 σ (13 + k) 5 v) := by
  match k, hk with
  | 0, _ => rfl
  | 1, _ => rfl
  | 2, _ => rfl
  | 3, _ => rfl
  | 4, _ => rfl
  | 5, _ => rfl
theorem gX_Rd (κ : Kp) (ad : Nat → Nat) (σ : Sg) : (wsX κ ad σ)[19]? = some (ad 19, .inr (0, [.ref (ad 20), .ref (ad 21), .int (σ 19 2)])) := rfl
theorem sX_Rd_2 (κ : Kp) (ad : Nat → Nat) (σ : Sg) (v : Int32) : (wsX κ ad σ).set 19 (ad 19, .inr (0, [.ref (ad 20), .ref (ad 21), .int v])) = wsX κ ad (up2 σ 19 2 v) := rfl
theorem gX_rt (κ : Kp) (ad : Nat → Nat) (σ : Sg) : (wsX κ ad σ)[20]? = some (ad 20, .inl (κ.1 0, 8, .inl (σ 20))) := rfl
theorem sX_rt (κ : Kp) (ad : Nat → Nat) (σ : Sg) (i : Nat) (v : Int32) : (wsX κ ad σ).set 20 (ad 20, .inl (κ.1 0, 8, .inl (upd (σ 20) i v))) = wsX κ ad (up2 σ 20 i v) := rfl
theorem gX_ra (κ : Kp) (ad : Nat → Nat) (σ : Sg) : (wsX κ ad σ)[21]? = some (ad 21, .inl (κ.1 1, 8, .inl (σ 21))) := rfl
theorem sX_ra (κ : Kp) (ad : Nat → Nat) (σ : Sg) (i : Nat) (v : Int32) : (wsX κ ad σ).set 21 (ad 21, .inl (κ.1 1, 8, .inl (upd (σ 21) i v))) = wsX κ ad (up2 σ 21 i v) := rfl
def wsM (κ : Kp) (ad : Nat → Nat) (σ : Sg) : va_W :=
  [(ad 0, .inr (5, [.int (σ 0 0), .int (σ 0 1), .ref (ad 1), .ref (ad 2), .ref (ad 3), .int (σ 0 5), .int (σ 0 6), .int (σ 0 7), .int (σ 0 8), .ref (ad 4), .int (σ 0 10), .ref (ad 5), .ref (ad 6), .ref (ad 7), .ref (ad 8), .ref (ad 9), .ref (ad 10), .int (σ 0 17), .int (σ 0 18), .int (σ 0 19), .int (σ 0 20), .int (σ 0 21), .ref (ad 11), .ref (ad 12), .int (σ 0 24), .ref (ad 13), .int (σ 0 26), .int (σ 0 27), .ref (ad 14), .ref (ad 15), .int (σ 0 30), .ref (ad 16), .ref (ad 17)])),
   (ad 1, .inl (κ.1 0, 4, .inl (σ 1))),
   (ad 2, .inl (κ.1 0, 4, .inl (σ 2))),
   (ad 3, .inl (κ.1 0, 240, .inl (σ 3))),
   (ad 4, .inl (κ.1 0, 6, .inl (σ 4))),
   (ad 5, .inl (κ.1 0, 6, .inl (σ 5))),
   (ad 6, .inl (κ.1 0, 6, .inl (σ 6))),
   (ad 7, .inl (κ.1 0, 6, .inl (σ 7))),
   (ad 8, .inl (κ.1 0, 6, .inl (σ 8))),
   (ad 9, .inl (κ.1 0, 6, .inl (σ 9))),
   (ad 10, .inl (κ.1 0, 6, .inl (σ 10))),
   (ad 11, .inl (κ.1 0, 10, .inl (σ 11))),
   (ad 12, .inl (κ.1 0, 36, .inl (σ 12))),
   (ad 13, .inl (κ.1 0, 3, .inl (σ 13))),
   (ad 14, .inl (κ.1 0, 6, .inl (σ 14))),
   (ad 15, .inl (κ.1 0, 6, .inl (σ 15))),
   (ad 16, .inl (κ.1 0, 8, .inl (σ 16))),
   (ad 17, .inl (κ.1 1, 8, .inl (σ 17)))]
theorem gM_Mo (κ : Kp) (ad : Nat → Nat) (σ : Sg) : (wsM κ ad σ)[0]? = some (ad 0, .inr (5, [.int (σ 0 0), .int (σ 0 1), .ref (ad 1), .ref (ad 2), .ref (ad 3), .int (σ 0 5), .int (σ 0 6), .int (σ 0 7), .int (σ 0 8), .ref (ad 4), .int (σ 0 10), .ref (ad 5), .ref (ad 6), .ref (ad 7), .ref (ad 8), .ref (ad 9), .ref (ad 10), .int (σ 0 17), .int (σ 0 18), .int (σ 0 19), .int (σ 0 20), .int (σ 0 21), .ref (ad 11), .ref (ad 12), .int (σ 0 24), .ref (ad 13), .int (σ 0 26), .int (σ 0 27), .ref (ad 14), .ref (ad 15), .int (σ 0 30), .ref (ad 16), .ref (ad 17)])) := rfl
theorem sM_Mo_0 (κ : Kp) (ad : Nat → Nat) (σ : Sg) (v : Int32) : (wsM κ ad σ).set 0 (ad 0, .inr (5, [.int v, .int (σ 0 1), .ref (ad 1), .ref (ad 2), .ref (ad 3), .int (σ 0 5), .int (σ 0 6), .int (σ 0 7), .int (σ 0 8), .ref (ad 4), .int (σ 0 10), .ref (ad 5), .ref (ad 6), .ref (ad 7), .ref (ad 8), .ref (ad 9), .ref (ad 10), .int (σ 0 17), .int (σ 0 18), .int (σ 0 19), .int (σ 0 20), .int (σ 0 21), .ref (ad 11), .ref (ad 12), .int (σ 0 24), .ref (ad 13), .int (σ 0 26), .int (σ 0 27), .ref (ad 14), .ref (ad 15), .int (σ 0 30), .ref (ad 16), .ref (ad 17)])) = wsM κ ad (up2 σ 0 0 v) := rfl
theorem sM_Mo_1 (κ : Kp) (ad : Nat → Nat) (σ : Sg) (v : Int32) : (wsM κ ad σ).set 0 (ad 0, .inr (5, [.int (σ 0 0), .int v, .ref (ad 1), .ref (ad 2), .ref (ad 3), .int (σ 0 5), .int (σ 0 6), .int (σ 0 7), .int (σ 0 8), .ref (ad 4), .int (σ 0 10), .ref (ad 5), .ref (ad 6), .ref (ad 7), .ref (ad 8), .ref (ad 9), .ref (ad 10), .int (σ 0 17), .int (σ 0 18), .int (σ 0 19), .int (σ 0 20), .int (σ 0 21), .ref (ad 11), .ref (ad 12), .int (σ 0 24), .ref (ad 13), .int (σ 0 26), .int (σ 0 27), .ref (ad 14), .ref (ad 15), .int (σ 0 30), .ref (ad 16), .ref (ad 17)])) = wsM κ ad (up2 σ 0 1 v) := rfl
theorem sM_Mo_5 (κ : Kp) (ad : Nat → Nat) (σ : Sg) (v : Int32) : (wsM κ ad σ).set 0 (ad 0, .inr (5, [.int (σ 0 0), .int (σ 0 1), .ref (ad 1), .ref (ad 2), .ref (ad 3), .int v, .int (σ 0 6), .int (σ 0 7), .int (σ 0 8), .ref (ad 4), .int (σ 0 10), .ref (ad 5), .ref (ad 6), .ref (ad 7), .ref (ad 8), .ref (ad 9), .ref (ad 10), .int (σ 0 17), .int (σ 0 18), .int (σ 0 19), .int (σ 0 20), .int (σ 0 21), .ref (ad 11), .ref (ad 12), .int (σ 0 24), .ref (ad 13), .int (σ 0 26), .int (σ 0 27), .ref (ad 14), .ref (ad 15), .int (σ 0 30), .ref (ad 16), .ref (ad 17)])) = wsM κ ad (up2 σ 0 5 v) := rfl
theorem sM_Mo_6 (κ : Kp) (ad : Nat → Nat) (σ : Sg) (v : Int32) : (wsM κ ad σ).set 0 (ad 0, .inr (5, [.int (σ 0 0), .int (σ 0 1), .ref (ad 1), .ref (ad 2), .ref (ad 3), .int (σ 0 5), .int v, .int (σ 0 7), .int (σ 0 8), .ref (ad 4), .int (σ 0 10), .ref (ad 5), .ref (ad 6), .ref (ad 7), .ref (ad 8), .ref (ad 9), .ref (ad 10), .int (σ 0 17), .int (σ 0 18), .int (σ 0 19), .int (σ 0 20), .int (σ 0 21), .ref (ad 11), .ref (ad 12), .int (σ 0 24), .ref (ad 13), .int (σ 0 26), .int (σ 0 27), .ref (ad 14), .ref (ad 15), .int (σ 0 30), .ref (ad 16), .ref (ad 17)])) = wsM κ ad (up2 σ 0 6 v) := rfl
theorem sM_Mo_7 (κ : Kp) (ad : Nat → Nat) (σ : Sg) (v : Int32) : (wsM κ ad σ).set 0 (ad 0, .inr (5, [.int (σ 0 0), .int (σ 0 1), .ref (ad 1), .ref (ad 2), .ref (ad 3), .int (σ 0 5), .int (σ 0 6), .int v, .int (σ 0 8), .ref (ad 4), .int (σ 0 10), .ref (ad 5), .ref (ad 6), .ref (ad 7), .ref (ad 8), .ref (ad 9), .ref (ad 10), .int (σ 0 17), .int (σ 0 18), .int (σ 0 19), .int (σ 0 20), .int (σ 0 21), .ref (ad 11), .ref (ad 12), .int (σ 0 24), .ref (ad 13), .int (σ 0 26), .int (σ 0 27), .ref (ad 14), .ref (ad 15), .int (σ 0 30), .ref (ad 16), .ref (ad 17)])) = wsM κ ad (up2 σ 0 7 v) := rfl
theorem sM_Mo_8 (κ : Kp) (ad : Nat → Nat) (σ : Sg) (v : Int32) : (wsM κ ad σ).set 0 (ad 0, .inr (5, [.int (σ 0 0), .int (σ 0 1), .ref (ad 1), .ref (ad 2), .ref (ad 3), .int (σ 0 5), .int (σ 0 6), .int (σ 0 7), .int v, .ref (ad 4), .int (σ 0 10), .ref (ad 5), .ref (ad 6), .ref (ad 7), .ref (ad 8), .ref (ad 9), .ref (ad 10), .int (σ 0 17), .int (σ 0 18), .int (σ 0 19), .int (σ 0 20), .int (σ 0 21), .ref (ad 11), .ref (ad 12), .int (σ 0 24), .ref (ad 13), .int (σ 0 26), .int (σ 0 27), .ref (ad 14), .ref (ad 15), .int (σ 0 30), .ref (ad 16), .ref (ad 17)])) = wsM κ ad (up2 σ 0 8 v) := rfl
theorem sM_Mo_10 (κ : Kp) (ad : Nat → Nat) (σ : Sg) (v : Int32) : (wsM κ ad σ).set 0 (ad 0, .inr (5, [.int (σ 0 0), .int (σ 0 1), .ref (ad 1), .ref (ad 2), .ref (ad 3), .int (σ 0 5), .int (σ 0 6), .int (σ 0 7), .int (σ 0 8), .ref (ad 4), .int v, .ref (ad 5), .ref (ad 6), .ref (ad 7), .ref (ad 8), .ref (ad 9), .ref (ad 10), .int (σ 0 17), .int (σ 0 18), .int (σ 0 19), .int (σ 0 20), .int (σ 0 21), .ref (ad 11), .ref (ad 12), .int (σ 0 24), .ref (ad 13), .int (σ 0 26), .int (σ 0 27), .ref (ad 14), .ref (ad 15), .int (σ 0 30), .ref (ad 16), .ref (ad 17)])) = wsM κ ad (up2 σ 0 10 v) := rfl
theorem sM_Mo_17 (κ : Kp) (ad : Nat → Nat) (σ : Sg) (v : Int32) : (wsM κ ad σ).set 0 (ad 0, .inr (5, [.int (σ 0 0), .int (σ 0 1), .ref (ad 1), .ref (ad 2), .ref (ad 3), .int (σ 0 5), .int (σ 0 6), .int (σ 0 7), .int (σ 0 8), .ref (ad 4), .int (σ 0 10), .ref (ad 5), .ref (ad 6), .ref (ad 7), .ref (ad 8), .ref (ad 9), .ref (ad 10), .int v, .int (σ 0 18), .int (σ 0 19), .int (σ 0 20), .int (σ 0 21), .ref (ad 11), .ref (ad 12), .int (σ 0 24), .ref (ad 13), .int (σ 0 26), .int (σ 0 27), .ref (ad 14), .ref (ad 15), .int (σ 0 30), .ref (ad 16), .ref (ad 17)])) = wsM κ ad (up2 σ 0 17 v) := rfl
theorem sM_Mo_18 (κ : Kp) (ad : Nat → Nat) (σ : Sg) (v : Int32) : (wsM κ ad σ).set 0 (ad 0, .inr (5, [.int (σ 0 0), .int (σ 0 1), .ref (ad 1), .ref (ad 2), .ref (ad 3), .int (σ 0 5), .int (σ 0 6), .int (σ 0 7), .int (σ 0 8), .ref (ad 4), .int (σ 0 10), .ref (ad 5), .ref (ad 6), .ref (ad 7), .ref (ad 8), .ref (ad 9), .ref (ad 10), .int (σ 0 17), .int v, .int (σ 0 19), .int (σ 0 20), .int (σ 0 21), .ref (ad 11), .ref (ad 12), .int (σ 0 24), .ref (ad 13), .int (σ 0 26), .int (σ 0 27), .ref (ad 14), .ref (ad 15), .int (σ 0 30), .ref (ad 16), .ref (ad 17)])) = wsM κ ad (up2 σ 0 18 v) := rfl
theorem sM_Mo_19 (κ : Kp) (ad : Nat → Nat) (σ : Sg) (v : Int32) : (wsM κ ad σ).set 0 (ad 0, .inr (5, [.int (σ 0 0), .int (σ 0 1), .ref (ad 1), .ref (ad 2), .ref (ad 3), .int (σ 0 5), .int (σ 0 6), .int (σ 0 7), .int (σ 0 8), .ref (ad 4), .int (σ 0 10), .ref (ad 5), .ref (ad 6), .ref (ad 7), .ref (ad 8), .ref (ad 9), .ref (ad 10), .int (σ 0 17), .int (σ 0 18), .int v, .int (σ 0 20), .int (σ 0 21), .ref (ad 11), .ref (ad 12), .int (σ 0 24), .ref (ad 13), .int (σ 0 26), .int (σ 0 27), .ref (ad 14), .ref (ad 15), .int (σ 0 30), .ref (ad 16), .ref (ad 17)])) = wsM κ ad (up2 σ 0 19 v) := rfl
theorem sM_Mo_20 (κ : Kp) (ad : Nat → Nat) (σ : Sg) (v : Int32) : (wsM κ ad σ).set 0 (ad 0, .inr (5, [.int (σ 0 0), .int (σ 0 1), .ref (ad 1), .ref (ad 2), .ref (ad 3), .int (σ 0 5), .int (σ 0 6), .int (σ 0 7), .int (σ 0 8), .ref (ad 4), .int (σ 0 10), .ref (ad 5), .ref (ad 6), .ref (ad 7), .ref (ad 8), .ref (ad 9), .ref (ad 10), .int (σ 0 17), .int (σ 0 18), .int (σ 0 19), .int v, .int (σ 0 21), .ref (ad 11), .ref (ad 12), .int (σ 0 24), .ref (ad 13), .int (σ 0 26), .int (σ 0 27), .ref (ad 14), .ref (ad 15), .int (σ 0 30), .ref (ad 16), .ref (ad 17)])) = wsM κ ad (up2 σ 0 20 v) := rfl
theorem sM_Mo_21 (κ : Kp) (ad : Nat → Nat) (σ : Sg) (v : Int32) : (wsM κ ad σ).set 0 (ad 0, .inr (5, [.int (σ 0 0), .int (σ 0 1), .ref (ad 1), .ref (ad 2), .ref (ad 3), .int (σ 0 5), .int (σ 0 6), .int (σ 0 7), .int (σ 0 8), .ref (ad 4), .int (σ 0 10), .ref (ad 5), .ref (ad 6), .ref (ad 7), .ref (ad 8), .ref (ad 9), .ref (ad 10), .int (σ 0 17), .int (σ 0 18), .int (σ 0 19), .int (σ 0 20), .int v, .ref (ad 11), .ref (ad 12), .int (σ 0 24), .ref (ad 13), .int (σ 0 26), .int (σ 0 27), .ref (ad 14), .ref (ad 15), .int (σ 0 30), .ref (ad 16), .ref (ad 17)])) = wsM κ ad (up2 σ 0 21 v) := rfl
theorem sM_Mo_24 (κ : Kp) (ad : Nat → Nat) (σ : Sg) (v : Int32) : (wsM κ ad σ).set 0 (ad 0, .inr (5, [.int (σ 0 0), .int (σ 0 1), .ref (ad 1), .ref (ad 2), .ref (ad 3), .int (σ 0 5), .int (σ 0 6), .int (σ 0 7), .int (σ 0 8), .ref (ad 4), .int (σ 0 10), .ref (ad 5), .ref (ad 6), .ref (ad 7), .ref (ad 8), .ref (ad 9), .ref (ad 10), .int (σ 0 17), .int (σ 0 18), .int (σ 0 19), .int (σ 0 20), .int (σ 0 21), .ref (ad 11), .ref (ad 12), .int v, .ref (ad 13), .int (σ 0 26), .int (σ 0 27), .ref (ad 14), .ref (ad 15), .int (σ 0 30), .ref (ad 16), .ref (ad 17)])) = wsM κ ad (up2 σ 0 24 v) := rfl
theorem sM_Mo_26 (κ : Kp) (ad : Nat → Nat) (σ : Sg) (v : Int32) : (wsM κ ad σ).set 0 (ad 0, .inr (5, [.int (σ 0 0), .int (σ 0 1), .ref (ad 1), .ref (ad 2), .ref (ad 3), .int (σ 0 5), .int (σ 0 6), .int (σ 0 7), .int (σ 0 8), .ref (ad 4), .int (σ 0 10), .ref (ad 5), .ref (ad 6), .ref (ad 7), .ref (ad 8), .ref (ad 9), .ref (ad 10), .int (σ 0 17), .int (σ 0 18), .int (σ 0 19), .int (σ 0 20), .int (σ 0 21), .ref (ad 11), .ref (ad 12), .int (σ 0 24), .ref (ad 13), .int v, .int (σ 0 27), .ref (ad 14), .ref (ad 15), .int (σ 0 30), .ref (ad 16), .ref (ad 17)])) = wsM κ ad (up2 σ 0 26 v) := rfl
theorem sM_Mo_27 (κ : Kp) (ad : Nat → Nat) (σ : Sg) (v : Int32) : (wsM κ ad σ).set 0 (ad 0, .inr (5, [.int (σ 0 0), .int (σ 0 1), .ref (ad 1), .ref (ad 2), .ref (ad 3), .int (σ 0 5), .int (σ 0 6), .int (σ 0 7), .int (σ 0 8), .ref (ad 4), .int (σ 0 10), .ref (ad 5), .ref (ad 6), .ref (ad 7), .ref (ad 8), .ref (ad 9), .ref (ad 10), .int (σ 0 17), .int (σ 0 18), .int (σ 0 19), .int (σ 0 20), .int (σ 0 21), .ref (ad 11), .ref (ad 12), .int (σ 0 24), .ref (ad 13), .int (σ 0 26), .int v, .ref (ad 14), .ref (ad 15), .int (σ 0 30), .ref (ad 16), .ref (ad 17)])) = wsM κ ad (up2 σ 0 27 v) := rfl
theorem sM_Mo_30 (κ : Kp) (ad : Nat → Nat) (σ : Sg) (v : Int32) : (wsM κ ad σ).set 0 (ad 0, .inr (5, [.int (σ 0 0), .int (σ 0 1), .ref (ad 1), .ref (ad 2), .ref (ad 3), .int (σ 0 5), .int (σ 0 6), .int (σ 0 7), .int (σ 0 8), .ref (ad 4), .int (σ 0 10), .ref (ad 5), .ref (ad 6), .ref (ad 7), .ref (ad 8), .ref (ad 9), .ref (ad 10), .int (σ 0 17), .int (σ 0 18), .int (σ 0 19), .int (σ 0 20), .int (σ 0 21), .ref (ad 11), .ref (ad 12), .int (σ 0 24), .ref (ad 13), .int (σ 0 26), .int (σ 0 27), .ref (ad 14), .ref (ad 15), .int v, .ref (ad 16), .ref (ad 17)])) = wsM κ ad (up2 σ 0 30 v) := rfl
theorem gM_m_sorts (κ : Kp) (ad : Nat → Nat) (σ : Sg) : (wsM κ ad σ)[1]? = some (ad 1, .inl (κ.1 0, 4, .inl (σ 1))) := rfl
theorem sM_m_sorts (κ : Kp) (ad : Nat → Nat) (σ : Sg) (i : Nat) (v : Int32) : (wsM κ ad σ).set 1 (ad 1, .inl (κ.1 0, 4, .inl (upd (σ 1) i v))) = wsM κ ad (up2 σ 1 i v) := rfl
theorem gM_m_sheetLong (κ : Kp) (ad : Nat → Nat) (σ : Sg) : (wsM κ ad σ)[2]? = some (ad 2, .inl (κ.1 0, 4, .inl (σ 2))) := rfl
theorem sM_m_sheetLong (κ : Kp) (ad : Nat → Nat) (σ : Sg) (i : Nat) (v : Int32) : (wsM κ ad σ).set 2 (ad 2, .inl (κ.1 0, 4, .inl (upd (σ 2) i v))) = wsM κ ad (up2 σ 2 i v) := rfl
theorem gM_m_cells (κ : Kp) (ad : Nat → Nat) (σ : Sg) : (wsM κ ad σ)[3]? = some (ad 3, .inl (κ.1 0, 240, .inl (σ 3))) := rfl
theorem sM_m_cells (κ : Kp) (ad : Nat → Nat) (σ : Sg) (i : Nat) (v : Int32) : (wsM κ ad σ).set 3 (ad 3, .inl (κ.1 0, 240, .inl (upd (σ 3) i v))) = wsM κ ad (up2 σ 3 i v) := rfl
theorem gM_m_seenIn (κ : Kp) (ad : Nat → Nat) (σ : Sg) : (wsM κ ad σ)[4]? = some (ad 4, .inl (κ.1 0, 6, .inl (σ 4))) := rfl
theorem sM_m_seenIn (κ : Kp) (ad : Nat → Nat) (σ : Sg) (i : Nat) (v : Int32) : (wsM κ ad σ).set 4 (ad 4, .inl (κ.1 0, 6, .inl (upd (σ 4) i v))) = wsM κ ad (up2 σ 4 i v) := rfl
theorem gM_m_kind (κ : Kp) (ad : Nat → Nat) (σ : Sg) : (wsM κ ad σ)[5]? = some (ad 5, .inl (κ.1 0, 6, .inl (σ 5))) := rfl
theorem sM_m_kind (κ : Kp) (ad : Nat → Nat) (σ : Sg) (i : Nat) (v : Int32) : (wsM κ ad σ).set 5 (ad 5, .inl (κ.1 0, 6, .inl (upd (σ 5) i v))) = wsM κ ad (up2 σ 5 i v) := rfl
theorem gM_m_colour (κ : Kp) (ad : Nat → Nat) (σ : Sg) : (wsM κ ad σ)[6]? = some (ad 6, .inl (κ.1 0, 6, .inl (σ 6))) := rfl
theorem sM_m_colour (κ : Kp) (ad : Nat → Nat) (σ : Sg) (i : Nat) (v : Int32) : (wsM κ ad σ).set 6 (ad 6, .inl (κ.1 0, 6, .inl (upd (σ 6) i v))) = wsM κ ad (up2 σ 6 i v) := rfl
theorem gM_m_size (κ : Kp) (ad : Nat → Nat) (σ : Sg) : (wsM κ ad σ)[7]? = some (ad 7, .inl (κ.1 0, 6, .inl (σ 7))) := rfl
theorem sM_m_size (κ : Kp) (ad : Nat → Nat) (σ : Sg) (i : Nat) (v : Int32) : (wsM κ ad σ).set 7 (ad 7, .inl (κ.1 0, 6, .inl (upd (σ 7) i v))) = wsM κ ad (up2 σ 7 i v) := rfl
theorem gM_m_holes (κ : Kp) (ad : Nat → Nat) (σ : Sg) : (wsM κ ad σ)[8]? = some (ad 8, .inl (κ.1 0, 6, .inl (σ 8))) := rfl
theorem sM_m_holes (κ : Kp) (ad : Nat → Nat) (σ : Sg) (i : Nat) (v : Int32) : (wsM κ ad σ).set 8 (ad 8, .inl (κ.1 0, 6, .inl (upd (σ 8) i v))) = wsM κ ad (up2 σ 8 i v) := rfl
theorem gM_m_count (κ : Kp) (ad : Nat → Nat) (σ : Sg) : (wsM κ ad σ)[9]? = some (ad 9, .inl (κ.1 0, 6, .inl (σ 9))) := rfl
theorem sM_m_count (κ : Kp) (ad : Nat → Nat) (σ : Sg) (i : Nat) (v : Int32) : (wsM κ ad σ).set 9 (ad 9, .inl (κ.1 0, 6, .inl (upd (σ 9) i v))) = wsM κ ad (up2 σ 9 i v) := rfl
theorem gM_m_pence (κ : Kp) (ad : Nat → Nat) (σ : Sg) : (wsM κ ad σ)[10]? = some (ad 10, .inl (κ.1 0, 6, .inl (σ 10))) := rfl
theorem sM_m_pence (κ : Kp) (ad : Nat → Nat) (σ : Sg) (i : Nat) (v : Int32) : (wsM κ ad σ).set 10 (ad 10, .inl (κ.1 0, 6, .inl (upd (σ 10) i v))) = wsM κ ad (up2 σ 10 i v) := rfl
theorem gM_m_readHead (κ : Kp) (ad : Nat → Nat) (σ : Sg) : (wsM κ ad σ)[11]? = some (ad 11, .inl (κ.1 0, 10, .inl (σ 11))) := rfl
theorem sM_m_readHead (κ : Kp) (ad : Nat → Nat) (σ : Sg) (i : Nat) (v : Int32) : (wsM κ ad σ).set 11 (ad 11, .inl (κ.1 0, 10, .inl (upd (σ 11) i v))) = wsM κ ad (up2 σ 11 i v) := rfl
theorem gM_m_read (κ : Kp) (ad : Nat → Nat) (σ : Sg) : (wsM κ ad σ)[12]? = some (ad 12, .inl (κ.1 0, 36, .inl (σ 12))) := rfl
theorem sM_m_read (κ : Kp) (ad : Nat → Nat) (σ : Sg) (i : Nat) (v : Int32) : (wsM κ ad σ).set 12 (ad 12, .inl (κ.1 0, 36, .inl (upd (σ 12) i v))) = wsM κ ad (up2 σ 12 i v) := rfl
theorem gM_m_sign (κ : Kp) (ad : Nat → Nat) (σ : Sg) : (wsM κ ad σ)[13]? = some (ad 13, .inl (κ.1 0, 3, .inl (σ 13))) := rfl
theorem sM_m_sign (κ : Kp) (ad : Nat → Nat) (σ : Sg) (i : Nat) (v : Int32) : (wsM κ ad σ).set 13 (ad 13, .inl (κ.1 0, 3, .inl (upd (σ 13) i v))) = wsM κ ad (up2 σ 13 i v) := rfl
theorem gM_m_row (κ : Kp) (ad : Nat → Nat) (σ : Sg) : (wsM κ ad σ)[14]? = some (ad 14, .inl (κ.1 0, 6, .inl (σ 14))) := rfl
theorem sM_m_row (κ : Kp) (ad : Nat → Nat) (σ : Sg) (i : Nat) (v : Int32) : (wsM κ ad σ).set 14 (ad 14, .inl (κ.1 0, 6, .inl (upd (σ 14) i v))) = wsM κ ad (up2 σ 14 i v) := rfl
theorem gM_m_found (κ : Kp) (ad : Nat → Nat) (σ : Sg) : (wsM κ ad σ)[15]? = some (ad 15, .inl (κ.1 0, 6, .inl (σ 15))) := rfl
theorem sM_m_found (κ : Kp) (ad : Nat → Nat) (σ : Sg) (i : Nat) (v : Int32) : (wsM κ ad σ).set 15 (ad 15, .inl (κ.1 0, 6, .inl (upd (σ 15) i v))) = wsM κ ad (up2 σ 15 i v) := rfl
theorem gM_m_readTubeOf (κ : Kp) (ad : Nat → Nat) (σ : Sg) : (wsM κ ad σ)[16]? = some (ad 16, .inl (κ.1 0, 8, .inl (σ 16))) := rfl
theorem sM_m_readTubeOf (κ : Kp) (ad : Nat → Nat) (σ : Sg) (i : Nat) (v : Int32) : (wsM κ ad σ).set 16 (ad 16, .inl (κ.1 0, 8, .inl (upd (σ 16) i v))) = wsM κ ad (up2 σ 16 i v) := rfl
theorem gM_m_readAlike (κ : Kp) (ad : Nat → Nat) (σ : Sg) : (wsM κ ad σ)[17]? = some (ad 17, .inl (κ.1 1, 8, .inl (σ 17))) := rfl
theorem sM_m_readAlike (κ : Kp) (ad : Nat → Nat) (σ : Sg) (i : Nat) (v : Int32) : (wsM κ ad σ).set 17 (ad 17, .inl (κ.1 1, 8, .inl (upd (σ 17) i v))) = wsM κ ad (up2 σ 17 i v) := rfl
