/-! MY ROWS: the abstract state, the worlds' common shape, contracts, and a row an instruction over them -/
abbrev Sg : Type := Nat → Nat → Int32
def upA (σ : Sg) (a : Nat) (f : Nat → Int32) : Sg := fun b => if b = a then f else σ b
def up2 (σ : Sg) (a k : Nat) (v : Int32) : Sg := upA σ a (upd (σ a) k v)
theorem upA_eq (σ : Sg) (a : Nat) (f : Nat → Int32) : upA σ a f a = f := if_pos rfl
theorem upA_ne {σ : Sg} {a b : Nat} {f : Nat → Int32} (h : b ≠ a) : upA σ a f b = σ b := if_neg h
abbrev Kp : Type := (Nat → ClassId) × (Nat → Nat)
abbrev tysX (κ : Kp) : List (ClassId × FieldType) := [(κ.1 0, .int), (κ.1 1, .boolean), (κ.1 2, .object "ButtonMatch$Sheet"), (κ.1 3, .object "ButtonMatch$Tube")]
def soT (j : Nat) : Int32 := ([0, 1, 2, 0, 2, 1, 1, 0, 2, 1, 2, 0, 2, 0, 1, 2, 1, 0] : List Int32).getD j 0
abbrev stB : List (List Int32) := [[98, 99, 100, 104, 100, 100, 100, 100, 100, 100, 100], [59, 107, 99, 100, 104, 100, 100]]
abbrev nestL : List (String × Nat × String × String × String) := [("ButtonMatch", 53, "ButtonMatch$Readings", "count", "I"), ("ButtonMatch", 56, "ButtonMatch$Shop", "tubeCount", "I"), ("ButtonMatch", 71, "ButtonMatch$Shop", "seen", "[I"), ("ButtonMatch", 78, "ButtonMatch$Shop", "tubes", "[LButtonMatch$Tube;"), ("ButtonMatch", 87, "ButtonMatch$Shop", "redder", "I"), ("ButtonMatch", 90, "ButtonMatch$Shop", "larger", "I"), ("ButtonMatch", 97, "ButtonMatch$Shop", "near", "I"), ("ButtonMatch", 100, "ButtonMatch$Tube", "count", "I"), ("ButtonMatch", 115, "ButtonMatch$Sheet", "cells", "[I"), ("ButtonMatch", 165, "ButtonMatch$Tube", "kind", "I"), ("ButtonMatch", 168, "ButtonMatch$Tube", "colour", "I"), ("ButtonMatch", 204, "ButtonMatch$Sheet", "lane", "I"), ("ButtonMatch", 233, "ButtonMatch$Tube", "pence", "I"), ("ButtonMatch$Shop", 95, "ButtonMatch$Tube", "holes", "I"), ("ButtonMatch$Shop", 111, "ButtonMatch", "SIGN_ORDERS", "[I"), ("ButtonMatch$Shop", 118, "ButtonMatch$Tube", "pence", "I"), ("ButtonMatch$Shop", 121, "ButtonMatch$Tube", "count", "I")]
abbrev nestM : List (String × Nat × MethodName) := [("ButtonMatch", 19, ⟨"ButtonMatch$Shop", "<init>", "()V"⟩), ("ButtonMatch", 26, ⟨"ButtonMatch$Readings", "<init>", "()V"⟩), ("ButtonMatch", 38, ⟨"ButtonMatch$Sheet", "<init>", "()V"⟩), ("ButtonMatch$Shop", 25, ⟨"ButtonMatch$Tube", "<init>", "()V"⟩)]
def Ns (U : State) : Prop := (∀ q ∈ nestL, va_Nw (.fieldLinkNest q.1 q.2.1 q.2.2.1 q.2.2.2.1 q.2.2.2.2 "ButtonMatch") U) ∧ ∀ q ∈ nestM, va_Nw (.methodLinkNest q.1 q.2.1 q.2.2 "ButtonMatch") U
theorem Ns.same {u U : State} (hv : U.vm = u.vm) (h : Ns u) : Ns U := ⟨fun q hq => (h.1 q hq).same rfl hv.symm, fun q hq => (h.2 q hq).same rfl hv.symm⟩
theorem Ns.warm {s U : State} (hW : s.WarmedH U.vm) (h : Ns s) : Ns U := ⟨fun q hq => (h.1 q hq).warmF hW, fun q hq => (h.2 q hq).warmM hW⟩
/-- what is known of statics and texts: no cell of it is among A -/
def Zs (ζ : Nat → Nat) (A : Nat → Prop) (U : State) (H : Heap) : Prop := va_Z "ButtonMatch" "SIGN_ORDERS" "[I" (.ref (ζ 0)) A U H ∧ va_T .int (ζ 0) 18 (fun j => .int (soT j)) A U H ∧ va_Z "java/lang/String" "COMPACT_STRINGS" "Z" (.int 1) A U H ∧ va_Zq "jdk/internal/util/Preconditions" "SIOOBE_FORMATTER" "Ljava/util/function/BiFunction;" A U H ∧ vk_R "ButtonMatch$Text" 25 "bcdhddddddd" (ζ 1) U ∧ vk_R "ButtonMatch$Text" 37 ";kcdhdd" (ζ 2) U ∧ vk_S 2 [11, 7] stB (fun i => ζ (1 + i)) (fun i => ζ (3 + i)) A U H ∧ Ns U
theorem Zs.same {ζ : Nat → Nat} {A : Nat → Prop} {u U : State} {H : Heap} (hv : U.vm = u.vm) (h : Zs ζ A u H) : Zs ζ A U H := by
  obtain ⟨h1, h2, h3, h4, h5, h6, h7, h8⟩ := h
  have ha : u.vm.Alike U.vm := by rw [hv]; exact Vm.Alike.refl _
  exact ⟨h1.moved ha, h2.moved ha, h3.moved ha, h4.moved ha, h5.same hv, h6.same hv, h7.moved ha, h8.same hv⟩
theorem Zs.next {ζ : Nat → Nat} {A B : Nat → Prop} {s U : State} {H : Heap} (hW : s.WarmedH U.vm) (hq : ∀ a : Nat, a < s.heap.size → ¬ A a → H[a]? = s.heap[a]?) (hAB : ∀ q, B q → A q) (h : Zs ζ A s s.heap) : Zs ζ B U H := by
  obtain ⟨h1, h2, h3, h4, h5, h6, h7, h8⟩ := h
  exact ⟨(h1.kept hq).narrow hAB |>.moved hW.alike, (h2.kept hq).narrow hAB |>.moved hW.alike, (h3.kept hq).narrow hAB |>.moved hW.alike, (h4.kept hq).narrow hAB |>.moved hW.alike, h5.warm hW, h6.warm hW, (h7.kept hq).narrow hAB |>.moved hW.alike, h8.warm hW⟩
/-- what stays through a method's body -/
def Mc (p : Program) (s : State) (m : MethodId) (args : Array Value) (meth : Method) (c : Code) (cc : ByteArray) (nL : Nat) (ret : Option FieldType) (Ts : List Cond) (own : String) (D : va_G) (κ : Kp) (A : Nat → Prop) : Prop :=
  p.tables.exec = Jvm.exec ∧ c.code = cc ∧ c.maxLocals = nL ∧ meth.sig.returnType = ret ∧ meth.locks = false ∧ s.vm.findClass own = some m.cls ∧ (∀ w ∈ Ts, w.before args s = true) ∧ va_K D vwCl (tysX κ) s ∧ (∀ q, s.heap.size ≤ q → A q) ∧ Zs κ.2 A s s.heap
/-- the world: w σ are the cells -/
def Wd (D : va_G) (w : Sg → va_W) (A : Nat → Prop) (H0 H : Heap) (locs : List Loc) (σ : Sg) : Prop := va_P D vwCl (w σ) H ∧ va_D A (w σ) ∧ va_S A H0 H locs
def Pre0 (D : va_G) (κ : Kp) (w : Sg → va_W) (σ : Sg) (sz : Nat) (U : State) : Prop := U.heap.size = sz ∧ va_P D vwCl (w σ) U.heap ∧ va_K D vwCl (tysX κ) U ∧ va_D (fun _ => True) (w σ) ∧ Zs κ.2 (va_A (w σ) sz) U U.heap
def Bk (D : va_G) (w : Sg → va_W) (A : Nat → Prop) : Sg → State → Prop := fun τ t => va_P D vwCl (w τ) t.heap ∧ va_D A (w τ)
/-- contracts: with these arguments and this state the method answers r and leaves τ -/
def Ci (l : Launch) (D : va_G) (κ : Kp) (w : Sg → va_W) (y : MethodName) (ws : List Cond) (fr lo : Nat) (av : List Value) (σ : Sg) (r : Int32) (τ : Sg) : Prop := ∀ sz : Nat, Met l y ws { frames := fr, cells := 0, slots := 0, locals := lo } (va_Pc av (Pre0 D κ w σ sz)) (va_Qi (fun (x : Int32) (u : Sg) => x = r ∧ u = τ) (Bk D w (va_A (w σ) sz)) (va_A (w σ) sz)) 0 0 (va_A (w σ) sz)
def Cl (l : Launch) (D : va_G) (κ : Kp) (w : Sg → va_W) (y : MethodName) (ws : List Cond) (fr lo : Nat) (av : List Value) (σ : Sg) (r : Int64) (τ : Sg) : Prop := ∀ sz : Nat, Met l y ws { frames := fr, cells := 0, slots := 0, locals := lo } (va_Pc av (Pre0 D κ w σ sz)) (va_Ql (fun (x : Int64) (u : Sg) => x = r ∧ u = τ) (Bk D w (va_A (w σ) sz)) (va_A (w σ) sz)) 0 0 (va_A (w σ) sz)
def Cv (l : Launch) (D : va_G) (κ : Kp) (w : Sg → va_W) (y : MethodName) (ws : List Cond) (fr lo : Nat) (av : List Value) (σ : Sg) (τ : Sg) : Prop := ∀ sz : Nat, Met l y ws { frames := fr, cells := 0, slots := 0, locals := lo } (va_Pc av (Pre0 D κ w σ sz)) (va_Qv (fun (u : Sg) => u = τ) (Bk D w (va_A (w σ) sz)) (va_A (w σ) sz)) 0 0 (va_A (w σ) sz)
def Qi (below : List Frame) (args : Array Value) (s : State) (D : va_G) (w : Sg → va_W) (A : Nat → Prop) (r : Int32) (τ : Sg) : State → Prop := MQ below (va_Qi (fun (x : Int32) (u : Sg) => x = r ∧ u = τ) (Bk D w A) A) args s 0 0 A
def Ql (below : List Frame) (args : Array Value) (s : State) (D : va_G) (w : Sg → va_W) (A : Nat → Prop) (r : Int64) (τ : Sg) : State → Prop := MQ below (va_Ql (fun (x : Int64) (u : Sg) => x = r ∧ u = τ) (Bk D w A) A) args s 0 0 A
def Qv (below : List Frame) (args : Array Value) (s : State) (D : va_G) (w : Sg → va_W) (A : Nat → Prop) (τ : Sg) : State → Prop := MQ below (va_Qv (fun (u : Sg) => u = τ) (Bk D w A) A) args s 0 0 A
theorem Pre0.blind {D : va_G} {κ : Kp} {w : Sg → va_W} {σ : Sg} {sz : Nat} {av : List Value} : FrameBlind (va_Pc av (Pre0 D κ w σ sz)) := fun a U g mk q => by
  obtain ⟨q0, q1, qP, qK, qD, qZ⟩ := q
  exact ⟨q0, q1, qP, va_K.moved (u := U) (U := U.calling g mk a) (Vm.Alike.refl U.vm) qK, qD, Zs.same (u := U) (U := U.calling g mk a) rfl qZ⟩
abbrev gIn (i : Int32) (n : Nat) : Prop := ¬ (i < 0 ∨ n ≤ i.toNatClampNeg)
abbrev cpOk (sp dp n : Int32) (N : Nat) : Prop := ¬ sp < 0 ∧ ¬ dp < 0 ∧ ¬ n < 0 ∧ sp.toNatClampNeg + n.toNatClampNeg ≤ N ∧ dp.toNatClampNeg + n.toNatClampNeg ≤ N
theorem vp_lt {i : Int32} {n : Nat} (h : gIn i n) : i.toNatClampNeg < n := Nat.not_le.mp fun q => h (Or.inr q)
theorem sw_ne {x k : Int32} (h : ¬ x = k) : ¬ x.toInt = k.toInt := fun e => h (Int32.toInt_inj.mp e)
theorem sw_lk2 {x a b d o1 o2 : Int} (h1 : ¬ x = a) (h2 : ¬ x = b) : Op.lookupswitch.offset [(a, o1), (b, o2)] d x = d := by
  rw [Op.lookupswitch.offset_cons, if_neg (fun h => h1 h.symm), Op.lookupswitch.offset_cons, if_neg (fun h => h2 h.symm), Op.lookupswitch.offset_nil]
section MYE
variable {l : Launch} {D : va_G} {κ : Kp} {w : Sg → va_W} {y : MethodName} {ws ws' : List Cond} {fr lo : Nat} {av : List Value} {σ τ : Sg} {cc : ByteArray} {nL : Nat} {ret : Option FieldType}
theorem Mc.entry {sz : Nat} {p : Program} {e : Env} {s : State} {m : MethodId} {args : Array Value} {below : List Frame} {meth : Method} {c : Code} {s₁ : State} {rm : Room} (B : BodyLoose p l y (headSpec ws rm) cc nL ret e s m args below meth c s₁) (hml : c.maxLocals = nL) (hv : va_Pc av (Pre0 D κ w σ sz) args s) : args = av.toArray ∧ s.heap.size = sz ∧ Mc p s m args meth c cc nL ret ws y.cls D κ (va_A (w σ) sz) ∧ Wd D w (va_A (w σ) sz) s.heap s.heap [] σ := by
  obtain ⟨h0, hsz, hP, hK, hD0, hZ⟩ := hv
  refine ⟨h0, hsz, ⟨B.exec, B.bytes, hml, B.returns, B.notSynchronized, findClass_of_methodNamed B.named, atoms_spec (ws := ws) B.pre, hK, fun q h => Or.inr (by rw [← hsz]; exact h), hZ⟩, hP, hD0.self (sz := sz), va_S.rf⟩
theorem Ci.of {r : Int32} (hy : plainName y.cls = true) (hw : ws = Cond.code y cc nL ret :: ws') (hn : (lg_sl av).length ≤ nL)
    (h : ∀ (p : Program) (e : Env) (s : State) (m : MethodId) (below : List Frame) (meth : Method) (c : Code) (A : Nat → Prop) (ls : Array Slot), Mc p s m av.toArray meth c cc nL ret ws y.cls D κ A → Wd D w A s.heap s.heap [] σ → lv_has ls nL (lv_args 0 av) → W p l e { frames := fr, cells := 0, slots := 0, locals := lo } s m av.toArray below meth c s.heap [] 0 0 (Qi below av.toArray s D w A r τ) (F0 m 0 ls [])) : Ci l D κ w y ws fr lo av σ r τ := by
  intro sz
  refine Met.ofW (cc := cc) (maxL := nL) (ret := ret) hy hw ?_
  intro p e s m args below meth c s₁ B hml hv
  obtain ⟨rfl, -, C, h2⟩ := Mc.entry B hml hv
  have hl := lv_entry av (n := nL) hn
  rw [lg_entry_eq]
  exact h p e s m below meth c _ _ C h2 hl
theorem Cl.of {r : Int64} (hy : plainName y.cls = true) (hw : ws = Cond.code y cc nL ret :: ws') (hn : (lg_sl av).length ≤ nL)
    (h : ∀ (p : Program) (e : Env) (s : State) (m : MethodId) (below : List Frame) (meth : Method) (c : Code) (A : Nat → Prop) (ls : Array Slot), Mc p s m av.toArray meth c cc nL ret ws y.cls D κ A → Wd D w A s.heap s.heap [] σ → lv_has ls nL (lv_args 0 av) → W p l e { frames := fr, cells := 0, slots := 0, locals := lo } s m av.toArray below meth c s.heap [] 0 0 (Ql below av.toArray s D w A r τ) (F0 m 0 ls [])) : Cl l D κ w y ws fr lo av σ r τ := by
  intro sz
  refine Met.ofW (cc := cc) (maxL := nL) (ret := ret) hy hw ?_
  intro p e s m args below meth c s₁ B hml hv
  obtain ⟨rfl, -, C, h2⟩ := Mc.entry B hml hv
  have hl := lv_entry av (n := nL) hn
  rw [lg_entry_eq]
  exact h p e s m below meth c _ _ C h2 hl
theorem Cv.of (hy : plainName y.cls = true) (hw : ws = Cond.code y cc nL ret :: ws') (hn : (lg_sl av).length ≤ nL)
    (h : ∀ (p : Program) (e : Env) (s : State) (m : MethodId) (below : List Frame) (meth : Method) (c : Code) (A : Nat → Prop) (ls : Array Slot), Mc p s m av.toArray meth c cc nL ret ws y.cls D κ A → Wd D w A s.heap s.heap [] σ → lv_has ls nL (lv_args 0 av) → W p l e { frames := fr, cells := 0, slots := 0, locals := lo } s m av.toArray below meth c s.heap [] 0 0 (Qv below av.toArray s D w A τ) (F0 m 0 ls [])) : Cv l D κ w y ws fr lo av σ τ := by
  intro sz
  refine Met.ofW (cc := cc) (maxL := nL) (ret := ret) hy hw ?_
  intro p e s m args below meth c s₁ B hml hv
  obtain ⟨rfl, -, C, h2⟩ := Mc.entry B hml hv
  have hl := lv_entry av (n := nL) hn
  rw [lg_entry_eq]
  exact h p e s m below meth c _ _ C h2 hl
end MYE
section MYR
variable {p : Program} {l : Launch} {e : Env} {R : Room} {s : State} {m : MethodId} {args : Array Value} {below : List Frame} {meth : Method} {c : Code} {H : Heap} {locs : List Loc} {Q : State → Prop}
variable {cc : ByteArray} {nL pc : Nat} {ret : Option FieldType} {Ts : List Cond} {own : String} {ls : Array Slot} {rest : List Value} {D : va_G} {κ : Kp} {w : Sg → va_W} {A : Nat → Prop} {σ τ : Sg}
theorem x_iret {r : Int32} (C : Mc p s m args meth c cc nL (some .int) Ts own D κ A) (h : Wd D w A s.heap H locs τ) (hdg : decode cc pc = .ok (.ireturn, 1)) : W p l e R s m args below meth c H locs 0 0 (Qi below args s D w A r τ) (F0 m pc ls [.int r]) := by
  obtain ⟨hx, hb, hml, hr, hlocks, -⟩ := C
  obtain ⟨hP, hD, hS⟩ := h
  exact W.iret (v := r) hx hb hr (fun t ht hW => ⟨⟨r, τ, rfl, ⟨rfl, rfl⟩, by rw [ht]; exact hP, hD⟩, hS.F ht⟩) hS.2.2 hdg hlocks
theorem x_zret {r : Int32} {ty : FieldType} (C : Mc p s m args meth c cc nL (some ty) Ts own D κ A) (hn : narrow ty (.int r) = .int r) (h : Wd D w A s.heap H locs τ) (hdg : decode cc pc = .ok (.ireturn, 1)) : W p l e R s m args below meth c H locs 0 0 (Qi below args s D w A r τ) (F0 m pc ls [.int r]) := by
  obtain ⟨hx, hb, hml, hr, hlocks, -⟩ := C
  obtain ⟨hP, hD, hS⟩ := h
  exact W.zret (v := r) hx hb hr hn (fun t ht hW => ⟨⟨r, τ, rfl, ⟨rfl, rfl⟩, by rw [ht]; exact hP, hD⟩, hS.F ht⟩) hS.2.2 hdg hlocks
theorem x_lret {r : Int64} (C : Mc p s m args meth c cc nL (some .long) Ts own D κ A) (h : Wd D w A s.heap H locs τ) (hdg : decode cc pc = .ok (.lreturn, 1)) : W p l e R s m args below meth c H locs 0 0 (Ql below args s D w A r τ) (F0 m pc ls [.long r]) := by
  obtain ⟨hx, hb, hml, hr, hlocks, -⟩ := C
  obtain ⟨hP, hD, hS⟩ := h
  exact W.lret (v := r) hx hb hr (fun t ht hW => ⟨⟨r, τ, rfl, ⟨rfl, rfl⟩, by rw [ht]; exact hP, hD⟩, hS.F ht⟩) hS.2.2 hdg hlocks
theorem x_vret (C : Mc p s m args meth c cc nL none Ts own D κ A) (h : Wd D w A s.heap H locs τ) (hdg : decode cc pc = .ok (.return_, 1)) : W p l e R s m args below meth c H locs 0 0 (Qv below args s D w A τ) (F0 m pc ls []) := by
  obtain ⟨hx, hb, hml, hr, hlocks, -⟩ := C
  obtain ⟨hP, hD, hS⟩ := h
  exact W.vret hx hb hr (fun t ht hW => ⟨⟨τ, rfl, rfl, by rw [ht]; exact hP, hD⟩, hS.F ht⟩) hS.2.2 hdg hlocks
theorem x_get (C : Mc p s m args meth c cc nL ret Ts own D κ A) (h : Wd D w A s.heap H locs σ) {cls : String} {T : u_T} {N ci q0 a index : Nat} {fs : List Value} (he : (w σ)[q0]? = some (a, .inr (ci, fs))) (hc : vwCl[ci]? = some (cls, T, N)) (hin : ∀ z ∈ u_ws cls T N, z ∈ Ts) (k : Nat) (hk : k < N) (hlink : (Cond.fieldLink own index (T k).1 (T k).2.1 (T k).2.2.1).before args s = true) {v : Value} (hv : fs[k]? = some v) (hdg : decode cc pc = .ok (.getfield index, 3))
    (kk : W p l e R s m args below meth c H locs 0 0 Q (F0 m (pc + 3) ls (v :: rest))) : W p l e R s m args below meth c H locs 0 0 Q (F0 m pc ls (.ref a :: rest)) := by
  obtain ⟨hx, hb, -, -, -, hown, hts, hK, -⟩ := C
  exact va_get hx hb hts hin hown hK h.1 q0 he hc k hk hlink (fun _ h9 => h9) hv hdg kk
theorem x_put (C : Mc p s m args meth c cc nL ret Ts own D κ A) (h : Wd D w A s.heap H locs σ) {cls : String} {T : u_T} {N ci q0 a index : Nat} {fs : List Value} (he : (w σ)[q0]? = some (a, .inr (ci, fs))) (hc : vwCl[ci]? = some (cls, T, N)) (hin : ∀ z ∈ u_ws cls T N, z ∈ Ts) (ty0 : Nat → FieldType) (hty : ∀ k, k < N → parseFieldDescriptor (T k).2.2.1 = some (ty0 k)) (hnm : ∀ a, a < N → ∀ b, b < N → a ≠ b → (T a).2.1 ≠ (T b).2.1) (k : Nat) (hk : k < N) (hlink : (Cond.fieldLink own index (T k).1 (T k).2.1 (T k).2.2.1).before args s = true) (hfin : (T k).2.2.2 = false) (hd : parseFieldDescriptor (T k).2.2.1 = some .int) {x : Int32} (hl : k < fs.length) (hs : (w σ).set q0 (a, .inr (ci, fs.set k (.int x))) = w τ) (hdg : decode cc pc = .ok (.putfield index, 3))
    (kk : ∀ (H : Heap) (locs : List Loc), Wd D w A s.heap H locs τ → W p l e R s m args below meth c H locs 0 0 Q (F0 m (pc + 3) ls rest)) : W p l e R s m args below meth c H locs 0 0 Q (F0 m pc ls (.int x :: .ref a :: rest)) := by
  obtain ⟨hx, hb, -, -, -, hown, hts, hK, -⟩ := C
  exact va_put hx hb hts hin ty0 hty hnm hown hK h.1 h.2.1 h.2.2 q0 he hc k hk hlink (fun _ h9 => h9) hfin hd rfl rfl hl hdg (fun H1 locs1 h1 h2 h3 => kk H1 locs1 ⟨hs ▸ h1, hs ▸ h2, h3⟩)
theorem x_getN (C : Mc p s m args meth c cc nL ret Ts own D κ A) (h : Wd D w A s.heap H locs σ) {cls : String} {T : u_T} {N ci q0 a index : Nat} {fs : List Value} (he : (w σ)[q0]? = some (a, .inr (ci, fs))) (hc : vwCl[ci]? = some (cls, T, N)) (hin : ∀ z ∈ u_ws cls T N, z ∈ Ts) (k : Nat) (hk : k < N) (hlink : (Cond.fieldLinkNest own index (T k).1 (T k).2.1 (T k).2.2.1 "ButtonMatch").before args s = true) {v : Value} (hv : fs[k]? = some v) (hdg : decode cc pc = .ok (.getfield index, 3))
    (kk : W p l e R s m args below meth c H locs 0 0 Q (F0 m (pc + 3) ls (v :: rest))) : W p l e R s m args below meth c H locs 0 0 Q (F0 m pc ls (.ref a :: rest)) := by
  obtain ⟨hx, hb, -, -, -, hown, hts, hK, -⟩ := C
  exact va_getN hx hb hts hin hown hK h.1 q0 he hc k hk hlink (fun _ h9 => h9) hv hdg kk
theorem x_putN (C : Mc p s m args meth c cc nL ret Ts own D κ A) (h : Wd D w A s.heap H locs σ) {cls : String} {T : u_T} {N ci q0 a index : Nat} {fs : List Value} (he : (w σ)[q0]? = some (a, .inr (ci, fs))) (hc : vwCl[ci]? = some (cls, T, N)) (hin : ∀ z ∈ u_ws cls T N, z ∈ Ts) (ty0 : Nat → FieldType) (hty : ∀ k, k < N → parseFieldDescriptor (T k).2.2.1 = some (ty0 k)) (hnm : ∀ a, a < N → ∀ b, b < N → a ≠ b → (T a).2.1 ≠ (T b).2.1) (k : Nat) (hk : k < N) (hlink : (Cond.fieldLinkNest own index (T k).1 (T k).2.1 (T k).2.2.1 "ButtonMatch").before args s = true) (hfin : (T k).2.2.2 = false) (hd : parseFieldDescriptor (T k).2.2.1 = some .int) {x : Int32} (hl : k < fs.length) (hs : (w σ).set q0 (a, .inr (ci, fs.set k (.int x))) = w τ) (hdg : decode cc pc = .ok (.putfield index, 3))
    (kk : ∀ (H : Heap) (locs : List Loc), Wd D w A s.heap H locs τ → W p l e R s m args below meth c H locs 0 0 Q (F0 m (pc + 3) ls rest)) : W p l e R s m args below meth c H locs 0 0 Q (F0 m pc ls (.int x :: .ref a :: rest)) := by
  obtain ⟨hx, hb, -, -, -, hown, hts, hK, -⟩ := C
  exact va_putN hx hb hts hin ty0 hty hnm hown hK h.1 h.2.1 h.2.2 q0 he hc k hk hlink (fun _ h9 => h9) hfin hd rfl rfl hl hdg (fun H1 locs1 h1 h2 h3 => kk H1 locs1 ⟨hs ▸ h1, hs ▸ h2, h3⟩)
theorem x_iald (C : Mc p s m args meth c cc nL ret Ts own D κ A) (h : Wd D w A s.heap H locs σ) {q0 a n : Nat} {f : Nat → Int32} (he : (w σ)[q0]? = some (a, .inl (κ.1 0, n, .inl f))) {i v : Int32} (hin : vp_in i n) (hv : f i.toNatClampNeg = v) (hdg : decode cc pc = .ok (.iaload, 1))
    (kk : W p l e R s m args below meth c H locs 0 0 Q (F0 m (pc + 1) ls (.int v :: rest))) : W p l e R s m args below meth c H locs 0 0 Q (F0 m pc ls (.int i :: .ref a :: rest)) := by
  obtain ⟨hx, hb, -, -, -, hown, hts, hK, -⟩ := C
  subst hv
  exact va_iald hx hb hK h.1 q0 0 he rfl hin hdg kk
theorem x_zald (C : Mc p s m args meth c cc nL ret Ts own D κ A) (h : Wd D w A s.heap H locs σ) {q0 a n : Nat} {f : Nat → Int32} (he : (w σ)[q0]? = some (a, .inl (κ.1 1, n, .inl f))) {i v : Int32} (hin : vp_in i n) (hv : f i.toNatClampNeg = v) (hdg : decode cc pc = .ok (.baload, 1))
    (kk : W p l e R s m args below meth c H locs 0 0 Q (F0 m (pc + 1) ls (.int v :: rest))) : W p l e R s m args below meth c H locs 0 0 Q (F0 m pc ls (.int i :: .ref a :: rest)) := by
  obtain ⟨hx, hb, -, -, -, hown, hts, hK, -⟩ := C
  subst hv
  exact va_zald hx hb hK h.1 q0 1 he rfl hin hdg kk
theorem x_iast (C : Mc p s m args meth c cc nL ret Ts own D κ A) (h : Wd D w A s.heap H locs σ) {q0 a n : Nat} {f : Nat → Int32} (he : (w σ)[q0]? = some (a, .inl (κ.1 0, n, .inl f))) {i x : Int32} (hs : (w σ).set q0 (a, .inl (κ.1 0, n, .inl (upd f i.toNatClampNeg x))) = w τ) (hin : vp_in i n) (hdg : decode cc pc = .ok (.iastore, 1))
    (kk : ∀ (H : Heap) (locs : List Loc), Wd D w A s.heap H locs τ → W p l e R s m args below meth c H locs 0 0 Q (F0 m (pc + 1) ls rest)) : W p l e R s m args below meth c H locs 0 0 Q (F0 m pc ls (.int x :: .int i :: .ref a :: rest)) := by
  obtain ⟨hx, hb, -, -, -, hown, hts, hK, -⟩ := C
  exact va_iast hx hb hK h.1 h.2.1 h.2.2 q0 0 he rfl hin hdg (fun H1 locs1 h1 h2 h3 => kk H1 locs1 ⟨hs ▸ h1, hs ▸ h2, h3⟩)
theorem x_zast (C : Mc p s m args meth c cc nL ret Ts own D κ A) (h : Wd D w A s.heap H locs σ) {q0 a n : Nat} {f : Nat → Int32} (he : (w σ)[q0]? = some (a, .inl (κ.1 1, n, .inl f))) {i x : Int32} (hs : (w σ).set q0 (a, .inl (κ.1 1, n, .inl (upd f i.toNatClampNeg (vp_nar .boolean x)))) = w τ) (hin : vp_in i n) (hdg : decode cc pc = .ok (.bastore, 1))
    (kk : ∀ (H : Heap) (locs : List Loc), Wd D w A s.heap H locs τ → W p l e R s m args below meth c H locs 0 0 Q (F0 m (pc + 1) ls rest)) : W p l e R s m args below meth c H locs 0 0 Q (F0 m pc ls (.int x :: .int i :: .ref a :: rest)) := by
  obtain ⟨hx, hb, -, -, -, hown, hts, hK, -⟩ := C
  exact va_zast hx hb hK h.1 h.2.1 h.2.2 q0 1 he rfl hin hdg (fun H1 locs1 h1 h2 h3 => kk H1 locs1 ⟨hs ▸ h1, hs ▸ h2, h3⟩)
theorem x_aald (C : Mc p s m args meth c cc nL ret Ts own D κ A) (h : Wd D w A s.heap H locs σ) {q0 a n t0 : Nat} {cn : String} {f : Nat → Option Nat} {cA : ClassId} (he : (w σ)[q0]? = some (a, .inl (cA, n, .inr (.inr (.inr (.inr f)))))) (ht : (tysX κ)[t0]? = some (cA, .object cn)) {i : Int32} (hin : vp_in i n) {b : Nat} (hv : f i.toNatClampNeg = some b) (hdg : decode cc pc = .ok (.aaload, 1))
    (kk : W p l e R s m args below meth c H locs 0 0 Q (F0 m (pc + 1) ls (.ref b :: rest))) : W p l e R s m args below meth c H locs 0 0 Q (F0 m pc ls (.int i :: .ref a :: rest)) := by
  obtain ⟨hx, hb, -, -, -, hown, hts, hK, -⟩ := C
  refine va_aldq (C := cn) hx hb hK h.1 q0 t0 he ht hin hdg ?_
  rw [hv]
  exact kk
theorem x_alen (C : Mc p s m args meth c cc nL ret Ts own D κ A) (h : Wd D w A s.heap H locs σ) {q0 a n t0 : Nat} {ty : FieldType} {cA : ClassId} {z : (Nat → Int32) ⊕ (Nat → Int64) ⊕ (Nat → UInt32) ⊕ (Nat → UInt64) ⊕ (Nat → Option Nat)} (he : (w σ)[q0]? = some (a, .inl (cA, n, z))) (ht : (tysX κ)[t0]? = some (cA, ty)) {v : Int32} (hv : Int32.ofNat n = v) (hdg : decode cc pc = .ok (.arraylength, 1))
    (kk : W p l e R s m args below meth c H locs 0 0 Q (F0 m (pc + 1) ls (.int v :: rest))) : W p l e R s m args below meth c H locs 0 0 Q (F0 m pc ls (.ref a :: rest)) := by
  obtain ⟨hx, hb, -, -, -, hown, hts, hK, -⟩ := C
  exact va_alen hx hb hK h.1 q0 t0 he ht hv hdg kk
theorem x_copy (C : Mc p s m args meth c cc nL ret Ts own D κ A) (h : Wd D w A s.heap H locs σ) {q0 q1 a0 a1 index : Nat} {f g : Nat → Int32} {sp dp n : Int32} (he0 : (w σ)[q0]? = some (a0, .inl (κ.1 0, 60, .inl f))) (he1 : (w σ)[q1]? = some (a1, .inl (κ.1 0, 60, .inl g))) (hs : (w σ).set q1 (a1, .inl (κ.1 0, 60, .inl (va_cpy f g sp.toNatClampNeg dp.toNatClampNeg n.toNatClampNeg))) = w τ) (hlink : (Cond.methodLink own index arraycopyName).before args s = true) (hnat : (Cond.native arraycopyName).before args s = true) (hstat : (Cond.static arraycopyName).before args s = true) (hini : (Cond.initialized "java/lang/System").before args s = true) (hg : cpOk sp dp n 60) (hsz : ls.size = nL) (hframes : 1 ≤ R.frames) (hlocals : (rest.map fun v => v.category).sum + (nativeFrameWords "java/lang/System" "arraycopy" 5 + 11) ≤ R.locals) (hdg : decode cc pc = .ok (.invokestatic index, 3))
    (kk : ∀ (H : Heap) (locs : List Loc), Wd D w A s.heap H locs τ → W p l e R s m args below meth c H locs 0 0 Q (F0 m (pc + 3) ls rest)) : W p l e R s m args below meth c H locs 0 0 Q (F0 m pc ls (.int n :: .int dp :: .ref a1 :: .int sp :: .ref a0 :: rest)) := by
  obtain ⟨hx, hb, hml, -, -, hown, hts, hK, -⟩ := C
  obtain ⟨h1, h2, h3, h4, h5⟩ := hg
  exact va_copyi hx hb (hml.trans hsz.symm) hown hlink hnat hstat hini hK h.1 h.2.1 h.2.2 q0 q1 0 0 he0 he1 rfl rfl rfl h1 h2 h3 h4 h5 (fun i _ => rfl) hframes hlocals hdg (fun H1 locs1 z1 z2 z3 => kk H1 locs1 ⟨hs ▸ z1, hs ▸ z2, z3⟩)
theorem Wd.free (C : Mc p s m args meth c cc nL ret Ts own D κ A) (h : Wd D w A s.heap H locs σ) : ∀ q, va_A (w σ) H.size q → A q := by
  obtain ⟨-, -, -, -, -, -, -, -, hA, -⟩ := C
  intro q h1
  rcases h1 with ⟨k, z, hk⟩ | h1
  · exact h.2.1.2 k _ hk
  · exact hA q (Nat.le_trans h.2.2.1 h1)
theorem Wd.pre (C : Mc p s m args meth c cc nL ret Ts own D κ A) (h : Wd D w A s.heap H locs σ) (U : State) (hU : U.heap = H) (hW : s.WarmedH U.vm) : Pre0 D κ w σ H.size U := by
  have hF := h.free C
  obtain ⟨-, -, -, -, -, -, -, hK, hA, hZ⟩ := C
  exact ⟨by rw [hU], by rw [hU]; exact h.1, va_K.moved hW.alike hK, h.2.1.weaken (fun _ _ _ _ => trivial), by rw [hU]; exact hZ.next hW h.2.2.2.1 hF⟩
theorem Wd.back {sz : Nat} {H1 : Heap} {locs1 : List Loc} {t : State} (hF : ∀ q, va_A (w σ) sz q → A q) (ht : t.heap = H1) (hB : Bk D w (va_A (w σ) sz) τ t) (hS : va_S A s.heap H1 locs1) : Wd D w A s.heap H1 locs1 τ := by
  obtain ⟨h1, h2⟩ := hB
  exact ⟨by rw [← ht]; exact h1, h2.weaken (fun _ q _ hq => hF q.1 hq), hS⟩
variable {y : MethodName} {ws : List Cond} {fr lo index n maxL : Nat} {bytes : ByteArray} {ret2 : Option FieldType} {As : List Value} {b ci q0 : Nat} {fs : List Value} {cls : vw_C}
theorem x_vi {r : Int32} (C : Mc p s m args meth c cc nL ret Ts own D κ A) (h : Wd D w A s.heap H locs σ) (he : (w σ)[q0]? = some (b, .inr (ci, fs))) (hc : vwCl[ci]? = some cls) (hM : Ci l D κ w y ws fr lo (.ref b :: As) σ r τ) (cw : (∀ z ∈ Ts, z.before args s = true) → CallW R s args own cls.1 index y bytes maxL ret2 ws { frames := fr, cells := 0, slots := 0, locals := lo } 0 0 n) (hn : As.length = n) (hsz : ls.size = nL) (hW : (rest.map fun v => v.category).sum ≤ 8) {st : List Value} (hst : st = As.reverse ++ .ref b :: rest) (hdg : decode cc pc = .ok (.invokevirtual index, 3))
    (kk : ∀ (H : Heap) (locs : List Loc), Wd D w A s.heap H locs τ → W p l e R s m args below meth c H locs 0 0 Q (F0 m (pc + 3) ls (.int r :: rest))) : W p l e R s m args below meth c H locs 0 0 Q (F0 m pc ls st) := by
  have hF := h.free C
  have hpre := h.pre C
  obtain ⟨hx, hb, hml, -, -, hown, hts, hK, hA, hZ⟩ := C
  refine va_calli (va_runV (As := As) (rest := rest) ⟨hx, hb, hml, hown, hts⟩ (hM H.size) (cw hts) ⟨Pre0.blind, va_recv hK h.1 hc he, fun U hU hW => ⟨rfl, hpre U hU hW⟩⟩ rfl hn hsz hst (lv_room hW) hdg ⟨Nat.zero_le _, Nat.zero_le _⟩) h.2.2 (fun q _ h => hF q h) hF (fun r_2 u t H1 locs ht hvm hw hB hz1 hk1 hS => ?_)
  obtain ⟨rfl, rfl⟩ := hw
  exact kk H1 locs (Wd.back hF ht hB hS)
theorem x_viR {cn : String} {r : Int32} (C : Mc p s m args meth c cc nL ret Ts own D κ A) (h : Wd D w A s.heap H locs σ) (hrc : ∃ cell : Cell, H[b]? = some cell ∧ cell.vm.isStatics = false ∧ s.vm.findClass cn = some cell.cls) (hM : Ci l D κ w y ws fr lo (.ref b :: As) σ r τ) (cw : (∀ z ∈ Ts, z.before args s = true) → CallW R s args own cn index y bytes maxL ret2 ws { frames := fr, cells := 0, slots := 0, locals := lo } 0 0 n) (hn : As.length = n) (hsz : ls.size = nL) (hW : (rest.map fun v => v.category).sum ≤ 8) {st : List Value} (hst : st = As.reverse ++ .ref b :: rest) (hdg : decode cc pc = .ok (.invokevirtual index, 3))
    (kk : ∀ (H : Heap) (locs : List Loc), Wd D w A s.heap H locs τ → W p l e R s m args below meth c H locs 0 0 Q (F0 m (pc + 3) ls (.int r :: rest))) : W p l e R s m args below meth c H locs 0 0 Q (F0 m pc ls st) := by
  have hF := h.free C
  have hpre := h.pre C
  obtain ⟨hx, hb, hml, -, -, hown, hts, hK, hA, hZ⟩ := C
  refine va_calli (va_runV (As := As) (rest := rest) ⟨hx, hb, hml, hown, hts⟩ (hM H.size) (cw hts) ⟨Pre0.blind, hrc, fun U hU hW => ⟨rfl, hpre U hU hW⟩⟩ rfl hn hsz hst (lv_room hW) hdg ⟨Nat.zero_le _, Nat.zero_le _⟩) h.2.2 (fun q _ h => hF q h) hF (fun r_2 u t H1 locs ht hvm hw hB hz1 hk1 hS => ?_)
  obtain ⟨rfl, rfl⟩ := hw
  exact kk H1 locs (Wd.back hF ht hB hS)
theorem x_vl {r : Int64} (C : Mc p s m args meth c cc nL ret Ts own D κ A) (h : Wd D w A s.heap H locs σ) (he : (w σ)[q0]? = some (b, .inr (ci, fs))) (hc : vwCl[ci]? = some cls) (hM : Cl l D κ w y ws fr lo (.ref b :: As) σ r τ) (cw : (∀ z ∈ Ts, z.before args s = true) → CallW R s args own cls.1 index y bytes maxL ret2 ws { frames := fr, cells := 0, slots := 0, locals := lo } 0 0 n) (hn : As.length = n) (hsz : ls.size = nL) (hW : (rest.map fun v => v.category).sum ≤ 8) {st : List Value} (hst : st = As.reverse ++ .ref b :: rest) (hdg : decode cc pc = .ok (.invokevirtual index, 3))
    (kk : ∀ (H : Heap) (locs : List Loc), Wd D w A s.heap H locs τ → W p l e R s m args below meth c H locs 0 0 Q (F0 m (pc + 3) ls (.long r :: rest))) : W p l e R s m args below meth c H locs 0 0 Q (F0 m pc ls st) := by
  have hF := h.free C
  have hpre := h.pre C
  obtain ⟨hx, hb, hml, -, -, hown, hts, hK, hA, hZ⟩ := C
  refine va_calll (va_runV (As := As) (rest := rest) ⟨hx, hb, hml, hown, hts⟩ (hM H.size) (cw hts) ⟨Pre0.blind, va_recv hK h.1 hc he, fun U hU hW => ⟨rfl, hpre U hU hW⟩⟩ rfl hn hsz hst (lv_room hW) hdg ⟨Nat.zero_le _, Nat.zero_le _⟩) h.2.2 (fun q _ h => hF q h) hF (fun r_2 u t H1 locs ht hvm hw hB hz1 hk1 hS => ?_)
  obtain ⟨rfl, rfl⟩ := hw
  exact kk H1 locs (Wd.back hF ht hB hS)
theorem x_vv (C : Mc p s m args meth c cc nL ret Ts own D κ A) (h : Wd D w A s.heap H locs σ) (he : (w σ)[q0]? = some (b, .inr (ci, fs))) (hc : vwCl[ci]? = some cls) (hM : Cv l D κ w y ws fr lo (.ref b :: As) σ τ) (cw : (∀ z ∈ Ts, z.before args s = true) → CallW R s args own cls.1 index y bytes maxL ret2 ws { frames := fr, cells := 0, slots := 0, locals := lo } 0 0 n) (hn : As.length = n) (hsz : ls.size = nL) (hW : (rest.map fun v => v.category).sum ≤ 8) {st : List Value} (hst : st = As.reverse ++ .ref b :: rest) (hdg : decode cc pc = .ok (.invokevirtual index, 3))
    (kk : ∀ (H : Heap) (locs : List Loc), Wd D w A s.heap H locs τ → W p l e R s m args below meth c H locs 0 0 Q (F0 m (pc + 3) ls rest)) : W p l e R s m args below meth c H locs 0 0 Q (F0 m pc ls st) := by
  have hF := h.free C
  have hpre := h.pre C
  obtain ⟨hx, hb, hml, -, -, hown, hts, hK, hA, hZ⟩ := C
  refine va_callv (va_runV (As := As) (rest := rest) ⟨hx, hb, hml, hown, hts⟩ (hM H.size) (cw hts) ⟨Pre0.blind, va_recv hK h.1 hc he, fun U hU hW => ⟨rfl, hpre U hU hW⟩⟩ rfl hn hsz hst (lv_room hW) hdg ⟨Nat.zero_le _, Nat.zero_le _⟩) h.2.2 (fun q _ h => hF q h) hF (fun u t H1 locs ht hvm hw hB hz1 hk1 hS => ?_)
  subst hw
  exact kk H1 locs (Wd.back hF ht hB hS)
theorem x_si {r : Int32} (C : Mc p s m args meth c cc nL ret Ts own D κ A) (h : Wd D w A s.heap H locs σ) (hM : Ci l D κ w y ws fr lo As σ r τ) (cw : (∀ z ∈ Ts, z.before args s = true) → CallB R s args own index y bytes maxL ret2 ws { frames := fr, cells := 0, slots := 0, locals := lo } 0 0 n ∧ (Cond.static y).before args s = true) (hn : As.length = n) (hsz : ls.size = nL) (hW : (rest.map fun v => v.category).sum ≤ 8) {st : List Value} (hst : st = As.reverse ++ rest) (hdg : decode cc pc = .ok (.invokestatic index, 3))
    (kk : ∀ (H : Heap) (locs : List Loc), Wd D w A s.heap H locs τ → W p l e R s m args below meth c H locs 0 0 Q (F0 m (pc + 3) ls (.int r :: rest))) : W p l e R s m args below meth c H locs 0 0 Q (F0 m pc ls st) := by
  have hF := h.free C
  have hpre := h.pre C
  obtain ⟨hx, hb, hml, -, -, hown, hts, hK, hA, hZ⟩ := C
  refine va_calli (va_runS (As := As) (rest := rest) ⟨hx, hb, hml, hown, hts⟩ (hM H.size) (cw hts) ⟨Pre0.blind, fun U hU hW => ⟨rfl, hpre U hU hW⟩⟩ rfl hn hsz hst (lv_room hW) hdg ⟨Nat.zero_le _, Nat.zero_le _⟩) h.2.2 (fun q _ h => hF q h) hF (fun r_2 u t H1 locs ht hvm hw hB hz1 hk1 hS => ?_)
  obtain ⟨rfl, rfl⟩ := hw
  exact kk H1 locs (Wd.back hF ht hB hS)
theorem x_sl {r : Int64} (C : Mc p s m args meth c cc nL ret Ts own D κ A) (h : Wd D w A s.heap H locs σ) (hM : Cl l D κ w y ws fr lo As σ r τ) (cw : (∀ z ∈ Ts, z.before args s = true) → CallB R s args own index y bytes maxL ret2 ws { frames := fr, cells := 0, slots := 0, locals := lo } 0 0 n ∧ (Cond.static y).before args s = true) (hn : As.length = n) (hsz : ls.size = nL) (hW : (rest.map fun v => v.category).sum ≤ 8) {st : List Value} (hst : st = As.reverse ++ rest) (hdg : decode cc pc = .ok (.invokestatic index, 3))
    (kk : ∀ (H : Heap) (locs : List Loc), Wd D w A s.heap H locs τ → W p l e R s m args below meth c H locs 0 0 Q (F0 m (pc + 3) ls (.long r :: rest))) : W p l e R s m args below meth c H locs 0 0 Q (F0 m pc ls st) := by
  have hF := h.free C
  have hpre := h.pre C
  obtain ⟨hx, hb, hml, -, -, hown, hts, hK, hA, hZ⟩ := C
  refine va_calll (va_runS (As := As) (rest := rest) ⟨hx, hb, hml, hown, hts⟩ (hM H.size) (cw hts) ⟨Pre0.blind, fun U hU hW => ⟨rfl, hpre U hU hW⟩⟩ rfl hn hsz hst (lv_room hW) hdg ⟨Nat.zero_le _, Nat.zero_le _⟩) h.2.2 (fun q _ h => hF q h) hF (fun r_2 u t H1 locs ht hvm hw hB hz1 hk1 hS => ?_)
  obtain ⟨rfl, rfl⟩ := hw
  exact kk H1 locs (Wd.back hF ht hB hS)
theorem x_sv (C : Mc p s m args meth c cc nL ret Ts own D κ A) (h : Wd D w A s.heap H locs σ) (hM : Cv l D κ w y ws fr lo As σ τ) (cw : (∀ z ∈ Ts, z.before args s = true) → CallB R s args own index y bytes maxL ret2 ws { frames := fr, cells := 0, slots := 0, locals := lo } 0 0 n ∧ (Cond.static y).before args s = true) (hn : As.length = n) (hsz : ls.size = nL) (hW : (rest.map fun v => v.category).sum ≤ 8) {st : List Value} (hst : st = As.reverse ++ rest) (hdg : decode cc pc = .ok (.invokestatic index, 3))
    (kk : ∀ (H : Heap) (locs : List Loc), Wd D w A s.heap H locs τ → W p l e R s m args below meth c H locs 0 0 Q (F0 m (pc + 3) ls rest)) : W p l e R s m args below meth c H locs 0 0 Q (F0 m pc ls st) := by
  have hF := h.free C
  have hpre := h.pre C
  obtain ⟨hx, hb, hml, -, -, hown, hts, hK, hA, hZ⟩ := C
  refine va_callv (va_runS (As := As) (rest := rest) ⟨hx, hb, hml, hown, hts⟩ (hM H.size) (cw hts) ⟨Pre0.blind, fun U hU hW => ⟨rfl, hpre U hU hW⟩⟩ rfl hn hsz hst (lv_room hW) hdg ⟨Nat.zero_le _, Nat.zero_le _⟩) h.2.2 (fun q _ h => hF q h) hF (fun u t H1 locs ht hvm hw hB hz1 hk1 hS => ?_)
  subst hw
  exact kk H1 locs (Wd.back hF ht hB hS)
end MYR
/-! the pure side's own small rows -/
def lt {α β : Type} (x : α) (f : α → β) : β := f x
theorem lt_ok {α β : Type} {x : α} {f : α → β} {r : β} (h : lt x f = r) : ∃ z, z = x ∧ f z = r := ⟨x, rfl, h⟩
theorem so_ok {α : Type} {a r : α} (h : some a = some r) : r = a := (Option.some.inj h).symm
theorem pr_tot {α β : Type} {a r : α} {b t : β} (h : (a, b) = (r, t)) : r = a ∧ t = b := ⟨(Prod.mk.inj h).1.symm, (Prod.mk.inj h).2.symm⟩
theorem pr_ok {α β : Type} {a r : α} {b t : β} (h : some (a, b) = some (r, t)) : r = a ∧ t = b := pr_tot (Option.some.inj h)
theorem gd_ok {α : Type} {c : Prop} [Decidable c] {x : Option α} {r : α} (h : (if c then x else none) = some r) : c ∧ x = some r := by
  by_cases hc : c
  · exact ⟨hc, by rw [if_pos hc] at h; exact h⟩
  · rw [if_neg hc] at h; cases h
theorem bd_ok {α β : Type} {x : Option α} {f : α → Option β} {r : β} (h : x.bind f = some r) : ∃ a, x = some a ∧ f a = some r := by
  cases x with
  | none => cases h
  | some a => exact ⟨a, rfl, h⟩
theorem tk_t {α : Type} {c : Prop} [Decidable c] {x z r : α} (hc : c) (h : (if c then x else z) = r) : x = r := by rw [if_pos hc] at h; exact h
theorem tk_f {α : Type} {c : Prop} [Decidable c] {x z r : α} (hc : ¬ c) (h : (if c then x else z) = r) : z = r := by rw [if_neg hc] at h; exact h
