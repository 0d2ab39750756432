/-! the world: every object and array that the two constructors make, by numbers; a state is what the numbers' fields and places hold -/
abbrev Mem : Type := Nat → Nat → Int32
def st (μ : Mem) (k i : Nat) (v : Int32) : Mem := fun a => if a = k then upd (μ k) i v else μ a
def str (μ : Mem) (k : Nat) (f : Nat → Int32) : Mem := fun a => if a = k then f else μ a
theorem st_same (μ : Mem) (k i : Nat) (v : Int32) : st μ k i v k = upd (μ k) i v := if_pos rfl
theorem st_other (μ : Mem) {k a : Nat} (i : Nat) (v : Int32) (h : a ≠ k) : st μ k i v a = μ a := if_neg h
theorem str_same (μ : Mem) (k : Nat) (f : Nat → Int32) : str μ k f k = f := if_pos rfl
theorem str_other (μ : Mem) {k a : Nat} (f : Nat → Int32) (h : a ≠ k) : str μ k f a = μ a := if_neg h
/-- the classes' and arrays' numbers, the first address, the static arrays' addresses -/
abbrev Gx : Type := va_G × (Nat → ClassId) × Nat × (Nat → Nat)
/-- the kind of each number, its length (arrays), how many there are -/
abbrev Lay : Type := (Nat → Nat) × (Nat → Nat) × Nat
abbrev tys (g : Gx) : List (ClassId × FieldType) := [(g.2.1 0, .byte), (g.2.1 1, .int), (g.2.1 2, .object "CoinMeter$Meter"), (g.2.1 3, .object "CoinMeter$Sheet")]
def tx (B : Nat) (v : Int32) : Value := if v = 0 then .null else .ref (B + 23)
def Ob (B k ci : Nat) (f : Nat → Int32) : List Value := match ci with
  | 0 => [.ref (B + (k + 1)), .int (f 1), tx B (f 2), .int (f 3), .int (f 4), .int (f 5)]
  | 1 => [.ref (B + (k + 1)), .ref (B + (k + 2)), .ref (B + (k + 3)), .ref (B + (k + 4)), .ref (B + (k + 5)), .int (f 5)]
  | 2 => [.ref (B + (k + 1)), .int (f 1), .int (f 2), .int (f 3), .int (f 4), .int (f 5), .int (f 6), .int (f 7), .int (f 8), .int (f 9), .int (f 10), .int (f 11), .int (f 12), .int (f 13), .int (f 14)]
  | 3 => [.ref (B + (k + 1)), .ref (B + (k + 2)), .ref (B + (k + 3)), .ref (B + (k + 4)), .int (f 4)]
  | 4 => [.ref (B + (k + 1)), .int (f 1), .int (f 2)]
  | 5 => [.ref (B + (k + 1)), .ref (B + (k + 2)), .ref (B + (k + 3)), .ref (B + (k + 4)), .int (f 4)]
  | 6 => [.ref (B + (k + 1)), .ref (B + (k + 2)), .ref (B + (k + 3)), .int (f 3), .int (f 4), .int (f 5)]
  | 7 => [.ref (B + (k + 1)), .ref (B + (k + 2)), .ref (B + (k + 7)), .ref (B + (k + 13)), .ref (B + (k + 18)), .ref (B + (k + 22)), .int (f 6), .int (f 7), .int (f 8)]
  | 8 => [.ref (B + (k + 1)), .int (f 1)]
  | 9 => [.ref (B + (k + 1)), .ref (B + (k + 40)), .ref (B + (k + 79)), .ref (B + (k + 81)), .ref (B + (k + 83)), .ref (B + (k + 85)), .ref (B + (k + 86)), .ref (B + (k + 87)), .int (f 8)]
  | 10 => [.ref (B + (k + 1)), .ref (B + (k + 2)), .int (f 2), .int (f 3), .ref (B + (k + 3)), .ref (B + (k + 4)), .int (f 6), .int (f 7), .int (f 8), .int (f 9), .int (f 10), .ref (B + (k + 5)), .ref (B + (k + 6)), .ref (B + (k + 7)), .int (f 14), .int (f 15), .int (f 16), .int (f 17), .ref (B + (k + 8)), .ref (B + (k + 9)), .ref (B + (k + 10)), .ref (B + (k + 11))]
  | _ => []
def Ex (Ly : Lay) (g : Gx) (μ : Mem) (k : Nat) : va_E := if Ly.1 k = 11 then .inl (g.2.1 0, Ly.2.1 k, .inl (fun j => (μ k j).toInt8.toInt32)) else if Ly.1 k = 12 then .inl (g.2.1 1, Ly.2.1 k, .inl (μ k)) else if Ly.1 k = 13 then .inl (g.2.1 2, Ly.2.1 k, .inr (.inr (.inr (.inr (fun j => some (g.2.2.1 + (k + 22 + 2 * j))))))) else if Ly.1 k = 14 then .inl (g.2.1 3, Ly.2.1 k, .inr (.inr (.inr (.inr (fun j => some (g.2.2.1 + (k + 3 + 2 * j))))))) else .inr (Ly.1 k, Ob g.2.2.1 k (Ly.1 k) (μ k))
theorem Ex_ob {Ly : Lay} {g : Gx} {μ : Mem} {k ci : Nat} (h : Ly.1 k = ci) (hc : ci < 11) : Ex Ly g μ k = .inr (ci, Ob g.2.2.1 k ci (μ k)) := by
  unfold Ex
  rw [h, if_neg (by omega), if_neg (by omega), if_neg (by omega), if_neg (by omega)]
theorem Ex_by {Ly : Lay} {g : Gx} {μ : Mem} {k : Nat} (h : Ly.1 k = 11) : Ex Ly g μ k = .inl (g.2.1 0, Ly.2.1 k, .inl (fun j => (μ k j).toInt8.toInt32)) := by
  unfold Ex
  rw [if_pos h]
theorem Ex_in {Ly : Lay} {g : Gx} {μ : Mem} {k : Nat} (h : Ly.1 k = 12) : Ex Ly g μ k = .inl (g.2.1 1, Ly.2.1 k, .inl (μ k)) := by
  unfold Ex
  rw [h, if_neg (by decide), if_pos rfl]
theorem Ex_me {Ly : Lay} {g : Gx} {μ : Mem} {k : Nat} (h : Ly.1 k = 13) : Ex Ly g μ k = .inl (g.2.1 2, Ly.2.1 k, .inr (.inr (.inr (.inr (fun j => some (g.2.2.1 + (k + 22 + 2 * j))))))) := by
  unfold Ex
  rw [h, if_neg (by decide), if_neg (by decide), if_pos rfl]
theorem Ex_sh {Ly : Lay} {g : Gx} {μ : Mem} {k : Nat} (h : Ly.1 k = 14) : Ex Ly g μ k = .inl (g.2.1 3, Ly.2.1 k, .inr (.inr (.inr (.inr (fun j => some (g.2.2.1 + (k + 3 + 2 * j))))))) := by
  unfold Ex
  rw [h, if_neg (by decide), if_neg (by decide), if_neg (by decide), if_pos rfl]
theorem Ex_cong {Ly : Lay} {g : Gx} {μ ν : Mem} {k : Nat} (h : μ k = ν k) : Ex Ly g μ k = Ex Ly g ν k := by
  unfold Ex
  rw [h]
def Ws (Ly : Lay) (g : Gx) (μ : Mem) : va_W := (List.range Ly.2.2).map (fun k => (g.2.2.1 + k, Ex Ly g μ k))
theorem Ws_get {Ly : Lay} {g : Gx} {μ : Mem} {k : Nat} (h : k < Ly.2.2) : (Ws Ly g μ)[k]? = some (g.2.2.1 + k, Ex Ly g μ k) := by
  simp [Ws, h]
theorem Ws_len {Ly : Lay} {g : Gx} {μ : Mem} {k : Nat} {q : Nat × va_E} (h : (Ws Ly g μ)[k]? = some q) : k < Ly.2.2 ∧ q.1 = g.2.2.1 + k := by
  have h1 : k < (Ws Ly g μ).length := (List.getElem?_eq_some_iff.mp h).1
  have h2 : k < Ly.2.2 := by simpa [Ws] using h1
  rw [Ws_get h2] at h
  cases h
  exact ⟨h2, rfl⟩
theorem Ws_set {Ly : Lay} {g : Gx} {μ ν : Mem} {k : Nat} {e : va_E} (he : Ex Ly g ν k = e) (ho : ∀ a, a ≠ k → μ a = ν a) : (Ws Ly g μ).set k (g.2.2.1 + k, e) = Ws Ly g ν := by
  apply List.ext_getElem?
  intro j
  by_cases hj : j < Ly.2.2
  · by_cases hjk : j = k
    · subst hjk
      rw [Ws_get hj, List.getElem?_set_self (by simpa [Ws] using hj), he]
    · rw [List.getElem?_set_ne (fun q => hjk q.symm), Ws_get hj, Ws_get hj, Ex_cong (ho j hjk)]
  · rw [List.getElem?_eq_none (by simpa [Ws] using hj), List.getElem?_eq_none (by simpa [Ws] using hj)]
def Ax (Ly : Lay) (g : Gx) : Nat → Prop := fun q => g.2.2.1 ≤ q ∧ q < g.2.2.1 + Ly.2.2
theorem Ws_D {Ly : Lay} {g : Gx} {μ : Mem} : va_D (Ax Ly g) (Ws Ly g μ) := by
  refine ⟨fun i j p q hi hj h => ?_, fun k q h => ?_⟩
  · have h1 := Ws_len hi
    have h2 := Ws_len hj
    omega
  · have h1 := Ws_len h
    exact ⟨by omega, by omega⟩
def Px (Ly : Lay) (g : Gx) (μ : Mem) (H : Heap) : Prop := va_P g.1 vwCl (Ws Ly g μ) H

def kX : Nat → Nat := fun k => ([9, 7, 13, 5, 12, 12, 12, 12, 1, 12, 12, 12, 12, 12, 3, 12, 12, 12, 12, 6, 12, 12, 12, 11, 2, 12, 2, 12, 2, 12, 2, 12, 2, 12, 2, 12, 2, 12, 2, 12, 7, 13, 5, 12, 12, 12, 12, 1, 12, 12, 12, 12, 12, 3, 12, 12, 12, 12, 6, 12, 12, 12, 11, 2, 12, 2, 12, 2, 12, 2, 12, 2, 12, 2, 12, 2, 12, 2, 12, 2, 12, 0, 12, 8, 12, 14, 12, 12, 4, 12, 4, 12, 4, 12, 4, 12] : List Nat).getD k 99
def nX : Nat → Nat := fun k => ([0, 0, 8, 0, 8, 8, 8, 8, 0, 12, 12, 12, 720, 60, 0, 40, 40, 40, 40, 0, 200, 200, 200, 60, 0, 24, 0, 24, 0, 24, 0, 24, 0, 24, 0, 24, 0, 24, 0, 24, 0, 8, 0, 8, 8, 8, 8, 0, 12, 12, 12, 720, 60, 0, 40, 40, 40, 40, 0, 200, 200, 200, 60, 0, 24, 0, 24, 0, 24, 0, 24, 0, 24, 0, 24, 0, 24, 0, 24, 0, 24, 0, 60, 0, 40, 4, 6, 8, 0, 24, 0, 24, 0, 24, 0, 24] : List Nat).getD k 99
def kM : Nat → Nat := fun k => ([10, 12, 12, 12, 12, 12, 12, 12, 12, 12, 12, 12] : List Nat).getD k 99
def nM : Nat → Nat := fun k => ([0, 1944, 1944, 1944, 6, 7, 7, 40, 4, 4, 96, 24] : List Nat).getD k 99
def Lx : Lay := (kX, nX, 96)
def Lm : Lay := (kM, nM, 12)
def KA (j : Nat) : Int32 := ([-1, 0, 0, 1, 2, 1] : List Int32).getD j 0
def BO (j : Nat) : Int32 := ([10, 11, 12, 13, 20, 0, 0, 21, 0, 30, 0, 0, 41, 0, 40, 0, 0, 51, 0, 50, 0, 0, 60, 0] : List Int32).getD j 0
def nestM : List (String × Nat × MethodName) := [(RX7, 19, yX5_init), (RX7, 26, yX1_init), (RX7, 33, yX3_init), (RX7, 40, yX6_init), (RX7, 49, yX2_init), (RX9, 21, yX2_init), (RX9, 28, yX0_init), (RX9, 35, yX8_init), (RX9, 53, yX4_init), (RX2, 65, yX9_isKind), (RX1, 49, yX9_within), (RX7, 112, yX9_isFriendly), (RX8, 32, yX9_isKind), (RX4, 19, yX9_within)]
def nestF : List (String × Nat) := [(RX2, 69), (RX8, 39)]
/-- what holds of the tables and of the static arrays -/
def Kg (Ly : Lay) (g : Gx) (U : State) : Prop := va_K g.1 vwCl (tys g) U ∧ (∀ q ∈ nestM, va_Nw (.methodLinkNest q.1 q.2.1 q.2.2 "CoinMeter") U) ∧ (∀ q ∈ nestF, va_Nw (.fieldLinkNest q.1 q.2 "CoinMeter" "KIND_ABOVE" "[I" "CoinMeter") U) ∧ (va_Z "CoinMeter" "KIND_ABOVE" "[I" (.ref (g.2.2.2 0)) (Ax Ly g) U U.heap ∧ va_T .int (g.2.2.2 0) 6 (fun j => .int (KA j)) (Ax Ly g) U U.heap) ∧ va_Z "CoinMeter$Voices" "BODIES" "[I" (.ref (g.2.2.2 1)) (Ax Ly g) U U.heap ∧ va_T .int (g.2.2.2 1) 24 (fun j => .int (BO j)) (Ax Ly g) U U.heap
theorem Kg.go {Ly : Lay} {g : Gx} {s U : State} {H : Heap} {locs : List Loc} (h : Kg Ly g s) (hS : va_S (Ax Ly g) s.heap H locs) (hU : U.heap = H) (hW : s.WarmedH U.vm) : Kg Ly g U := by
  obtain ⟨h1, h2, h3, ⟨h4, h5⟩, h6, h7⟩ := h
  have k : ∀ a : Nat, a < s.heap.size → ¬ Ax Ly g a → U.heap[a]? = s.heap[a]? := fun a q1 q2 => by rw [hU]; exact hS.2.1 a q1 q2
  exact ⟨h1.moved hW.alike, fun q hq => va_Nw.warmM hW (h2 q hq), fun q hq => va_Nw.warmF hW (h3 q hq), ⟨(h4.moved hW.alike).kept k, (h5.moved hW.alike).kept k⟩, (h6.moved hW.alike).kept k, (h7.moved hW.alike).kept k⟩
theorem Kg.calling {Ly : Lay} {g : Gx} {U : State} (h : Kg Ly g U) (f : JFrame) (mk : MethodId) (a : Array Value) : Kg Ly g (U.calling f mk a) := by
  obtain ⟨h1, h2, h3, ⟨h4, h5⟩, h6, h7⟩ := h
  have k : ∀ b : Nat, b < U.heap.size → ¬ Ax Ly g b → (U.calling f mk a).heap[b]? = U.heap[b]? := fun b _ _ => rfl
  exact ⟨h1.moved (U := U.calling f mk a) (Vm.Alike.refl U.vm), fun q hq => va_tabs (A := #[]) (u := U) rfl rfl (h2 q hq), fun q hq => va_tabs (A := #[]) (u := U) rfl rfl (h3 q hq), ⟨(h4.moved (U := U.calling f mk a) (Vm.Alike.refl U.vm)).kept k, (h5.moved (U := U.calling f mk a) (Vm.Alike.refl U.vm)).kept k⟩, (h6.moved (U := U.calling f mk a) (Vm.Alike.refl U.vm)).kept k, (h7.moved (U := U.calling f mk a) (Vm.Alike.refl U.vm)).kept k⟩
/-- a contract: with these values, from this state, the method answers v and leaves that state -/
def Qx (Ly : Lay) (g : Gx) (v : Option Value) (μ : Mem) : Array Value → State → Outcome → State → Prop := fun _ s0 oc t => oc = .returned v ∧ Px Ly g μ t.heap ∧ va_F (Ax Ly g) s0 t
def Pg (Ly : Lay) (g : Gx) (As : List Value) (μ : Mem) : Array Value → State → Prop := va_Pc As (fun U => Px Ly g μ U.heap ∧ Kg Ly g U)
def Ct (Ly : Lay) (g : Gx) (l : Launch) (y : MethodName) (cc : ByteArray) (nL : Nat) (ret : Option FieldType) (rm : Room) (As : List Value) (μ : Mem) (v : Option Value) (ν : Mem) : Prop := Met l y (Cond.code y cc nL ret :: UW) rm (Pg Ly g As μ) (Qx Ly g v ν) 0 0 (Ax Ly g)
theorem Pg_blind {Ly : Lay} {g : Gx} {As : List Value} {μ : Mem} : FrameBlind (Pg Ly g As μ) := fun a U f mk h => ⟨h.1, h.2.1, h.2.2.calling f mk a⟩
/-- what a walk stands on -/
def Cx (Ly : Lay) (g : Gx) (p : Program) (s : State) (m : MethodId) (args : Array Value) (meth : Method) (c : Code) (cc : ByteArray) (nL : Nat) (ret : Option FieldType) (own : String) : Prop := p.tables.exec = Jvm.exec ∧ c.code = cc ∧ meth.sig.returnType = ret ∧ c.maxLocals = nL ∧ s.vm.findClass own = some m.cls ∧ (∀ w ∈ UW, w.before args s = true) ∧ meth.locks = false ∧ Kg Ly g s
theorem UGc {w : Cond} (h : w ∈ UW) : GoodIn UW (w :: UW) := fun x hx => by
  rcases List.mem_cons.mp hx with rfl | hx
  · exact UG x h
  · exact UG x hx
/-- the pure side: guards and steps -/
def gd {α : Type} (q : Prop) [Decidable q] (x : Option α) : Option α := if q then x else none
theorem gd_some {α : Type} {q : Prop} [Decidable q] {x : Option α} {r : α} (h : gd q x = some r) : q ∧ x = some r := by
  unfold gd at h
  by_cases hq : q
  · rw [if_pos hq] at h
    exact ⟨hq, h⟩
  · rw [if_neg hq] at h
    cases h
def ob {α β : Type} (x : Option α) (f : α → Option β) : Option β := x.bind f
theorem ob_some {α β : Type} {x : Option α} {f : α → Option β} {r : β} (h : ob x f = some r) : ∃ a, x = some a ∧ f a = some r := by
  unfold ob at h
  cases x with
  | none => cases h
  | some a => exact ⟨a, rfl, h⟩
def lt {α β : Type} (x : α) (f : α → Option β) : Option β := f x
theorem lt_some {α β : Type} {x : α} {f : α → Option β} {r : β} (h : lt x f = some r) : ∃ a, a = x ∧ f a = some r := ⟨x, rfl, h⟩
abbrev inB (i : Int32) (n : Nat) : Prop := 0 ≤ i.toInt ∧ i.toInt < (n : Int)
theorem inB_vp {i : Int32} {n : Nat} (h : inB i n) : vp_in i n := vp_in_iff.mpr h

