/-! the rows of the constructors: cells come one behind another, at the addresses from the first one on -/
def An (g : Gx) : Nat → Prop := fun q => g.2.2.1 ≤ q
def Wn (g : Gx) (n : Nat) (E : Nat → va_E) : va_W := (List.range n).map (fun k => (g.2.2.1 + k, E k))
theorem Wn_get {g : Gx} {n k : Nat} {E : Nat → va_E} (h : k < n) : (Wn g n E)[k]? = some (g.2.2.1 + k, E k) := by
  simp [Wn, h]
theorem Wn_len {g : Gx} {n k : Nat} {E : Nat → va_E} {q : Nat × va_E} (h : (Wn g n E)[k]? = some q) : k < n ∧ q = (g.2.2.1 + k, E k) := by
  have h1 : k < (Wn g n E).length := (List.getElem?_eq_some_iff.mp h).1
  have h2 : k < n := by simpa [Wn] using h1
  rw [Wn_get h2] at h
  cases h
  exact ⟨h2, rfl⟩
def Pn (g : Gx) (n : Nat) (E : Nat → va_E) (H : Heap) : Prop := va_P g.1 vwCl (Wn g n E) H ∧ H.size = g.2.2.1 + n
theorem Pn.at {g : Gx} {n k : Nat} {E : Nat → va_E} {H : Heap} (h : Pn g n E H) (hk : k < n) {e : va_E} (he : E k = e) : va_at g.1 vwCl (g.2.2.1 + k, e) H := he ▸ h.1 k _ (Wn_get hk)
theorem Pn.push {g : Gx} {n : Nat} {E : Nat → va_E} {H H1 : Heap} {e : va_E} (h : Pn g n E H) (hk : ∀ q : Nat, q < H.size → H1[q]? = H[q]?) (z : H1.size = H.size + 1) (he : va_at g.1 vwCl (g.2.2.1 + n, e) H1) : Pn g (n + 1) (va_up E n e) H1 := by
  refine ⟨fun k q hq => ?_, by rw [z, h.2]; omega⟩
  obtain ⟨h1, rfl⟩ := Wn_len hq
  by_cases hkn : k = n
  · subst hkn
    rw [va_up_self]
    exact he
  · rw [va_up_ne _ _ hkn]
    exact (h.1 k _ (Wn_get (by omega))).kept (hk _ (by rw [h.2]; show g.2.2.1 + k < _; omega))
theorem Pn.set {g : Gx} {n k : Nat} {E : Nat → va_E} {H H1 : Heap} {e : va_E} (h : Pn g n E H) (oq : ∀ q : Nat, q ≠ g.2.2.1 + k → H1[q]? = H[q]?) (z : H1.size = H.size) (he : va_at g.1 vwCl (g.2.2.1 + k, e) H1) : Pn g n (va_up E k e) H1 := by
  refine ⟨fun j q hq => ?_, z.trans h.2⟩
  obtain ⟨h1, rfl⟩ := Wn_len hq
  by_cases hjk : j = k
  · subst hjk
    rw [va_up_self]
    exact he
  · rw [va_up_ne _ _ hjk]
    exact (h.1 j _ (Wn_get h1)).kept (oq _ (by show g.2.2.1 + j ≠ _; omega))
def Kn (g : Gx) (U : State) : Prop := va_K g.1 vwCl (tys g) U ∧ (∀ q ∈ nestM, va_Nw (.methodLinkNest q.1 q.2.1 q.2.2 "CoinMeter") U) ∧ va_AO "CoinMeter$Meter" U ∧ va_AO "CoinMeter$Sheet" U
theorem Kn.go {g : Gx} {s U : State} (h : Kn g s) (hW : s.WarmedH U.vm) : Kn g U := ⟨h.1.moved hW.alike, fun q hq => va_Nw.warmM hW (h.2.1 q hq), h.2.2.1.moved hW.alike, h.2.2.2.moved hW.alike⟩
theorem Kn.calling {g : Gx} {U : State} (h : Kn g U) (f : JFrame) (mk : MethodId) (a : Array Value) : Kn g (U.calling f mk a) := ⟨h.1.moved (U := U.calling f mk a) (Vm.Alike.refl U.vm), fun q hq => va_tabs (A := #[]) (u := U) rfl rfl (h.2.1 q hq), va_AO.moved (u := U) (U := U.calling f mk a) (Vm.Alike.refl U.vm) h.2.2.1, va_AO.moved (u := U) (U := U.calling f mk a) (Vm.Alike.refl U.vm) h.2.2.2⟩
/-- a constructor's contract: with k + 1 cells, the last one its own -/
def Ci (g : Gx) (l : Launch) (y : MethodName) (cc : ByteArray) (nL : Nat) (rm : Room) (k : Nat) (E : Nat → va_E) (n : Nat) (E1 : Nat → va_E) (mc ms : Nat) : Prop := Met l y (Cond.code y cc nL none :: UW) rm (va_Pc [.ref (g.2.2.1 + k)] (fun U => Pn g (k + 1) E U.heap ∧ Kn g U)) (fun _ s0 oc t => oc = .returned none ∧ Pn g n E1 t.heap ∧ va_F (An g) s0 t) mc ms (An g)
def Cn (g : Gx) (p : Program) (s : State) (m : MethodId) (args : Array Value) (meth : Method) (c : Code) (cc : ByteArray) (nL : Nat) (own : String) : Prop := p.tables.exec = Jvm.exec ∧ c.code = cc ∧ meth.name = "<init>" ∧ c.maxLocals = nL ∧ s.vm.findClass own = some m.cls ∧ (∀ w ∈ UW, w.before args s = true) ∧ Kn g s
section NR
variable {g : Gx} {p : Program} {l : Launch} {e : Env} {R : Room} {s : State} {m : MethodId} {args : Array Value} {below : List Frame} {meth : Method} {c : Code} {H : Heap} {locs : List Loc} {cells slots : Nat} {Q : State → Prop} {cc : ByteArray} {pc : Nat} {ls : Array Slot} {rest : List Value} {nL n : Nat} {E : Nat → va_E} {own : String}
theorem n_grow {H1 : Heap} (hP : Pn g n E H) (hS : va_S (An g) s.heap H locs) (z : H1.size = H.size + 1) (o : ∀ q : Nat, q < H.size → H1[q]? = H[q]?) : va_S (An g) s.heap H1 locs := ⟨Nat.le_trans hS.1 (by omega), fun q h1 h2 => (o q (Nat.lt_of_lt_of_le h1 hS.1)).trans (hS.2.1 q h1 h2), hS.2.2⟩
theorem n_new (hx : p.tables.exec = Jvm.exec) (hb : c.code = cc) (hown : s.vm.findClass own = some m.cls) (hts : ∀ w ∈ UW, w.before args s = true) (hKv : va_K g.1 vwCl (tys g) s) (hP : Pn g n E H) (hS : va_S (An g) s.heap H locs) {C : String} {T : u_T} {N ci index : Nat} (hin : ∀ w ∈ u_ws C T N, w ∈ UW) (ty : Nat → FieldType) (hty : ∀ k, k < N → parseFieldDescriptor (T k).2.2.1 = some (ty k)) (hcl : Cond.classLink own index C ∈ UW) (hinst : Cond.instantiable C N ∈ UW) (hini : Cond.initialized C ∈ UW) (hc : vwCl[ci]? = some (C, T, N)) {fs : List Value} (hfs : ∀ j, j < N → defaultValue (ty j) = vp_V fs j) (hcells : cells + 1 ≤ R.cells) (hslots : slots + N ≤ R.slots) (hdg : decode cc pc = .ok (.new index, 3))
    (kk : ∀ H1 : Heap, Pn g (n + 1) (va_up E n (.inr (ci, fs))) H1 → va_S (An g) s.heap H1 locs → W p l e R s m args below meth c H1 locs (cells + 1) (slots + N) Q (F0 m (pc + 3) ls (.ref (g.2.2.1 + n) :: rest))) : W p l e R s m args below meth c H locs cells slots Q (F0 m pc ls rest) := by
  have hKn := hKv.1 ci _ hc
  refine W.newcK hx hb hown (hts _ hcl) (hts _ hinst) (hts _ hini) rfl hdg hcells hslots hKn.2.1 hP.2 fun H1 kC hkC e1 z1 o1 => ?_
  rw [← hP.2] at z1 o1
  exact kk H1 (hP.push o1 z1 ⟨_, hc, (u_born ty hts hin hKn hkC e1 hty).to hfs⟩) (n_grow hP hS z1 o1)
theorem n_newi (hx : p.tables.exec = Jvm.exec) (hb : c.code = cc) (hts : ∀ w ∈ UW, w.before args s = true) (hKv : va_K g.1 vwCl (tys g) s) (hP : Pn g n E H) (hS : va_S (An g) s.heap H locs) (harr : Cond.arrayClass .int ∈ UW) {x : Int32} {N : Nat} (hn : ¬ x < 0) (hN : x.toNatClampNeg = N) (hbytes : N * 4 ≤ 536870912) (hcells : cells + 1 ≤ R.cells) (hslots : slots + N ≤ R.slots) (hdg : decode cc pc = .ok (.newarray .int, 2))
    (kk : ∀ H1 : Heap, Pn g (n + 1) (va_up E n (.inl (g.2.1 1, N, .inl (fun _ => 0)))) H1 → va_S (An g) s.heap H1 locs → W p l e R s m args below meth c H1 locs (cells + 1) (slots + N) Q (F0 m (pc + 2) ls (.ref (g.2.2.1 + n) :: rest))) : W p l e R s m args below meth c H locs cells slots Q (F0 m pc ls (.int x :: rest)) := by
  refine va_newaK (atype := .int) hx hb (hts _ harr) rfl hdg rfl hn hN hbytes hcells hslots hP.2 fun H1 cA e1 z1 o1 _ hNm => ?_
  have hcA : cA = g.2.1 1 := by
    have h1 : s.vm.findClass "[I" = some (g.2.1 1) := va_nm_int (hKv.2 1 _ rfl).2
    exact Option.some.inj (hNm.symm.trans h1)
  rw [← hP.2] at z1 o1
  refine kk H1 (hP.push o1 z1 ?_) (n_grow hP hS z1 o1)
  show H1[g.2.2.1 + n]? = some (vp_cell _ _)
  rw [e1, hcA]
  rfl
theorem n_newb (hx : p.tables.exec = Jvm.exec) (hb : c.code = cc) (hts : ∀ w ∈ UW, w.before args s = true) (hKv : va_K g.1 vwCl (tys g) s) (hP : Pn g n E H) (hS : va_S (An g) s.heap H locs) (harr : Cond.arrayClass .byte ∈ UW) {x : Int32} {N : Nat} (hn : ¬ x < 0) (hN : x.toNatClampNeg = N) (hbytes : N * 1 ≤ 536870912) (hcells : cells + 1 ≤ R.cells) (hslots : slots + N ≤ R.slots) (hdg : decode cc pc = .ok (.newarray .byte, 2))
    (kk : ∀ H1 : Heap, Pn g (n + 1) (va_up E n (.inl (g.2.1 0, N, .inl (fun _ => 0)))) H1 → va_S (An g) s.heap H1 locs → W p l e R s m args below meth c H1 locs (cells + 1) (slots + N) Q (F0 m (pc + 2) ls (.ref (g.2.2.1 + n) :: rest))) : W p l e R s m args below meth c H locs cells slots Q (F0 m pc ls (.int x :: rest)) := by
  refine va_newaK (atype := .byte) hx hb (hts _ harr) rfl hdg rfl hn hN hbytes hcells hslots hP.2 fun H1 cA e1 z1 o1 _ hNm => ?_
  have hcA : cA = g.2.1 0 := by
    have h1 : s.vm.findClass "[B" = some (g.2.1 0) := va_nm_byte (hKv.2 0 _ rfl).2
    exact Option.some.inj (hNm.symm.trans h1)
  rw [← hP.2] at z1 o1
  refine kk H1 (hP.push o1 z1 ?_) (n_grow hP hS z1 o1)
  show H1[g.2.2.1 + n]? = some (vp_cell _ _)
  rw [e1, hcA]
  rfl
theorem n_newq (hx : p.tables.exec = Jvm.exec) (hb : c.code = cc) (hown : s.vm.findClass own = some m.cls) (hts : ∀ w ∈ UW, w.before args s = true) (hKv : va_K g.1 vwCl (tys g) s) (hP : Pn g n E H) (hS : va_S (An g) s.heap H locs) {C : String} {index t : Nat} (hcl : Cond.classLink own index C ∈ UW) (hover : va_AO C s) (ht : (tys g)[t]? = some (g.2.1 t, .object C)) {x : Int32} {N : Nat} (hn : ¬ x < 0) (hN : x.toNatClampNeg = N) (hbytes : N * 4 ≤ 536870912) (hcells : cells + 1 ≤ R.cells) (hslots : slots + N ≤ R.slots) (hdg : decode cc pc = .ok (.anewarray index, 3))
    (kk : ∀ H1 : Heap, Pn g (n + 1) (va_up E n (.inl (g.2.1 t, N, .inr (.inr (.inr (.inr (fun _ => none))))))) H1 → va_S (An g) s.heap H1 locs → W p l e R s m args below meth c H1 locs (cells + 1) (slots + N) Q (F0 m (pc + 3) ls (.ref (g.2.2.1 + n) :: rest))) : W p l e R s m args below meth c H locs cells slots Q (F0 m pc ls (.int x :: rest)) := by
  subst hN
  refine W.anew hx hb hown (hts _ hcl) (va_AO.use hover) rfl hdg rfl hn hbytes hcells hslots fun cA kA comp f1 f2 f3 f4 => ?_
  have hcA : cA = g.2.1 t := by
    obtain ⟨_, _, _, _, _, h1⟩ := (hKv.2 t _ ht).2
    exact Option.some.inj (f1.symm.trans h1)
  rw [hP.2]
  generalize hH1 : H.push ({ cls := cA, slots := Array.replicate x.toNatClampNeg .null, vm := .none } : Cell) = H1
  have z1 : H1.size = H.size + 1 := by rw [← hH1, Array.size_push]
  have e1 : H1[H.size]? = some (arrV cA x.toNatClampNeg (fun _ => .null)) := by rw [← hH1, Array.getElem?_push_size, ← arrV_new]
  have o1 : ∀ q : Nat, q < H.size → H1[q]? = H[q]? := fun q hq => by rw [← hH1, Array.getElem?_push, if_neg (Nat.ne_of_lt hq)]
  refine kk H1 (hP.push o1 z1 ?_) (n_grow hP hS z1 o1)
  show H1[g.2.2.1 + n]? = some (vp_cell _ _)
  rw [← hP.2, e1, hcA]
  rfl
theorem n_putF (hx : p.tables.exec = Jvm.exec) (hb : c.code = cc) (hown : s.vm.findClass own = some m.cls) (hts : ∀ w ∈ UW, w.before args s = true) (hKv : va_K g.1 vwCl (tys g) s) (hP : Pn g n E H) (hS : va_S (An g) s.heap H locs) (hname : meth.name = "<init>") {C : String} {T : u_T} {N ci index : Nat} (hin : ∀ w ∈ u_ws C T N, w ∈ UW) (ty0 : Nat → FieldType) (hty : ∀ k, k < N → parseFieldDescriptor (T k).2.2.1 = some (ty0 k)) (hnm : ∀ a, a < N → ∀ b, b < N → a ≠ b → (T a).2.1 ≠ (T b).2.1) {k : Nat} (hk : k < n) {fs : List Value} (he : E k = .inr (ci, fs)) (hc : vwCl[ci]? = some (C, T, N)) (j : Nat) (hj : j < N) (hlink : Cond.fieldLink own index (T j).1 (T j).2.1 (T j).2.2.1 ∈ UW) (hfin : (T j).2.2.2 = true) (hdecl : (T j).1 = own) {v : Value} (hn : narrow (ty0 j) v = v) (hfit : fits (ty0 j) v = true) (hl : j < fs.length) {fs2 : List Value} (hfs : fs.set j v = fs2) (hdg : decode cc pc = .ok (.putfield index, 3))
    (kk : ∀ (H1 : Heap) (locs1 : List Loc), Pn g n (va_up E k (.inr (ci, fs2))) H1 → va_S (An g) s.heap H1 locs1 → W p l e R s m args below meth c H1 locs1 cells slots Q (F0 m (pc + 3) ls rest)) : W p l e R s m args below meth c H locs cells slots Q (F0 m pc ls (v :: .ref (g.2.2.1 + k) :: rest)) := by
  subst hfs
  have hap := va_apart (own := own) hts hin ty0 hty hnm hKv hc
  obtain ⟨r, h1, cell, q1, q2, q3, q4⟩ := hP.at hk he
  obtain rfl : r = (C, T, N) := Option.some.inj (h1.symm.trans hc)
  obtain ⟨hSl, hfc, kC, hkC, hkind⟩ := hKv.1 ci _ hc
  obtain ⟨cf, kf, fi, f, hi, hsl⟩ := hSl j hj
  have hlay := hts _ (hin _ (u_in_lay hj))
  unfold u_lay at hlay
  rw [if_pos hfin] at hlay
  have hst := (u_facts hfc hkC (u_lays hts hin hj) hi).1
  have hcf : m.cls = cf := by
    obtain ⟨_, _, c', _, _, _, -, -, hf', -, -, -, hown2, -⟩ := Cond.laysFinal_spec hlay
    have e1 : c' = cf := by
      have h := hi.symm.trans hf'
      simp at h
      exact h.1.symm
    rw [hdecl] at hown2
    rw [← e1]
    exact Option.some.inj (hown.symm.trans hown2)
  have h6 := u_fits hfc hkC hkind (Or.inr hlay) hi (hty j hj) hn hfit
  refine W.putFinK hx hb hown (hts _ hlink) hi hst hcf hname (by rw [q2]; exact h6) q1 q3 (by rw [hsl]; exact k2_hasslot (q4 j hj)) rfl rfl hdg fun H' e1 e2 e3 => ?_
  rw [hsl] at e1 ⊢
  exact kk H' _ (hP.set e3 e2 ⟨_, hc, t_OB.to (V := updV (vp_V fs) j v) ⟨_, e1, q2, q3, t_set q4 hap hj v⟩ (fun i _ => vp_updV_set hl v i)⟩) (hS.put e2 e3 (Nat.le_add_right _ _))
theorem n_aast (hx : p.tables.exec = Jvm.exec) (hb : c.code = cc) (hKv : va_K g.1 vwCl (tys g) s) (hP : Pn g n E H) (hS : va_S (An g) s.heap H locs) {k kv ci t N : Nat} {r : vw_C} {vs : List Value} {f : Nat → Option Nat} (hk : k < n) (he : E k = .inl (g.2.1 t, N, .inr (.inr (.inr (.inr f))))) (hkv : kv < n) (hev : E kv = .inr (ci, vs)) (hc : vwCl[ci]? = some r) (ht : (tys g)[t]? = some (g.2.1 t, .object r.1)) {i : Int32} {j : Nat} (hin : vp_in i N) (hj : i.toNatClampNeg = j) (hdg : decode cc pc = .ok (.aastore, 1))
    (kk : ∀ (H1 : Heap) (locs1 : List Loc), Pn g n (va_up E k (.inl (g.2.1 t, N, .inr (.inr (.inr (.inr (va_up f j (some (g.2.2.1 + kv)))))))) ) H1 → va_S (An g) s.heap H1 locs1 → W p l e R s m args below meth c H1 locs1 cells slots Q (F0 m (pc + 1) ls rest)) : W p l e R s m args below meth c H locs cells slots Q (F0 m pc ls (.ref (g.2.2.1 + kv) :: .int i :: .ref (g.2.2.1 + k) :: rest)) := by
  subst hj
  have hlt : i.toNatClampNeg < N := Nat.not_le.mp fun q => hin (Or.inr q)
  obtain ⟨r', hr', cellV, g1, g2, g3, -⟩ := hP.at hkv hev
  have hcls := (hKv.1 ci r hc).2
  obtain ⟨kA, comp, k1, k2, k3, -⟩ := (hKv.2 t _ ht).2
  obtain rfl : comp = g.1.1 ci := Option.some.inj (k3.symm.trans hcls.1)
  obtain ⟨kC, hkC, -⟩ := hcls.2
  refine W.aast hx hb (hP.at hk he) (fun q h => by cases h) (fun h => by cases h) k1 k2 rfl hkC ⟨fun q => hin (Or.inl q), by show _ < (arrV _ _ _).slots.size; rw [arrV_size]; exact hlt⟩ g1 (fun q h => by rw [g3] at h; cases h) (by rw [g2]; exact hkC) (by rw [g2]; exact va_assign hcls) rfl rfl hdg fun H1 e z oq => ?_
  refine kk H1 _ (hP.set oq z ?_) (hS.put z oq (Nat.le_add_right _ _))
  show H1[g.2.2.1 + k]? = some (vp_cell _ _)
  rw [e, vp_cell_q, vp_cell_q, arrV_store]
  congr 2
  funext q
  by_cases hq : q = i.toNatClampNeg
  · subst hq
    simp [updV, va_up, va_rf]
  · simp [updV, va_up, hq]
theorem n_iast (hx : p.tables.exec = Jvm.exec) (hb : c.code = cc) (hKv : va_K g.1 vwCl (tys g) s) (hP : Pn g n E H) (hS : va_S (An g) s.heap H locs) {k N : Nat} {f : Nat → Int32} (hk : k < n) (he : E k = .inl (g.2.1 1, N, .inl f)) {i x : Int32} {j : Nat} (hin : vp_in i N) (hj : i.toNatClampNeg = j) (hdg : decode cc pc = .ok (.iastore, 1))
    (kk : ∀ (H1 : Heap) (locs1 : List Loc), Pn g n (va_up E k (.inl (g.2.1 1, N, .inl (upd f j x)))) H1 → va_S (An g) s.heap H1 locs1 → W p l e R s m args below meth c H1 locs1 cells slots Q (F0 m (pc + 1) ls rest)) : W p l e R s m args below meth c H locs cells slots Q (F0 m pc ls (.int x :: .int i :: .ref (g.2.2.1 + k) :: rest)) := by
  subst hj
  refine W.iast hx hb (hP.at hk he) ((hKv.2 1 _ rfl).1 N (fun j => .int (f j))) (fun q => by cases q) (by show ¬ (i < 0 ∨ (arrV _ _ _).slots.size ≤ _); rw [arrV_size]; exact hin) rfl rfl hdg fun H1 e z oq => ?_
  refine kk H1 _ (hP.set oq z ?_) (hS.put z oq (Nat.le_add_right _ _))
  show H1[g.2.2.1 + k]? = some (vp_cell _ _)
  rw [e, vp_cell_i, vp_cell_i, arrV_store]
  congr 2
  funext q
  unfold updV upd
  split <;> rfl
theorem n_go {E1 : Nat → va_E} {n1 mc ms : Nat} {a : Array Value} {st0 : List Value} (hr : va_Run p l e R s m args below meth c H locs cells slots mc ms (F0 m pc ls st0) rest ((fun _ s0 oc t => oc = .returned none ∧ Pn g n1 E1 t.heap ∧ va_F (An g) s0 t : Array Value → State → Outcome → State → Prop) a) (An g)) (hS : va_S (An g) s.heap H locs)
    (kk : ∀ (H1 : Heap) (locs1 : List Loc), Pn g n1 E1 H1 → va_S (An g) s.heap H1 locs1 → W p l e R s m args below meth c H1 locs1 (cells + mc) (slots + ms) Q (F0 m (pc + 3) ls rest)) : W p l e R s m args below meth c H locs cells slots Q (F0 m pc ls st0) := by
  intro T hT X
  obtain ⟨v', st₀, t, T', L, h0, X', hL, e1, e2, ⟨hv, hp, hz, hk⟩, st⟩ := hr T hT X
  cases hv
  rw [h0] at hz hk
  obtain ⟨t2, a1, b1⟩ := kk T'.heap (locs ++ L) (by rw [e1]; exact hp)
    ⟨Nat.le_trans hS.1 (by rw [e1]; exact hz), fun q h1 h2 => by rw [e1, hk q (Nat.lt_of_lt_of_le h1 hS.1) h2]; exact hS.2.1 q h1 h2, fun q hq => by
      rcases List.mem_append.mp hq with h | h
      · exact hS.2.2 q h
      · exact hL q h⟩ T' rfl X'
  exact ⟨t2, st t2 a1, b1⟩
theorem n_blind {k : Nat} : FrameBlind (va_Pc [.ref (g.2.2.1 + k)] (fun U => Pn g (k + 1) E U.heap ∧ Kn g U)) := fun a U f mk h => ⟨h.1, h.2.1, h.2.2.calling f mk a⟩
theorem n_callI (hx : p.tables.exec = Jvm.exec) (hb : c.code = cc) (hml : c.maxLocals = nL) (hown : s.vm.findClass own = some m.cls) (hts : ∀ w ∈ UW, w.before args s = true) (hK : Kn g s) {y : MethodName} {cc' : ByteArray} {nL' index k n1 mc ms : Nat} {rm : Room} {E1 : Nat → va_E} {st0 : List Value} (hM : Ci g l y cc' nL' rm k E n1 E1 mc ms) (hcode : Cond.code y cc' nL' none ∈ UW) (hlink : Cond.methodLink own index y ∈ UW) (hinst : Cond.instanceMethod y ∈ UW) (hini : Cond.initialized y.cls ∈ UW) (hy1 : y.name = "<init>") (hd : y.cls ≠ "java/lang/invoke/MethodHandle" ∧ y.cls ≠ "java/lang/invoke/VarHandle" ∧ (parseMethodDescriptor y.desc).map (fun d => d.parameters.length) = some 0) (hr0 : rm.cells = mc ∧ rm.slots = ms) (hR : rm.frames + 1 ≤ R.frames ∧ 8 + (nL' + 11) + rm.locals ≤ R.locals) (hP : Pn g (k + 1) E H) (hS : va_S (An g) s.heap H locs) (hsz : ls.size = nL) (hst : st0 = .ref (g.2.2.1 + k) :: rest) (hw : (rest.map fun v => v.category).sum ≤ 8) (hdg : decode cc pc = .ok (.invokespecial index, 3)) (hf : cells + mc ≤ R.cells ∧ slots + ms ≤ R.slots)
    (kk : ∀ (H1 : Heap) (locs1 : List Loc), Pn g n1 E1 H1 → va_S (An g) s.heap H1 locs1 → W p l e R s m args below meth c H1 locs1 (cells + mc) (slots + ms) Q (F0 m (pc + 3) ls rest)) : W p l e R s m args below meth c H locs cells slots Q (F0 m pc ls st0) := by
  refine n_go (rest := rest) (a := (Value.ref (g.2.2.1 + k) :: ([] : List Value)).toArray) (va_runI (As := []) (b := g.2.2.1 + k) (rest := rest) ⟨hx, hb, hml, hown, hts⟩ hM ⟨callB_of 0 hts (UGc hcode) rfl hr0.1 hr0.2 (hts _ hini) (hts _ hlink) hd hR, hy1, hts _ hinst⟩ ⟨n_blind, fun U hU hW => ⟨rfl, by rw [hU]; exact hP, hK.go hW⟩⟩ rfl rfl hsz hst (lv_room hw) hdg hf) hS kk
theorem n_callIN (hx : p.tables.exec = Jvm.exec) (hb : c.code = cc) (hml : c.maxLocals = nL) (hown : s.vm.findClass own = some m.cls) (hts : ∀ w ∈ UW, w.before args s = true) (hK : Kn g s) {y : MethodName} {cc' : ByteArray} {nL' index k n1 mc ms : Nat} {rm : Room} {E1 : Nat → va_E} {st0 : List Value} (hM : Ci g l y cc' nL' rm k E n1 E1 mc ms) (hcode : Cond.code y cc' nL' none ∈ UW) (hnest : (own, index, y) ∈ nestM) (hinst : Cond.instanceMethod y ∈ UW) (hini : Cond.initialized y.cls ∈ UW) (hy1 : y.name = "<init>") (hd : y.cls ≠ "java/lang/invoke/MethodHandle" ∧ y.cls ≠ "java/lang/invoke/VarHandle" ∧ (parseMethodDescriptor y.desc).map (fun d => d.parameters.length) = some 0) (hr0 : rm.cells = mc ∧ rm.slots = ms) (hR : rm.frames + 1 ≤ R.frames ∧ 8 + (nL' + 11) + rm.locals ≤ R.locals) (hP : Pn g (k + 1) E H) (hS : va_S (An g) s.heap H locs) (hsz : ls.size = nL) (hst : st0 = .ref (g.2.2.1 + k) :: rest) (hw : (rest.map fun v => v.category).sum ≤ 8) (hdg : decode cc pc = .ok (.invokespecial index, 3)) (hf : cells + mc ≤ R.cells ∧ slots + ms ≤ R.slots)
    (kk : ∀ (H1 : Heap) (locs1 : List Loc), Pn g n1 E1 H1 → va_S (An g) s.heap H1 locs1 → W p l e R s m args below meth c H1 locs1 (cells + mc) (slots + ms) Q (F0 m (pc + 3) ls rest)) : W p l e R s m args below meth c H locs cells slots Q (F0 m pc ls st0) := by
  refine n_go (rest := rest) (a := (Value.ref (g.2.2.1 + k) :: ([] : List Value)).toArray) (va_runIN (As := []) (b := g.2.2.1 + k) (rest := rest) ⟨hx, hb, hml, hown, hts⟩ hM ⟨va_cnB 0 hts (UGc hcode) rfl hr0.1 hr0.2 (hK.2.1 _ hnest) (hts _ hini) hd hR, hy1, hts _ hinst⟩ ⟨n_blind, fun U hU hW => ⟨rfl, by rw [hU]; exact hP, hK.go hW⟩⟩ rfl rfl hsz hst (lv_room hw) hdg hf) hS kk
end NR
theorem n_met {g : Gx} {l : Launch} {y : MethodName} {cc : ByteArray} {nL : Nat} {rm : Room} {k n mc ms : Nat} {E E1 : Nat → va_E} (hy : plainName y.cls = true) (hyn : y.name = "<init>") (hfit : 1 ≤ nL)
    (body : ∀ (p : Program) (e : Env) (s : State) (m : MethodId) (below : List Frame) (meth : Method) (c : Code) (args : Array Value), p.tables.exec = Jvm.exec → c.code = cc → meth.name = "<init>" → c.maxLocals = nL → s.vm.findClass y.cls = some m.cls → (∀ w ∈ UW, w.before args s = true) → Kn g s → Pn g (k + 1) E s.heap → (∀ (H : Heap) (locs : List Loc) (ls : Array Slot) (pc : Nat), Pn g n E1 H → va_S (An g) s.heap H locs → decode cc pc = .ok (.return_, 1) → W p l e rm s m args below meth c H locs mc ms (MQ below (fun _ s0 oc t => oc = .returned none ∧ Pn g n E1 t.heap ∧ va_F (An g) s0 t) args s mc ms (An g)) (F0 m pc ls [])) → ∀ ls : Array Slot, lv_has ls nL [(0, .ref (g.2.2.1 + k))] → W p l e rm s m args below meth c s.heap [] 0 0 (MQ below (fun _ s0 oc t => oc = .returned none ∧ Pn g n E1 t.heap ∧ va_F (An g) s0 t) args s mc ms (An g)) (F0 m 0 ls [])) : Ci g l y cc nL rm k E n E1 mc ms := by
  refine Met.ofW (cc := cc) (maxL := nL) (ret := none) hy rfl ?_
  intro p e s m args below meth c s₁ B hml hv
  obtain ⟨rfl, hP, hK⟩ := hv
  have hts := atoms_spec (ws := Cond.code y cc nL none :: UW) B.pre
  have hl := lv_entry [.ref (g.2.2.1 + k)] (n := nL) hfit
  rw [lg_entry_eq]
  have hlocks := B.notSynchronized
  exact body p e s m below meth c _ B.exec B.bytes (hyn ▸ (name_of_methodNamed B.named B.method).1) hml (findClass_of_methodNamed B.named) (fun w h => hts w (List.mem_cons_of_mem _ h)) hK hP (fun H locs ls pc h1 h2 h3 => W.vret B.exec B.bytes B.returns (fun t ht hW => ⟨rfl, by rw [ht]; exact h1, h2.F ht⟩) h2.2.2 h3) _ hl
