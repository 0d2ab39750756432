/-! the law's walk -/
abbrev gB (g : Gx) (B : Nat) : Gx := (g.1, g.2.1, B, g.2.2.2)
abbrev gm (g : Gx) : Gx := (g.1, g.2.1, g.2.2.1 + 96, g.2.2.2)
def KL (g : Gx) (U : State) : Prop := va_K g.1 vwCl (tys g) U ∧ (∀ q ∈ nestM, va_Nw (.methodLinkNest q.1 q.2.1 q.2.2 "CoinMeter") U) ∧ (∀ q ∈ nestF, va_Nw (.fieldLinkNest q.1 q.2 "CoinMeter" "KIND_ABOVE" "[I" "CoinMeter") U) ∧ (va_Z "CoinMeter" "KIND_ABOVE" "[I" (.ref (g.2.2.2 0)) (An g) U U.heap ∧ va_T .int (g.2.2.2 0) 6 (fun j => .int (KA j)) (An g) U U.heap) ∧ va_Z "CoinMeter$Voices" "BODIES" "[I" (.ref (g.2.2.2 1)) (An g) U U.heap ∧ va_T .int (g.2.2.2 1) 24 (fun j => .int (BO j)) (An g) U U.heap
theorem KL.to {Ly : Lay} {g : Gx} {B : Nat} {s U : State} {H : Heap} {locs : List Loc} (h : KL g s) (hS : va_S (An g) s.heap H locs) (hU : U.heap = H) (hW : s.WarmedH U.vm) (hB : ∀ q, Ax Ly (gB g B) q → An g q) : Kg Ly (gB g B) U := by
  obtain ⟨h1, h2, h3, ⟨h4, h5⟩, h6, h7⟩ := h
  have k : ∀ a : Nat, a < s.heap.size → ¬ An g a → U.heap[a]? = s.heap[a]? := fun a q1 q2 => by rw [hU]; exact hS.2.1 a q1 q2
  exact ⟨h1.moved hW.alike, fun q hq => va_Nw.warmM hW (h2 q hq), fun q hq => va_Nw.warmF hW (h3 q hq), ⟨((h4.moved hW.alike).kept k).narrow hB, ((h5.moved hW.alike).kept k).narrow hB⟩, ((h6.moved hW.alike).kept k).narrow hB, ((h7.moved hW.alike).kept k).narrow hB⟩
theorem Px.keep {Ly : Lay} {g : Gx} {μ : Mem} {H H1 : Heap} (h : Px Ly g μ H) (hq : ∀ k, k < Ly.2.2 → g.2.2.1 + k < H.size → H1[g.2.2.1 + k]? = H[g.2.2.1 + k]?) : Px Ly g μ H1 := by
  refine va_P.kept h (fun k q hk => ?_)
  obtain ⟨h1, h2⟩ := Ws_len hk
  rw [h2]
  exact hq k h1 (by rw [← h2]; exact (h k q hk).lt)
/-- what the law stands on -/
def LC (g : Gx) (p : Program) (s : State) (m : MethodId) (c : Code) (b L : Nat) (xs : Nat → Int32) : Prop := p.tables.exec = Jvm.exec ∧ c.code = code ∧ c.maxLocals = 4 ∧ s.vm.findClass "CoinMeterLaw" = some m.cls ∧ (∀ w ∈ UW, w.before #[Value.ref b] s = true) ∧ va_X b L xs s s.heap ∧ b < s.heap.size ∧ g.2.2.1 = s.heap.size ∧ KL g s
section LW
variable {g : Gx} {p : Program} {l : Launch} {e : Env} {R : Room} {s : State} {m : MethodId} {args : Array Value} {below : List Frame} {meth : Method} {c : Code} {H : Heap} {locs : List Loc} {cells slots : Nat} {Q : State → Prop} {cc : ByteArray} {pc : Nat} {ls : Array Slot} {rest : List Value} {nL : Nat} {own : String} {μ : Mem}
theorem l_go {Ly : Lay} {B : Nat} {v : Option Value} {ν : Mem} {a : Array Value} {st0 : List Value} (hr : va_Run p l e R s m args below meth c H locs cells slots 0 0 (F0 m pc ls st0) rest (Qx Ly (gB g B) v ν a) (Ax Ly (gB g B))) (hS : va_S (An g) s.heap H locs) (hB : ∀ q, Ax Ly (gB g B) q → An g q)
    (kk : ∀ (H1 : Heap) (locs1 : List Loc), Px Ly (gB g B) ν H1 → va_S (An g) s.heap H1 locs1 → (∀ q : Nat, q < H.size → ¬ Ax Ly (gB g B) q → H1[q]? = H[q]?) → W p l e R s m args below meth c H1 locs1 cells slots Q (F0 m (pc + 3) ls (v.toList ++ rest))) : W p l e R s m args below meth c H locs cells slots Q (F0 m pc ls st0) := by
  intro T hT X
  obtain ⟨v', st₀, t, T', L, h0, X', hL, e1, e2, ⟨hv, hp, hz, hk⟩, st⟩ := hr T hT X
  cases hv
  rw [h0] at hz hk
  obtain ⟨t2, a1, b1⟩ := kk T'.heap (locs ++ L) (by rw [e1]; exact hp)
    ⟨Nat.le_trans hS.1 (by rw [e1]; exact hz), fun q h1 h2 => by rw [e1, hk q (Nat.lt_of_lt_of_le h1 hS.1) (fun z => h2 (hB q z))]; exact hS.2.1 q h1 h2, fun q hq => by
      rcases List.mem_append.mp hq with h | h
      · exact hS.2.2 q h
      · exact hB _ (hL q h)⟩ (fun q h1 h2 => by rw [e1]; exact hk q h1 h2) T' rfl X'
  exact ⟨t2, st t2 a1, b1⟩
theorem l_call {Ly : Lay} {B : Nat} (hx : p.tables.exec = Jvm.exec) (hb : c.code = cc) (hml : c.maxLocals = nL) (hown : s.vm.findClass own = some m.cls) (hts : ∀ w ∈ UW, w.before args s = true) (hK : KL g s) (hB : ∀ q, Ax Ly (gB g B) q → An g q) {y : MethodName} {cc' : ByteArray} {nL' n index ci n0 : Nat} {rm : Room} {As : List Value} {r : Int32} {ν : Mem} {q : vw_C} {st0 : List Value} (hM : Ct Ly (gB g B) l y cc' nL' (some .int) rm (.ref (B + 0) :: As) μ (some (.int r)) ν) (hcode : Cond.code y cc' nL' (some .int) ∈ UW) (hlink : Cond.methodLink own index y ∈ UW) (hinst : Cond.instanceMethod y ∈ UW) (hsel : Cond.selects q.1 y y ∈ UW) (hini : Cond.initialized q.1 ∈ UW) (hd : y.cls = q.1 ∧ y.cls ≠ "java/lang/invoke/MethodHandle" ∧ y.cls ≠ "java/lang/invoke/VarHandle" ∧ (parseMethodDescriptor y.desc).map (fun d => d.parameters.length) = some n) (hr0 : rm.cells = 0 ∧ rm.slots = 0) (hR : rm.frames + 1 ≤ R.frames ∧ 8 + (nL' + 11) + rm.locals ≤ R.locals) (hk : Cel Ly 0 ci n0) (hci : ci < 11) (hc : vwCl[ci]? = some q) (hP : Px Ly (gB g B) μ H) (hS : va_S (An g) s.heap H locs) (hsz : ls.size = nL) (hn : As.length = n) (hst : st0 = As.reverse ++ .ref (B + 0) :: rest) (hw : (rest.map fun v => v.category).sum ≤ 8) (hdg : decode cc pc = .ok (.invokevirtual index, 3)) (hf : cells ≤ R.cells ∧ slots ≤ R.slots)
    (kk : ∀ (H1 : Heap) (locs1 : List Loc), Px Ly (gB g B) ν H1 → va_S (An g) s.heap H1 locs1 → (∀ q : Nat, q < H.size → ¬ Ax Ly (gB g B) q → H1[q]? = H[q]?) → W p l e R s m args below meth c H1 locs1 cells slots Q (F0 m (pc + 3) ls (.int r :: rest))) : W p l e R s m args below meth c H locs cells slots Q (F0 m pc ls st0) := by
  refine l_go (rest := rest) (va_runV (As := As) (b := B + 0) (rest := rest) ⟨hx, hb, hml, hown, hts⟩ hM ⟨callB_of n hts (UGc hcode) rfl hr0.1 hr0.2 (by rw [hd.1]; exact hts _ hini) (hts _ hlink) hd.2 hR, hts _ hinst, hts _ hsel⟩ ⟨Pg_blind, va_recv (D := (gB g B).1) (tys := tys (gB g B)) hK.1 hP hc ((Ws_get hk.1).trans (by rw [Ex_ob hk.2.1 hci])), fun U hU hW => ⟨rfl, by rw [hU]; exact hP, hK.to hS hU hW hB⟩⟩ rfl hn hsz hst (lv_room hw) hdg hf) hS hB kk
end LW
theorem An_x {g : Gx} (q : Nat) (h : Ax Lx (gB g g.2.2.1) q) : An g q := h.1
theorem An_m {g : Gx} (q : Nat) (h : Ax Lm (gB g (g.2.2.1 + 96)) q) : An g q := Nat.le_trans (Nat.le_add_right _ _) h.1
theorem keep_m {g : Gx} {μ : Mem} {H H1 : Heap} (h : Px Lm (gB g (g.2.2.1 + 96)) μ H) (hq : ∀ q : Nat, q < H.size → ¬ Ax Lx (gB g g.2.2.1) q → H1[q]? = H[q]?) : Px Lm (gB g (g.2.2.1 + 96)) μ H1 := h.keep (fun k hk hl => hq _ hl (fun z => by have := z.2; change g.2.2.1 + 96 + k < g.2.2.1 + 96 at this; omega))
theorem keep_x {g : Gx} {μ : Mem} {H H1 : Heap} (h : Px Lx (gB g g.2.2.1) μ H) (hq : ∀ q : Nat, q < H.size → ¬ Ax Lm (gB g (g.2.2.1 + 96)) q → H1[q]? = H[q]?) : Px Lx (gB g g.2.2.1) μ H1 := h.keep (fun k hk hl => hq _ hl (fun z => by have := z.1; change g.2.2.1 + 96 ≤ g.2.2.1 + k at this; change k < 96 at hk; omega))

/-- each call keeps the two states alike and answers alike -/
def OpsOK (Sim : Nat → Mem → Mem → Prop) : Prop := (∀ (j : Nat) (μ ν : Mem) (a0 : Int32) (a1 : Int32), Sim j μ ν → j < 512 → ∃ (r : Int32) (μ' ν' : Mem), X9_meter a0 a1 μ = some (r, μ') ∧ X10_meter a0 a1 ν = some (r, ν') ∧ Sim (j + 1) μ' ν') ∧ (∀ (j : Nat) (μ ν : Mem) (a0 : Int32) (a1 : Int32), Sim j μ ν → j < 512 → ∃ (r : Int32) (μ' ν' : Mem), X9_as a0 a1 μ = some (r, μ') ∧ X10_as a0 a1 ν = some (r, ν') ∧ Sim (j + 1) μ' ν') ∧ (∀ (j : Nat) (μ ν : Mem) (a0 : Int32) (a1 : Int32), Sim j μ ν → j < 512 → ∃ (r : Int32) (μ' ν' : Mem), X9_meterIs a0 a1 μ = some (r, μ') ∧ X10_meterIs a0 a1 ν = some (r, ν') ∧ Sim (j + 1) μ' ν') ∧ (∀ (j : Nat) (μ ν : Mem) (a0 : Int32) (a1 : Int32) (a2 : Int32), Sim j μ ν → j < 512 → ∃ (r : Int32) (μ' ν' : Mem), X9_load a0 a1 a2 μ = some (r, μ') ∧ X10_load a0 a1 a2 ν = some (r, ν') ∧ Sim (j + 1) μ' ν') ∧ (∀ (j : Nat) (μ ν : Mem) (a0 : Int32) (a1 : Int32), Sim j μ ν → j < 512 → ∃ (r : Int32) (μ' ν' : Mem), X9_owe a0 a1 μ = some (r, μ') ∧ X10_owe a0 a1 ν = some (r, ν') ∧ Sim (j + 1) μ' ν') ∧ (∀ (j : Nat) (μ ν : Mem) (a0 : Int32) (a1 : Int32), Sim j μ ν → j < 512 → ∃ (r : Int32) (μ' ν' : Mem), X9_part a0 a1 μ = some (r, μ') ∧ X10_part a0 a1 ν = some (r, ν') ∧ Sim (j + 1) μ' ν') ∧ (∀ (j : Nat) (μ ν : Mem) (a0 : Int32), Sim j μ ν → j < 512 → ∃ (r : Int32) (μ' ν' : Mem), X9_moveIn a0 μ = some (r, μ') ∧ X10_moveIn a0 ν = some (r, ν') ∧ Sim (j + 1) μ' ν') ∧ (∀ (j : Nat) (μ ν : Mem) (a0 : Int32), Sim j μ ν → j < 512 → ∃ (r : Int32) (μ' ν' : Mem), X9_force a0 μ = some (r, μ') ∧ X10_force a0 ν = some (r, ν') ∧ Sim (j + 1) μ' ν') ∧ (∀ (j : Nat) (μ ν : Mem) (a0 : Int32), Sim j μ ν → j < 512 → ∃ (r : Int32) (μ' ν' : Mem), X9_press a0 μ = some (r, μ') ∧ X10_press a0 ν = some (r, ν') ∧ Sim (j + 1) μ' ν') ∧ (∀ (j : Nat) (μ ν : Mem) (a0 : Int32) (a1 : Int32), Sim j μ ν → j < 512 → ∃ (r : Int32) (μ' ν' : Mem), X9_shop a0 a1 μ = some (r, μ') ∧ X10_shop a0 a1 ν = some (r, ν') ∧ Sim (j + 1) μ' ν') ∧ (∀ (j : Nat) (μ ν : Mem) (a0 : Int32) (a1 : Int32), Sim j μ ν → j < 512 → ∃ (r : Int32) (μ' ν' : Mem), X9_nearest a0 a1 μ = some (r, μ') ∧ X10_nearest a0 a1 ν = some (r, ν') ∧ Sim (j + 1) μ' ν') ∧ (∀ (j : Nat) (μ ν : Mem) (a0 : Int32) (a1 : Int32) (a2 : Int32), Sim j μ ν → j < 512 → ∃ (r : Int32) (μ' ν' : Mem), X9_top a0 a1 a2 μ = some (r, μ') ∧ X10_top a0 a1 a2 ν = some (r, ν') ∧ Sim (j + 1) μ' ν') ∧ (∀ (j : Nat) (μ ν : Mem) (a0 : Int64) (a1 : Int32), Sim j μ ν → j < 512 → ∃ (r : Int32) (μ' ν' : Mem), X9_feed a0 a1 μ = some (r, μ') ∧ X10_feed a0 a1 ν = some (r, ν') ∧ Sim (j + 1) μ' ν') ∧ (∀ (j : Nat) (μ ν : Mem) (a0 : Int32) (a1 : Int32), Sim j μ ν → j < 512 → ∃ (r : Int32) (μ' ν' : Mem), X9_law a0 a1 μ = some (r, μ') ∧ X10_law a0 a1 ν = some (r, ν') ∧ Sim (j + 1) μ' ν') ∧ (∀ (j : Nat) (μ ν : Mem) (a0 : Int32) (a1 : Int32), Sim j μ ν → j < 512 → ∃ (r : Int32) (μ' ν' : Mem), X9_inForce a0 a1 μ = some (r, μ') ∧ X10_inForce a0 a1 ν = some (r, ν') ∧ Sim (j + 1) μ' ν') ∧ (∀ (j : Nat) (μ ν : Mem) (a0 : Int32) (a1 : Int32) (a2 : Int32), Sim j μ ν → j < 512 → ∃ (r : Int32) (μ' ν' : Mem), X9_says a0 a1 a2 μ = some (r, μ') ∧ X10_says a0 a1 a2 ν = some (r, ν') ∧ Sim (j + 1) μ' ν') ∧ (∀ (j : Nat) (μ ν : Mem) (a0 : Int32) (a1 : Int32), Sim j μ ν → j < 512 → ∃ (r : Int32) (μ' ν' : Mem), X9_rate a0 a1 μ = some (r, μ') ∧ X10_rate a0 a1 ν = some (r, ν') ∧ Sim (j + 1) μ' ν') ∧ (∀ (j : Nat) (μ ν : Mem) (a0 : Int32), Sim j μ ν → j < 512 → ∃ (r : Int32) (μ' ν' : Mem), X9_go a0 μ = some (r, μ') ∧ X10_go a0 ν = some (r, ν') ∧ Sim (j + 1) μ' ν') ∧ (∀ (j : Nat) (μ ν : Mem) (a0 : Int32) (a1 : Int32) (a2 : Int32), Sim j μ ν → j < 512 → ∃ (r : Int32) (μ' ν' : Mem), X9_read a0 a1 a2 μ = some (r, μ') ∧ X10_read a0 a1 a2 ν = some (r, ν') ∧ Sim (j + 1) μ' ν') ∧ (∀ (j : Nat) (μ ν : Mem) (a0 : Int32) (a1 : Int32) (a2 : Int32) (a3 : Int32), Sim j μ ν → j < 512 → ∃ (r : Int32) (μ' ν' : Mem), X9_dark a0 a1 a2 a3 μ = some (r, μ') ∧ X10_dark a0 a1 a2 a3 ν = some (r, ν') ∧ Sim (j + 1) μ' ν') ∧ (∀ (j : Nat) (μ ν : Mem) (a0 : Int32) (a1 : Int32) (a2 : Int32) (a3 : Int32), Sim j μ ν → j < 512 → ∃ (r : Int32) (μ' ν' : Mem), X9_hold a0 a1 a2 a3 μ = some (r, μ') ∧ X10_hold a0 a1 a2 a3 ν = some (r, ν') ∧ Sim (j + 1) μ' ν') ∧ (∀ (j : Nat) (μ ν : Mem) (a0 : Int32) (a1 : Int32) (a2 : Int32), Sim j μ ν → j < 512 → ∃ (r : Int32) (μ' ν' : Mem), X9_greatest a0 a1 a2 μ = some (r, μ') ∧ X10_greatest a0 a1 a2 ν = some (r, ν') ∧ Sim (j + 1) μ' ν') ∧ (∀ (j : Nat) (μ ν : Mem) (a0 : Int32) (a1 : Int32), Sim j μ ν → j < 512 → ∃ (r : Int32) (μ' ν' : Mem), X9_fewest a0 a1 μ = some (r, μ') ∧ X10_fewest a0 a1 ν = some (r, ν') ∧ Sim (j + 1) μ' ν') ∧ (∀ (j : Nat) (μ ν : Mem) (a0 : Int32) (a1 : Int32) (a2 : Int32), Sim j μ ν → j < 512 → ∃ (r : Int32) (μ' ν' : Mem), X9_far a0 a1 a2 μ = some (r, μ') ∧ X10_far a0 a1 a2 ν = some (r, ν') ∧ Sim (j + 1) μ' ν') ∧ (∀ (j : Nat) (μ ν : Mem) (a0 : Int32) (a1 : Int32) (a2 : Int32), Sim j μ ν → j < 512 → ∃ (r : Int32) (μ' ν' : Mem), X9_voice a0 a1 a2 μ = some (r, μ') ∧ X10_voice a0 a1 a2 ν = some (r, ν') ∧ Sim (j + 1) μ' ν') ∧ (∀ (j : Nat) (μ ν : Mem) (a0 : Int32), Sim j μ ν → j < 512 → ∃ (r : Int32) (μ' ν' : Mem), X9_trace a0 μ = some (r, μ') ∧ X10_trace a0 ν = some (r, ν') ∧ Sim (j + 1) μ' ν') ∧ (∀ (j : Nat) (μ ν : Mem) (a0 : Int32) (a1 : Int32) (a2 : Int32), Sim j μ ν → j < 512 → ∃ (r : Int32) (μ' ν' : Mem), X9_sheet a0 a1 a2 μ = some (r, μ') ∧ X10_sheet a0 a1 a2 ν = some (r, ν') ∧ Sim (j + 1) μ' ν') ∧ (∀ (j : Nat) (μ ν : Mem) (a0 : Int32) (a1 : Int32) (a2 : Int32), Sim j μ ν → j < 512 → ∃ (r : Int32) (μ' ν' : Mem), X9_put a0 a1 a2 μ = some (r, μ') ∧ X10_put a0 a1 a2 ν = some (r, ν') ∧ Sim (j + 1) μ' ν') ∧ (∀ (j : Nat) (μ ν : Mem) (a0 : Int32) (a1 : Int32) (a2 : Int32) (a3 : Int32) (a4 : Int32), Sim j μ ν → j < 512 → ∃ (r : Int32) (μ' ν' : Mem), X9_move a0 a1 a2 a3 a4 μ = some (r, μ') ∧ X10_move a0 a1 a2 a3 a4 ν = some (r, ν') ∧ Sim (j + 1) μ' ν') ∧ (∀ (j : Nat) (μ ν : Mem) , Sim j μ ν → j < 512 → ∃ (r : Int32) (μ' ν' : Mem), X9_image  μ = some (r, μ') ∧ X10_image  ν = some (r, ν') ∧ Sim (j + 1) μ' ν') ∧ (∀ (j : Nat) (μ ν : Mem) , Sim j μ ν → j < 512 → ∃ (r : Int32) (μ' ν' : Mem), X9_restore  μ = some (r, μ') ∧ X10_restore  ν = some (r, ν') ∧ Sim (j + 1) μ' ν') ∧ (∀ (j : Nat) (μ ν : Mem) (a0 : Int32), Sim j μ ν → j < 512 → ∃ (r : Int32) (μ' ν' : Mem), X9_told a0 μ = some (r, μ') ∧ X10_told a0 ν = some (r, ν') ∧ Sim (j + 1) μ' ν') ∧ (∀ (j : Nat) (μ ν : Mem) (a0 : Int32), Sim j μ ν → j < 512 → ∃ (r : Int32) (μ' ν' : Mem), X9_found a0 μ = some (r, μ') ∧ X10_found a0 ν = some (r, ν') ∧ Sim (j + 1) μ' ν')
set_option maxRecDepth 100000 in
set_option maxHeartbeats 4000000 in
theorem law_c0 {Sim : Nat → Mem → Mem → Prop} {g : Gx} {p : Program} {l : Launch} {e : Env} {s : State} {m : MethodId} {below : List Frame} {meth : Method} {c : Code} {b L : Nat} {xs : Nat → Int32} (C0 : LC g p s m c b L xs) (O : OpsOK Sim) {i : Nat} (hi : i < 512) {x3 : Int32} (hi1 : vp_in (x3 + (1 : Int32)) L) (hi2 : vp_in (x3 + (2 : Int32)) L) (hi3 : vp_in (x3 + (3 : Int32)) L) (hi4 : vp_in (x3 + (4 : Int32)) L) (hi5 : vp_in (x3 + (5 : Int32)) L) {μ ν : Mem} (hSim : Sim i μ ν) {H : Heap} {locs : List Loc} {ls : Array Slot} (hP1 : Px Lx (gB g g.2.2.1) μ H) (hP2 : Px Lm (gB g (g.2.2.1 + 96)) ν H) (hS : va_S (An g) s.heap H locs) (hl : lv_has ls 4 [(0, .ref b), (1, .ref (g.2.2.1 + 0)), (2, .ref (g.2.2.1 + 96 + 0)), (3, .int x3)])
    (kk : ∀ (μ' ν' : Mem) (H : Heap) (locs : List Loc), Sim (i + 1) μ' ν' → Px Lx (gB g g.2.2.1) μ' H → Px Lm (gB g (g.2.2.1 + 96)) ν' H → va_S (An g) s.heap H locs → W p l e room_1 s m #[Value.ref b] below meth c H locs 108 10362 (lw_Z below #[Value.ref b] s) (F0 m 1349 ls [])) : W p l e room_1 s m #[Value.ref b] below meth c H locs 108 10362 (lw_Z below #[Value.ref b] s) (F0 m 180 ls []) := by
  obtain ⟨hx, hb, hml, hown, hts, hX, hbl, hbase, hK⟩ := id C0
  have hbA : ¬ An g b := fun z => by change g.2.2.1 ≤ b at z; omega
  obtain ⟨r, μ', ν', h1, h2, hSim⟩ := O.1 i μ ν (xs (x3 + (1 : Int32)).toNatClampNeg) (xs (x3 + (2 : Int32)).toNatClampNeg) hSim hi
  refine lv_aload_n hx hb dL_law_180 rfl (lv_at hl 1 rfl) ?_
  refine lv_aload_n hx hb dL_law_181 rfl (lv_at hl 0 rfl) ?_
  refine lv_iload_n hx hb dL_law_182 rfl (lv_at hl 3 rfl) ?_
  refine lv_iconst (v := (1 : Int32)) hx hb dL_law_183 rfl ?_
  refine lv_iadd hx hb dL_law_184 ?_
  refine va_sld hx hb hX hbl hbA hS hi1 dL_law_185 ?_
  refine lv_aload_n hx hb dL_law_186 rfl (lv_at hl 0 rfl) ?_
  refine lv_iload_n hx hb dL_law_187 rfl (lv_at hl 3 rfl) ?_
  refine lv_iconst (v := (2 : Int32)) hx hb dL_law_188 rfl ?_
  refine lv_iadd hx hb dL_law_189 ?_
  refine va_sld hx hb hX hbl hbA hS hi2 dL_law_190 ?_
  refine l_call (Ly := Lx) (B := g.2.2.1) hx hb hml hown hts hK An_x (rest := []) (As := [.int (xs (x3 + (1 : Int32)).toNatClampNeg), .int (xs (x3 + (2 : Int32)).toNatClampNeg)]) (q := (RX9, TX9, 9)) (c_X9_meter l (gB g g.2.2.1) (xs (x3 + (1 : Int32)).toNatClampNeg) (xs (x3 + (2 : Int32)).toNatClampNeg) μ h1) q2_112 q2_109 q2_110 q2_111 q1_1 hd_X9_meter ⟨rfl, rfl⟩ ⟨Nat.le_of_ble_eq_true rfl, Nat.le_of_ble_eq_true rfl⟩ cx_0 (by decide) rfl hP1 hS hl.1 rfl rfl (Nat.le_of_ble_eq_true rfl) dL_law_191 ⟨Nat.le_of_ble_eq_true rfl, Nat.le_of_ble_eq_true rfl⟩ (fun H locs hQ hS hk => ?_)
  have hP2 := keep_m hP2 hk
  have hP1 := hQ
  refine lv_aload_n hx hb dL_law_194 rfl (lv_at hl 2 rfl) ?_
  refine lv_aload_n hx hb dL_law_195 rfl (lv_at hl 0 rfl) ?_
  refine lv_iload_n hx hb dL_law_196 rfl (lv_at hl 3 rfl) ?_
  refine lv_iconst (v := (1 : Int32)) hx hb dL_law_197 rfl ?_
  refine lv_iadd hx hb dL_law_198 ?_
  refine va_sld hx hb hX hbl hbA hS hi1 dL_law_199 ?_
  refine lv_aload_n hx hb dL_law_200 rfl (lv_at hl 0 rfl) ?_
  refine lv_iload_n hx hb dL_law_201 rfl (lv_at hl 3 rfl) ?_
  refine lv_iconst (v := (2 : Int32)) hx hb dL_law_202 rfl ?_
  refine lv_iadd hx hb dL_law_203 ?_
  refine va_sld hx hb hX hbl hbA hS hi2 dL_law_204 ?_
  refine l_call (Ly := Lm) (B := (g.2.2.1 + 96)) hx hb hml hown hts hK An_m (rest := [.int r]) (As := [.int (xs (x3 + (1 : Int32)).toNatClampNeg), .int (xs (x3 + (2 : Int32)).toNatClampNeg)]) (q := (RX10, TX10, 22)) (c_X10_meter l (gB g (g.2.2.1 + 96)) (xs (x3 + (1 : Int32)).toNatClampNeg) (xs (x3 + (2 : Int32)).toNatClampNeg) ν h2) q4_204 q4_201 q4_202 q4_203 q1_11 hd_X10_meter ⟨rfl, rfl⟩ ⟨Nat.le_of_ble_eq_true rfl, Nat.le_of_ble_eq_true rfl⟩ cm_0 (by decide) rfl hP2 hS hl.1 rfl rfl (Nat.le_of_ble_eq_true rfl) dL_law_205 ⟨Nat.le_of_ble_eq_true rfl, Nat.le_of_ble_eq_true rfl⟩ (fun H locs hQ hS hk => ?_)
  have hP1 := keep_x hP1 hk
  have hP2 := hQ
  refine lv_icmp_eq (tgt := 1349) hx hb dL_law_208 (by decide) (fun _ => ?_) (fun cc => absurd rfl cc)
  exact kk μ' ν' H locs hSim hP1 hP2 hS
set_option maxRecDepth 100000 in
set_option maxHeartbeats 4000000 in
theorem law_c1 {Sim : Nat → Mem → Mem → Prop} {g : Gx} {p : Program} {l : Launch} {e : Env} {s : State} {m : MethodId} {below : List Frame} {meth : Method} {c : Code} {b L : Nat} {xs : Nat → Int32} (C0 : LC g p s m c b L xs) (O : OpsOK Sim) {i : Nat} (hi : i < 512) {x3 : Int32} (hi1 : vp_in (x3 + (1 : Int32)) L) (hi2 : vp_in (x3 + (2 : Int32)) L) (hi3 : vp_in (x3 + (3 : Int32)) L) (hi4 : vp_in (x3 + (4 : Int32)) L) (hi5 : vp_in (x3 + (5 : Int32)) L) {μ ν : Mem} (hSim : Sim i μ ν) {H : Heap} {locs : List Loc} {ls : Array Slot} (hP1 : Px Lx (gB g g.2.2.1) μ H) (hP2 : Px Lm (gB g (g.2.2.1 + 96)) ν H) (hS : va_S (An g) s.heap H locs) (hl : lv_has ls 4 [(0, .ref b), (1, .ref (g.2.2.1 + 0)), (2, .ref (g.2.2.1 + 96 + 0)), (3, .int x3)])
    (kk : ∀ (μ' ν' : Mem) (H : Heap) (locs : List Loc), Sim (i + 1) μ' ν' → Px Lx (gB g g.2.2.1) μ' H → Px Lm (gB g (g.2.2.1 + 96)) ν' H → va_S (An g) s.heap H locs → W p l e room_1 s m #[Value.ref b] below meth c H locs 108 10362 (lw_Z below #[Value.ref b] s) (F0 m 1349 ls [])) : W p l e room_1 s m #[Value.ref b] below meth c H locs 108 10362 (lw_Z below #[Value.ref b] s) (F0 m 213 ls []) := by
  obtain ⟨hx, hb, hml, hown, hts, hX, hbl, hbase, hK⟩ := id C0
  have hbA : ¬ An g b := fun z => by change g.2.2.1 ≤ b at z; omega
  obtain ⟨r, μ', ν', h1, h2, hSim⟩ := O.2.1 i μ ν (xs (x3 + (1 : Int32)).toNatClampNeg) (xs (x3 + (2 : Int32)).toNatClampNeg) hSim hi
  refine lv_aload_n hx hb dL_law_213 rfl (lv_at hl 1 rfl) ?_
  refine lv_aload_n hx hb dL_law_214 rfl (lv_at hl 0 rfl) ?_
  refine lv_iload_n hx hb dL_law_215 rfl (lv_at hl 3 rfl) ?_
  refine lv_iconst (v := (1 : Int32)) hx hb dL_law_216 rfl ?_
  refine lv_iadd hx hb dL_law_217 ?_
  refine va_sld hx hb hX hbl hbA hS hi1 dL_law_218 ?_
  refine lv_aload_n hx hb dL_law_219 rfl (lv_at hl 0 rfl) ?_
  refine lv_iload_n hx hb dL_law_220 rfl (lv_at hl 3 rfl) ?_
  refine lv_iconst (v := (2 : Int32)) hx hb dL_law_221 rfl ?_
  refine lv_iadd hx hb dL_law_222 ?_
  refine va_sld hx hb hX hbl hbA hS hi2 dL_law_223 ?_
  refine l_call (Ly := Lx) (B := g.2.2.1) hx hb hml hown hts hK An_x (rest := []) (As := [.int (xs (x3 + (1 : Int32)).toNatClampNeg), .int (xs (x3 + (2 : Int32)).toNatClampNeg)]) (q := (RX9, TX9, 9)) (c_X9_as l (gB g g.2.2.1) (xs (x3 + (1 : Int32)).toNatClampNeg) (xs (x3 + (2 : Int32)).toNatClampNeg) μ h1) q2_139 q2_136 q2_137 q2_138 q1_1 hd_X9_as ⟨rfl, rfl⟩ ⟨Nat.le_of_ble_eq_true rfl, Nat.le_of_ble_eq_true rfl⟩ cx_0 (by decide) rfl hP1 hS hl.1 rfl rfl (Nat.le_of_ble_eq_true rfl) dL_law_224 ⟨Nat.le_of_ble_eq_true rfl, Nat.le_of_ble_eq_true rfl⟩ (fun H locs hQ hS hk => ?_)
  have hP2 := keep_m hP2 hk
  have hP1 := hQ
  refine lv_aload_n hx hb dL_law_227 rfl (lv_at hl 2 rfl) ?_
  refine lv_aload_n hx hb dL_law_228 rfl (lv_at hl 0 rfl) ?_
  refine lv_iload_n hx hb dL_law_229 rfl (lv_at hl 3 rfl) ?_
  refine lv_iconst (v := (1 : Int32)) hx hb dL_law_230 rfl ?_
  refine lv_iadd hx hb dL_law_231 ?_
  refine va_sld hx hb hX hbl hbA hS hi1 dL_law_232 ?_
  refine lv_aload_n hx hb dL_law_233 rfl (lv_at hl 0 rfl) ?_
  refine lv_iload_n hx hb dL_law_234 rfl (lv_at hl 3 rfl) ?_
  refine lv_iconst (v := (2 : Int32)) hx hb dL_law_235 rfl ?_
  refine lv_iadd hx hb dL_law_236 ?_
  refine va_sld hx hb hX hbl hbA hS hi2 dL_law_237 ?_
  refine l_call (Ly := Lm) (B := (g.2.2.1 + 96)) hx hb hml hown hts hK An_m (rest := [.int r]) (As := [.int (xs (x3 + (1 : Int32)).toNatClampNeg), .int (xs (x3 + (2 : Int32)).toNatClampNeg)]) (q := (RX10, TX10, 22)) (c_X10_as l (gB g (g.2.2.1 + 96)) (xs (x3 + (1 : Int32)).toNatClampNeg) (xs (x3 + (2 : Int32)).toNatClampNeg) ν h2) q4_227 q4_224 q4_225 q4_226 q1_11 hd_X10_as ⟨rfl, rfl⟩ ⟨Nat.le_of_ble_eq_true rfl, Nat.le_of_ble_eq_true rfl⟩ cm_0 (by decide) rfl hP2 hS hl.1 rfl rfl (Nat.le_of_ble_eq_true rfl) dL_law_238 ⟨Nat.le_of_ble_eq_true rfl, Nat.le_of_ble_eq_true rfl⟩ (fun H locs hQ hS hk => ?_)
  have hP1 := keep_x hP1 hk
  have hP2 := hQ
  refine lv_icmp_eq (tgt := 1349) hx hb dL_law_241 (by decide) (fun _ => ?_) (fun cc => absurd rfl cc)
  exact kk μ' ν' H locs hSim hP1 hP2 hS
set_option maxRecDepth 100000 in
set_option maxHeartbeats 4000000 in
theorem law_c2 {Sim : Nat → Mem → Mem → Prop} {g : Gx} {p : Program} {l : Launch} {e : Env} {s : State} {m : MethodId} {below : List Frame} {meth : Method} {c : Code} {b L : Nat} {xs : Nat → Int32} (C0 : LC g p s m c b L xs) (O : OpsOK Sim) {i : Nat} (hi : i < 512) {x3 : Int32} (hi1 : vp_in (x3 + (1 : Int32)) L) (hi2 : vp_in (x3 + (2 : Int32)) L) (hi3 : vp_in (x3 + (3 : Int32)) L) (hi4 : vp_in (x3 + (4 : Int32)) L) (hi5 : vp_in (x3 + (5 : Int32)) L) {μ ν : Mem} (hSim : Sim i μ ν) {H : Heap} {locs : List Loc} {ls : Array Slot} (hP1 : Px Lx (gB g g.2.2.1) μ H) (hP2 : Px Lm (gB g (g.2.2.1 + 96)) ν H) (hS : va_S (An g) s.heap H locs) (hl : lv_has ls 4 [(0, .ref b), (1, .ref (g.2.2.1 + 0)), (2, .ref (g.2.2.1 + 96 + 0)), (3, .int x3)])
    (kk : ∀ (μ' ν' : Mem) (H : Heap) (locs : List Loc), Sim (i + 1) μ' ν' → Px Lx (gB g g.2.2.1) μ' H → Px Lm (gB g (g.2.2.1 + 96)) ν' H → va_S (An g) s.heap H locs → W p l e room_1 s m #[Value.ref b] below meth c H locs 108 10362 (lw_Z below #[Value.ref b] s) (F0 m 1349 ls [])) : W p l e room_1 s m #[Value.ref b] below meth c H locs 108 10362 (lw_Z below #[Value.ref b] s) (F0 m 246 ls []) := by
  obtain ⟨hx, hb, hml, hown, hts, hX, hbl, hbase, hK⟩ := id C0
  have hbA : ¬ An g b := fun z => by change g.2.2.1 ≤ b at z; omega
  obtain ⟨r, μ', ν', h1, h2, hSim⟩ := O.2.2.1 i μ ν (xs (x3 + (1 : Int32)).toNatClampNeg) (xs (x3 + (2 : Int32)).toNatClampNeg) hSim hi
  refine lv_aload_n hx hb dL_law_246 rfl (lv_at hl 1 rfl) ?_
  refine lv_aload_n hx hb dL_law_247 rfl (lv_at hl 0 rfl) ?_
  refine lv_iload_n hx hb dL_law_248 rfl (lv_at hl 3 rfl) ?_
  refine lv_iconst (v := (1 : Int32)) hx hb dL_law_249 rfl ?_
  refine lv_iadd hx hb dL_law_250 ?_
  refine va_sld hx hb hX hbl hbA hS hi1 dL_law_251 ?_
  refine lv_aload_n hx hb dL_law_252 rfl (lv_at hl 0 rfl) ?_
  refine lv_iload_n hx hb dL_law_253 rfl (lv_at hl 3 rfl) ?_
  refine lv_iconst (v := (2 : Int32)) hx hb dL_law_254 rfl ?_
  refine lv_iadd hx hb dL_law_255 ?_
  refine va_sld hx hb hX hbl hbA hS hi2 dL_law_256 ?_
  refine l_call (Ly := Lx) (B := g.2.2.1) hx hb hml hown hts hK An_x (rest := []) (As := [.int (xs (x3 + (1 : Int32)).toNatClampNeg), .int (xs (x3 + (2 : Int32)).toNatClampNeg)]) (q := (RX9, TX9, 9)) (c_X9_meterIs l (gB g g.2.2.1) (xs (x3 + (1 : Int32)).toNatClampNeg) (xs (x3 + (2 : Int32)).toNatClampNeg) μ h1) q2_154 q2_151 q2_152 q2_153 q1_1 hd_X9_meterIs ⟨rfl, rfl⟩ ⟨Nat.le_of_ble_eq_true rfl, Nat.le_of_ble_eq_true rfl⟩ cx_0 (by decide) rfl hP1 hS hl.1 rfl rfl (Nat.le_of_ble_eq_true rfl) dL_law_257 ⟨Nat.le_of_ble_eq_true rfl, Nat.le_of_ble_eq_true rfl⟩ (fun H locs hQ hS hk => ?_)
  have hP2 := keep_m hP2 hk
  have hP1 := hQ
  refine lv_aload_n hx hb dL_law_260 rfl (lv_at hl 2 rfl) ?_
  refine lv_aload_n hx hb dL_law_261 rfl (lv_at hl 0 rfl) ?_
  refine lv_iload_n hx hb dL_law_262 rfl (lv_at hl 3 rfl) ?_
  refine lv_iconst (v := (1 : Int32)) hx hb dL_law_263 rfl ?_
  refine lv_iadd hx hb dL_law_264 ?_
  refine va_sld hx hb hX hbl hbA hS hi1 dL_law_265 ?_
  refine lv_aload_n hx hb dL_law_266 rfl (lv_at hl 0 rfl) ?_
  refine lv_iload_n hx hb dL_law_267 rfl (lv_at hl 3 rfl) ?_
  refine lv_iconst (v := (2 : Int32)) hx hb dL_law_268 rfl ?_
  refine lv_iadd hx hb dL_law_269 ?_
  refine va_sld hx hb hX hbl hbA hS hi2 dL_law_270 ?_
  refine l_call (Ly := Lm) (B := (g.2.2.1 + 96)) hx hb hml hown hts hK An_m (rest := [.int r]) (As := [.int (xs (x3 + (1 : Int32)).toNatClampNeg), .int (xs (x3 + (2 : Int32)).toNatClampNeg)]) (q := (RX10, TX10, 22)) (c_X10_meterIs l (gB g (g.2.2.1 + 96)) (xs (x3 + (1 : Int32)).toNatClampNeg) (xs (x3 + (2 : Int32)).toNatClampNeg) ν h2) q4_239 q4_236 q4_237 q4_238 q1_11 hd_X10_meterIs ⟨rfl, rfl⟩ ⟨Nat.le_of_ble_eq_true rfl, Nat.le_of_ble_eq_true rfl⟩ cm_0 (by decide) rfl hP2 hS hl.1 rfl rfl (Nat.le_of_ble_eq_true rfl) dL_law_271 ⟨Nat.le_of_ble_eq_true rfl, Nat.le_of_ble_eq_true rfl⟩ (fun H locs hQ hS hk => ?_)
  have hP1 := keep_x hP1 hk
  have hP2 := hQ
  refine lv_icmp_eq (tgt := 1349) hx hb dL_law_274 (by decide) (fun _ => ?_) (fun cc => absurd rfl cc)
  exact kk μ' ν' H locs hSim hP1 hP2 hS
set_option maxRecDepth 100000 in
set_option maxHeartbeats 4000000 in
theorem law_c3 {Sim : Nat → Mem → Mem → Prop} {g : Gx} {p : Program} {l : Launch} {e : Env} {s : State} {m : MethodId} {below : List Frame} {meth : Method} {c : Code} {b L : Nat} {xs : Nat → Int32} (C0 : LC g p s m c b L xs) (O : OpsOK Sim) {i : Nat} (hi : i < 512) {x3 : Int32} (hi1 : vp_in (x3 + (1 : Int32)) L) (hi2 : vp_in (x3 + (2 : Int32)) L) (hi3 : vp_in (x3 + (3 : Int32)) L) (hi4 : vp_in (x3 + (4 : Int32)) L) (hi5 : vp_in (x3 + (5 : Int32)) L) {μ ν : Mem} (hSim : Sim i μ ν) {H : Heap} {locs : List Loc} {ls : Array Slot} (hP1 : Px Lx (gB g g.2.2.1) μ H) (hP2 : Px Lm (gB g (g.2.2.1 + 96)) ν H) (hS : va_S (An g) s.heap H locs) (hl : lv_has ls 4 [(0, .ref b), (1, .ref (g.2.2.1 + 0)), (2, .ref (g.2.2.1 + 96 + 0)), (3, .int x3)])
    (kk : ∀ (μ' ν' : Mem) (H : Heap) (locs : List Loc), Sim (i + 1) μ' ν' → Px Lx (gB g g.2.2.1) μ' H → Px Lm (gB g (g.2.2.1 + 96)) ν' H → va_S (An g) s.heap H locs → W p l e room_1 s m #[Value.ref b] below meth c H locs 108 10362 (lw_Z below #[Value.ref b] s) (F0 m 1349 ls [])) : W p l e room_1 s m #[Value.ref b] below meth c H locs 108 10362 (lw_Z below #[Value.ref b] s) (F0 m 279 ls []) := by
  obtain ⟨hx, hb, hml, hown, hts, hX, hbl, hbase, hK⟩ := id C0
  have hbA : ¬ An g b := fun z => by change g.2.2.1 ≤ b at z; omega
  obtain ⟨r, μ', ν', h1, h2, hSim⟩ := O.2.2.2.1 i μ ν (xs (x3 + (1 : Int32)).toNatClampNeg) (xs (x3 + (2 : Int32)).toNatClampNeg) (xs (x3 + (3 : Int32)).toNatClampNeg) hSim hi
  refine lv_aload_n hx hb dL_law_279 rfl (lv_at hl 1 rfl) ?_
  refine lv_aload_n hx hb dL_law_280 rfl (lv_at hl 0 rfl) ?_
  refine lv_iload_n hx hb dL_law_281 rfl (lv_at hl 3 rfl) ?_
  refine lv_iconst (v := (1 : Int32)) hx hb dL_law_282 rfl ?_
  refine lv_iadd hx hb dL_law_283 ?_
  refine va_sld hx hb hX hbl hbA hS hi1 dL_law_284 ?_
  refine lv_aload_n hx hb dL_law_285 rfl (lv_at hl 0 rfl) ?_
  refine lv_iload_n hx hb dL_law_286 rfl (lv_at hl 3 rfl) ?_
  refine lv_iconst (v := (2 : Int32)) hx hb dL_law_287 rfl ?_
  refine lv_iadd hx hb dL_law_288 ?_
  refine va_sld hx hb hX hbl hbA hS hi2 dL_law_289 ?_
  refine lv_aload_n hx hb dL_law_290 rfl (lv_at hl 0 rfl) ?_
  refine lv_iload_n hx hb dL_law_291 rfl (lv_at hl 3 rfl) ?_
  refine lv_iconst (v := (3 : Int32)) hx hb dL_law_292 rfl ?_
  refine lv_iadd hx hb dL_law_293 ?_
  refine va_sld hx hb hX hbl hbA hS hi3 dL_law_294 ?_
  refine l_call (Ly := Lx) (B := g.2.2.1) hx hb hml hown hts hK An_x (rest := []) (As := [.int (xs (x3 + (1 : Int32)).toNatClampNeg), .int (xs (x3 + (2 : Int32)).toNatClampNeg), .int (xs (x3 + (3 : Int32)).toNatClampNeg)]) (q := (RX9, TX9, 9)) (c_X9_load l (gB g g.2.2.1) (xs (x3 + (1 : Int32)).toNatClampNeg) (xs (x3 + (2 : Int32)).toNatClampNeg) (xs (x3 + (3 : Int32)).toNatClampNeg) μ h1) q2_171 q2_168 q2_169 q2_170 q1_1 hd_X9_load ⟨rfl, rfl⟩ ⟨Nat.le_of_ble_eq_true rfl, Nat.le_of_ble_eq_true rfl⟩ cx_0 (by decide) rfl hP1 hS hl.1 rfl rfl (Nat.le_of_ble_eq_true rfl) dL_law_295 ⟨Nat.le_of_ble_eq_true rfl, Nat.le_of_ble_eq_true rfl⟩ (fun H locs hQ hS hk => ?_)
  have hP2 := keep_m hP2 hk
  have hP1 := hQ
  refine lv_aload_n hx hb dL_law_298 rfl (lv_at hl 2 rfl) ?_
  refine lv_aload_n hx hb dL_law_299 rfl (lv_at hl 0 rfl) ?_
  refine lv_iload_n hx hb dL_law_300 rfl (lv_at hl 3 rfl) ?_
  refine lv_iconst (v := (1 : Int32)) hx hb dL_law_301 rfl ?_
  refine lv_iadd hx hb dL_law_302 ?_
  refine va_sld hx hb hX hbl hbA hS hi1 dL_law_303 ?_
  refine lv_aload_n hx hb dL_law_304 rfl (lv_at hl 0 rfl) ?_
  refine lv_iload_n hx hb dL_law_305 rfl (lv_at hl 3 rfl) ?_
  refine lv_iconst (v := (2 : Int32)) hx hb dL_law_306 rfl ?_
  refine lv_iadd hx hb dL_law_307 ?_
  refine va_sld hx hb hX hbl hbA hS hi2 dL_law_308 ?_
  refine lv_aload_n hx hb dL_law_309 rfl (lv_at hl 0 rfl) ?_
  refine lv_iload_n hx hb dL_law_310 rfl (lv_at hl 3 rfl) ?_
  refine lv_iconst (v := (3 : Int32)) hx hb dL_law_311 rfl ?_
  refine lv_iadd hx hb dL_law_312 ?_
  refine va_sld hx hb hX hbl hbA hS hi3 dL_law_313 ?_
  refine l_call (Ly := Lm) (B := (g.2.2.1 + 96)) hx hb hml hown hts hK An_m (rest := [.int r]) (As := [.int (xs (x3 + (1 : Int32)).toNatClampNeg), .int (xs (x3 + (2 : Int32)).toNatClampNeg), .int (xs (x3 + (3 : Int32)).toNatClampNeg)]) (q := (RX10, TX10, 22)) (c_X10_load l (gB g (g.2.2.1 + 96)) (xs (x3 + (1 : Int32)).toNatClampNeg) (xs (x3 + (2 : Int32)).toNatClampNeg) (xs (x3 + (3 : Int32)).toNatClampNeg) ν h2) q5_15 q5_12 q5_13 q5_14 q1_11 hd_X10_load ⟨rfl, rfl⟩ ⟨Nat.le_of_ble_eq_true rfl, Nat.le_of_ble_eq_true rfl⟩ cm_0 (by decide) rfl hP2 hS hl.1 rfl rfl (Nat.le_of_ble_eq_true rfl) dL_law_314 ⟨Nat.le_of_ble_eq_true rfl, Nat.le_of_ble_eq_true rfl⟩ (fun H locs hQ hS hk => ?_)
  have hP1 := keep_x hP1 hk
  have hP2 := hQ
  refine lv_icmp_eq (tgt := 1349) hx hb dL_law_317 (by decide) (fun _ => ?_) (fun cc => absurd rfl cc)
  exact kk μ' ν' H locs hSim hP1 hP2 hS
set_option maxRecDepth 100000 in
set_option maxHeartbeats 4000000 in
theorem law_c4 {Sim : Nat → Mem → Mem → Prop} {g : Gx} {p : Program} {l : Launch} {e : Env} {s : State} {m : MethodId} {below : List Frame} {meth : Method} {c : Code} {b L : Nat} {xs : Nat → Int32} (C0 : LC g p s m c b L xs) (O : OpsOK Sim) {i : Nat} (hi : i < 512) {x3 : Int32} (hi1 : vp_in (x3 + (1 : Int32)) L) (hi2 : vp_in (x3 + (2 : Int32)) L) (hi3 : vp_in (x3 + (3 : Int32)) L) (hi4 : vp_in (x3 + (4 : Int32)) L) (hi5 : vp_in (x3 + (5 : Int32)) L) {μ ν : Mem} (hSim : Sim i μ ν) {H : Heap} {locs : List Loc} {ls : Array Slot} (hP1 : Px Lx (gB g g.2.2.1) μ H) (hP2 : Px Lm (gB g (g.2.2.1 + 96)) ν H) (hS : va_S (An g) s.heap H locs) (hl : lv_has ls 4 [(0, .ref b), (1, .ref (g.2.2.1 + 0)), (2, .ref (g.2.2.1 + 96 + 0)), (3, .int x3)])
    (kk : ∀ (μ' ν' : Mem) (H : Heap) (locs : List Loc), Sim (i + 1) μ' ν' → Px Lx (gB g g.2.2.1) μ' H → Px Lm (gB g (g.2.2.1 + 96)) ν' H → va_S (An g) s.heap H locs → W p l e room_1 s m #[Value.ref b] below meth c H locs 108 10362 (lw_Z below #[Value.ref b] s) (F0 m 1349 ls [])) : W p l e room_1 s m #[Value.ref b] below meth c H locs 108 10362 (lw_Z below #[Value.ref b] s) (F0 m 322 ls []) := by
  obtain ⟨hx, hb, hml, hown, hts, hX, hbl, hbase, hK⟩ := id C0
  have hbA : ¬ An g b := fun z => by change g.2.2.1 ≤ b at z; omega
  obtain ⟨r, μ', ν', h1, h2, hSim⟩ := O.2.2.2.2.1 i μ ν (xs (x3 + (1 : Int32)).toNatClampNeg) (xs (x3 + (2 : Int32)).toNatClampNeg) hSim hi
  refine lv_aload_n hx hb dL_law_322 rfl (lv_at hl 1 rfl) ?_
  refine lv_aload_n hx hb dL_law_323 rfl (lv_at hl 0 rfl) ?_
  refine lv_iload_n hx hb dL_law_324 rfl (lv_at hl 3 rfl) ?_
  refine lv_iconst (v := (1 : Int32)) hx hb dL_law_325 rfl ?_
  refine lv_iadd hx hb dL_law_326 ?_
  refine va_sld hx hb hX hbl hbA hS hi1 dL_law_327 ?_
  refine lv_aload_n hx hb dL_law_328 rfl (lv_at hl 0 rfl) ?_
  refine lv_iload_n hx hb dL_law_329 rfl (lv_at hl 3 rfl) ?_
  refine lv_iconst (v := (2 : Int32)) hx hb dL_law_330 rfl ?_
  refine lv_iadd hx hb dL_law_331 ?_
  refine va_sld hx hb hX hbl hbA hS hi2 dL_law_332 ?_
  refine l_call (Ly := Lx) (B := g.2.2.1) hx hb hml hown hts hK An_x (rest := []) (As := [.int (xs (x3 + (1 : Int32)).toNatClampNeg), .int (xs (x3 + (2 : Int32)).toNatClampNeg)]) (q := (RX9, TX9, 9)) (c_X9_owe l (gB g g.2.2.1) (xs (x3 + (1 : Int32)).toNatClampNeg) (xs (x3 + (2 : Int32)).toNatClampNeg) μ h1) q2_178 q2_175 q2_176 q2_177 q1_1 hd_X9_owe ⟨rfl, rfl⟩ ⟨Nat.le_of_ble_eq_true rfl, Nat.le_of_ble_eq_true rfl⟩ cx_0 (by decide) rfl hP1 hS hl.1 rfl rfl (Nat.le_of_ble_eq_true rfl) dL_law_333 ⟨Nat.le_of_ble_eq_true rfl, Nat.le_of_ble_eq_true rfl⟩ (fun H locs hQ hS hk => ?_)
  have hP2 := keep_m hP2 hk
  have hP1 := hQ
  refine lv_aload_n hx hb dL_law_336 rfl (lv_at hl 2 rfl) ?_
  refine lv_aload_n hx hb dL_law_337 rfl (lv_at hl 0 rfl) ?_
  refine lv_iload_n hx hb dL_law_338 rfl (lv_at hl 3 rfl) ?_
  refine lv_iconst (v := (1 : Int32)) hx hb dL_law_339 rfl ?_
  refine lv_iadd hx hb dL_law_340 ?_
  refine va_sld hx hb hX hbl hbA hS hi1 dL_law_341 ?_
  refine lv_aload_n hx hb dL_law_342 rfl (lv_at hl 0 rfl) ?_
  refine lv_iload_n hx hb dL_law_343 rfl (lv_at hl 3 rfl) ?_
  refine lv_iconst (v := (2 : Int32)) hx hb dL_law_344 rfl ?_
  refine lv_iadd hx hb dL_law_345 ?_
  refine va_sld hx hb hX hbl hbA hS hi2 dL_law_346 ?_
  refine l_call (Ly := Lm) (B := (g.2.2.1 + 96)) hx hb hml hown hts hK An_m (rest := [.int r]) (As := [.int (xs (x3 + (1 : Int32)).toNatClampNeg), .int (xs (x3 + (2 : Int32)).toNatClampNeg)]) (q := (RX10, TX10, 22)) (c_X10_owe l (gB g (g.2.2.1 + 96)) (xs (x3 + (1 : Int32)).toNatClampNeg) (xs (x3 + (2 : Int32)).toNatClampNeg) ν h2) q5_19 q5_16 q5_17 q5_18 q1_11 hd_X10_owe ⟨rfl, rfl⟩ ⟨Nat.le_of_ble_eq_true rfl, Nat.le_of_ble_eq_true rfl⟩ cm_0 (by decide) rfl hP2 hS hl.1 rfl rfl (Nat.le_of_ble_eq_true rfl) dL_law_347 ⟨Nat.le_of_ble_eq_true rfl, Nat.le_of_ble_eq_true rfl⟩ (fun H locs hQ hS hk => ?_)
  have hP1 := keep_x hP1 hk
  have hP2 := hQ
  refine lv_icmp_eq (tgt := 1349) hx hb dL_law_350 (by decide) (fun _ => ?_) (fun cc => absurd rfl cc)
  exact kk μ' ν' H locs hSim hP1 hP2 hS
set_option maxRecDepth 100000 in
set_option maxHeartbeats 4000000 in
theorem law_c5 {Sim : Nat → Mem → Mem → Prop} {g : Gx} {p : Program} {l : Launch} {e : Env} {s : State} {m : MethodId} {below : List Frame} {meth : Method} {c : Code} {b L : Nat} {xs : Nat → Int32} (C0 : LC g p s m c b L xs) (O : OpsOK Sim) {i : Nat} (hi : i < 512) {x3 : Int32} (hi1 : vp_in (x3 + (1 : Int32)) L) (hi2 : vp_in (x3 + (2 : Int32)) L) (hi3 : vp_in (x3 + (3 : Int32)) L) (hi4 : vp_in (x3 + (4 : Int32)) L) (hi5 : vp_in (x3 + (5 : Int32)) L) {μ ν : Mem} (hSim : Sim i μ ν) {H : Heap} {locs : List Loc} {ls : Array Slot} (hP1 : Px Lx (gB g g.2.2.1) μ H) (hP2 : Px Lm (gB g (g.2.2.1 + 96)) ν H) (hS : va_S (An g) s.heap H locs) (hl : lv_has ls 4 [(0, .ref b), (1, .ref (g.2.2.1 + 0)), (2, .ref (g.2.2.1 + 96 + 0)), (3, .int x3)])
    (kk : ∀ (μ' ν' : Mem) (H : Heap) (locs : List Loc), Sim (i + 1) μ' ν' → Px Lx (gB g g.2.2.1) μ' H → Px Lm (gB g (g.2.2.1 + 96)) ν' H → va_S (An g) s.heap H locs → W p l e room_1 s m #[Value.ref b] below meth c H locs 108 10362 (lw_Z below #[Value.ref b] s) (F0 m 1349 ls [])) : W p l e room_1 s m #[Value.ref b] below meth c H locs 108 10362 (lw_Z below #[Value.ref b] s) (F0 m 355 ls []) := by
  obtain ⟨hx, hb, hml, hown, hts, hX, hbl, hbase, hK⟩ := id C0
  have hbA : ¬ An g b := fun z => by change g.2.2.1 ≤ b at z; omega
  obtain ⟨r, μ', ν', h1, h2, hSim⟩ := O.2.2.2.2.2.1 i μ ν (xs (x3 + (1 : Int32)).toNatClampNeg) (xs (x3 + (2 : Int32)).toNatClampNeg) hSim hi
  refine lv_aload_n hx hb dL_law_355 rfl (lv_at hl 1 rfl) ?_
  refine lv_aload_n hx hb dL_law_356 rfl (lv_at hl 0 rfl) ?_
  refine lv_iload_n hx hb dL_law_357 rfl (lv_at hl 3 rfl) ?_
  refine lv_iconst (v := (1 : Int32)) hx hb dL_law_358 rfl ?_
  refine lv_iadd hx hb dL_law_359 ?_
  refine va_sld hx hb hX hbl hbA hS hi1 dL_law_360 ?_
  refine lv_aload_n hx hb dL_law_361 rfl (lv_at hl 0 rfl) ?_
  refine lv_iload_n hx hb dL_law_362 rfl (lv_at hl 3 rfl) ?_
  refine lv_iconst (v := (2 : Int32)) hx hb dL_law_363 rfl ?_
  refine lv_iadd hx hb dL_law_364 ?_
  refine va_sld hx hb hX hbl hbA hS hi2 dL_law_365 ?_
  refine l_call (Ly := Lx) (B := g.2.2.1) hx hb hml hown hts hK An_x (rest := []) (As := [.int (xs (x3 + (1 : Int32)).toNatClampNeg), .int (xs (x3 + (2 : Int32)).toNatClampNeg)]) (q := (RX9, TX9, 9)) (c_X9_part l (gB g g.2.2.1) (xs (x3 + (1 : Int32)).toNatClampNeg) (xs (x3 + (2 : Int32)).toNatClampNeg) μ h1) q2_186 q2_183 q2_184 q2_185 q1_1 hd_X9_part ⟨rfl, rfl⟩ ⟨Nat.le_of_ble_eq_true rfl, Nat.le_of_ble_eq_true rfl⟩ cx_0 (by decide) rfl hP1 hS hl.1 rfl rfl (Nat.le_of_ble_eq_true rfl) dL_law_366 ⟨Nat.le_of_ble_eq_true rfl, Nat.le_of_ble_eq_true rfl⟩ (fun H locs hQ hS hk => ?_)
  have hP2 := keep_m hP2 hk
  have hP1 := hQ
  refine lv_aload_n hx hb dL_law_369 rfl (lv_at hl 2 rfl) ?_
  refine lv_aload_n hx hb dL_law_370 rfl (lv_at hl 0 rfl) ?_
  refine lv_iload_n hx hb dL_law_371 rfl (lv_at hl 3 rfl) ?_
  refine lv_iconst (v := (1 : Int32)) hx hb dL_law_372 rfl ?_
  refine lv_iadd hx hb dL_law_373 ?_
  refine va_sld hx hb hX hbl hbA hS hi1 dL_law_374 ?_
  refine lv_aload_n hx hb dL_law_375 rfl (lv_at hl 0 rfl) ?_
  refine lv_iload_n hx hb dL_law_376 rfl (lv_at hl 3 rfl) ?_
  refine lv_iconst (v := (2 : Int32)) hx hb dL_law_377 rfl ?_
  refine lv_iadd hx hb dL_law_378 ?_
  refine va_sld hx hb hX hbl hbA hS hi2 dL_law_379 ?_
  refine l_call (Ly := Lm) (B := (g.2.2.1 + 96)) hx hb hml hown hts hK An_m (rest := [.int r]) (As := [.int (xs (x3 + (1 : Int32)).toNatClampNeg), .int (xs (x3 + (2 : Int32)).toNatClampNeg)]) (q := (RX10, TX10, 22)) (c_X10_part l (gB g (g.2.2.1 + 96)) (xs (x3 + (1 : Int32)).toNatClampNeg) (xs (x3 + (2 : Int32)).toNatClampNeg) ν h2) q5_28 q5_25 q5_26 q5_27 q1_11 hd_X10_part ⟨rfl, rfl⟩ ⟨Nat.le_of_ble_eq_true rfl, Nat.le_of_ble_eq_true rfl⟩ cm_0 (by decide) rfl hP2 hS hl.1 rfl rfl (Nat.le_of_ble_eq_true rfl) dL_law_380 ⟨Nat.le_of_ble_eq_true rfl, Nat.le_of_ble_eq_true rfl⟩ (fun H locs hQ hS hk => ?_)
  have hP1 := keep_x hP1 hk
  have hP2 := hQ
  refine lv_icmp_eq (tgt := 1349) hx hb dL_law_383 (by decide) (fun _ => ?_) (fun cc => absurd rfl cc)
  exact kk μ' ν' H locs hSim hP1 hP2 hS
set_option maxRecDepth 100000 in
set_option maxHeartbeats 4000000 in
theorem law_c6 {Sim : Nat → Mem → Mem → Prop} {g : Gx} {p : Program} {l : Launch} {e : Env} {s : State} {m : MethodId} {below : List Frame} {meth : Method} {c : Code} {b L : Nat} {xs : Nat → Int32} (C0 : LC g p s m c b L xs) (O : OpsOK Sim) {i : Nat} (hi : i < 512) {x3 : Int32} (hi1 : vp_in (x3 + (1 : Int32)) L) (hi2 : vp_in (x3 + (2 : Int32)) L) (hi3 : vp_in (x3 + (3 : Int32)) L) (hi4 : vp_in (x3 + (4 : Int32)) L) (hi5 : vp_in (x3 + (5 : Int32)) L) {μ ν : Mem} (hSim : Sim i μ ν) {H : Heap} {locs : List Loc} {ls : Array Slot} (hP1 : Px Lx (gB g g.2.2.1) μ H) (hP2 : Px Lm (gB g (g.2.2.1 + 96)) ν H) (hS : va_S (An g) s.heap H locs) (hl : lv_has ls 4 [(0, .ref b), (1, .ref (g.2.2.1 + 0)), (2, .ref (g.2.2.1 + 96 + 0)), (3, .int x3)])
    (kk : ∀ (μ' ν' : Mem) (H : Heap) (locs : List Loc), Sim (i + 1) μ' ν' → Px Lx (gB g g.2.2.1) μ' H → Px Lm (gB g (g.2.2.1 + 96)) ν' H → va_S (An g) s.heap H locs → W p l e room_1 s m #[Value.ref b] below meth c H locs 108 10362 (lw_Z below #[Value.ref b] s) (F0 m 1349 ls [])) : W p l e room_1 s m #[Value.ref b] below meth c H locs 108 10362 (lw_Z below #[Value.ref b] s) (F0 m 388 ls []) := by
  obtain ⟨hx, hb, hml, hown, hts, hX, hbl, hbase, hK⟩ := id C0
  have hbA : ¬ An g b := fun z => by change g.2.2.1 ≤ b at z; omega
  obtain ⟨r, μ', ν', h1, h2, hSim⟩ := O.2.2.2.2.2.2.1 i μ ν (xs (x3 + (1 : Int32)).toNatClampNeg) hSim hi
  refine lv_aload_n hx hb dL_law_388 rfl (lv_at hl 1 rfl) ?_
  refine lv_aload_n hx hb dL_law_389 rfl (lv_at hl 0 rfl) ?_
  refine lv_iload_n hx hb dL_law_390 rfl (lv_at hl 3 rfl) ?_
  refine lv_iconst (v := (1 : Int32)) hx hb dL_law_391 rfl ?_
  refine lv_iadd hx hb dL_law_392 ?_
  refine va_sld hx hb hX hbl hbA hS hi1 dL_law_393 ?_
  refine l_call (Ly := Lx) (B := g.2.2.1) hx hb hml hown hts hK An_x (rest := []) (As := [.int (xs (x3 + (1 : Int32)).toNatClampNeg)]) (q := (RX9, TX9, 9)) (c_X9_moveIn l (gB g g.2.2.1) (xs (x3 + (1 : Int32)).toNatClampNeg) μ h1) q2_193 q2_190 q2_191 q2_192 q1_1 hd_X9_moveIn ⟨rfl, rfl⟩ ⟨Nat.le_of_ble_eq_true rfl, Nat.le_of_ble_eq_true rfl⟩ cx_0 (by decide) rfl hP1 hS hl.1 rfl rfl (Nat.le_of_ble_eq_true rfl) dL_law_394 ⟨Nat.le_of_ble_eq_true rfl, Nat.le_of_ble_eq_true rfl⟩ (fun H locs hQ hS hk => ?_)
  have hP2 := keep_m hP2 hk
  have hP1 := hQ
  refine lv_aload_n hx hb dL_law_397 rfl (lv_at hl 2 rfl) ?_
  refine lv_aload_n hx hb dL_law_398 rfl (lv_at hl 0 rfl) ?_
  refine lv_iload_n hx hb dL_law_399 rfl (lv_at hl 3 rfl) ?_
  refine lv_iconst (v := (1 : Int32)) hx hb dL_law_400 rfl ?_
  refine lv_iadd hx hb dL_law_401 ?_
  refine va_sld hx hb hX hbl hbA hS hi1 dL_law_402 ?_
  refine l_call (Ly := Lm) (B := (g.2.2.1 + 96)) hx hb hml hown hts hK An_m (rest := [.int r]) (As := [.int (xs (x3 + (1 : Int32)).toNatClampNeg)]) (q := (RX10, TX10, 22)) (c_X10_moveIn l (gB g (g.2.2.1 + 96)) (xs (x3 + (1 : Int32)).toNatClampNeg) ν h2) q5_32 q5_29 q5_30 q5_31 q1_11 hd_X10_moveIn ⟨rfl, rfl⟩ ⟨Nat.le_of_ble_eq_true rfl, Nat.le_of_ble_eq_true rfl⟩ cm_0 (by decide) rfl hP2 hS hl.1 rfl rfl (Nat.le_of_ble_eq_true rfl) dL_law_403 ⟨Nat.le_of_ble_eq_true rfl, Nat.le_of_ble_eq_true rfl⟩ (fun H locs hQ hS hk => ?_)
  have hP1 := keep_x hP1 hk
  have hP2 := hQ
  refine lv_icmp_eq (tgt := 1349) hx hb dL_law_406 (by decide) (fun _ => ?_) (fun cc => absurd rfl cc)
  exact kk μ' ν' H locs hSim hP1 hP2 hS
set_option maxRecDepth 100000 in
set_option maxHeartbeats 4000000 in
theorem law_c7 {Sim : Nat → Mem → Mem → Prop} {g : Gx} {p : Program} {l : Launch} {e : Env} {s : State} {m : MethodId} {below : List Frame} {meth : Method} {c : Code} {b L : Nat} {xs : Nat → Int32} (C0 : LC g p s m c b L xs) (O : OpsOK Sim) {i : Nat} (hi : i < 512) {x3 : Int32} (hi1 : vp_in (x3 + (1 : Int32)) L) (hi2 : vp_in (x3 + (2 : Int32)) L) (hi3 : vp_in (x3 + (3 : Int32)) L) (hi4 : vp_in (x3 + (4 : Int32)) L) (hi5 : vp_in (x3 + (5 : Int32)) L) {μ ν : Mem} (hSim : Sim i μ ν) {H : Heap} {locs : List Loc} {ls : Array Slot} (hP1 : Px Lx (gB g g.2.2.1) μ H) (hP2 : Px Lm (gB g (g.2.2.1 + 96)) ν H) (hS : va_S (An g) s.heap H locs) (hl : lv_has ls 4 [(0, .ref b), (1, .ref (g.2.2.1 + 0)), (2, .ref (g.2.2.1 + 96 + 0)), (3, .int x3)])
    (kk : ∀ (μ' ν' : Mem) (H : Heap) (locs : List Loc), Sim (i + 1) μ' ν' → Px Lx (gB g g.2.2.1) μ' H → Px Lm (gB g (g.2.2.1 + 96)) ν' H → va_S (An g) s.heap H locs → W p l e room_1 s m #[Value.ref b] below meth c H locs 108 10362 (lw_Z below #[Value.ref b] s) (F0 m 1349 ls [])) : W p l e room_1 s m #[Value.ref b] below meth c H locs 108 10362 (lw_Z below #[Value.ref b] s) (F0 m 411 ls []) := by
  obtain ⟨hx, hb, hml, hown, hts, hX, hbl, hbase, hK⟩ := id C0
  have hbA : ¬ An g b := fun z => by change g.2.2.1 ≤ b at z; omega
  obtain ⟨r, μ', ν', h1, h2, hSim⟩ := O.2.2.2.2.2.2.2.1 i μ ν (xs (x3 + (1 : Int32)).toNatClampNeg) hSim hi
  refine lv_aload_n hx hb dL_law_411 rfl (lv_at hl 1 rfl) ?_
  refine lv_aload_n hx hb dL_law_412 rfl (lv_at hl 0 rfl) ?_
  refine lv_iload_n hx hb dL_law_413 rfl (lv_at hl 3 rfl) ?_
  refine lv_iconst (v := (1 : Int32)) hx hb dL_law_414 rfl ?_
  refine lv_iadd hx hb dL_law_415 ?_
  refine va_sld hx hb hX hbl hbA hS hi1 dL_law_416 ?_
  refine l_call (Ly := Lx) (B := g.2.2.1) hx hb hml hown hts hK An_x (rest := []) (As := [.int (xs (x3 + (1 : Int32)).toNatClampNeg)]) (q := (RX9, TX9, 9)) (c_X9_force l (gB g g.2.2.1) (xs (x3 + (1 : Int32)).toNatClampNeg) μ h1) q2_200 q2_197 q2_198 q2_199 q1_1 hd_X9_force ⟨rfl, rfl⟩ ⟨Nat.le_of_ble_eq_true rfl, Nat.le_of_ble_eq_true rfl⟩ cx_0 (by decide) rfl hP1 hS hl.1 rfl rfl (Nat.le_of_ble_eq_true rfl) dL_law_417 ⟨Nat.le_of_ble_eq_true rfl, Nat.le_of_ble_eq_true rfl⟩ (fun H locs hQ hS hk => ?_)
  have hP2 := keep_m hP2 hk
  have hP1 := hQ
  refine lv_aload_n hx hb dL_law_420 rfl (lv_at hl 2 rfl) ?_
  refine lv_aload_n hx hb dL_law_421 rfl (lv_at hl 0 rfl) ?_
  refine lv_iload_n hx hb dL_law_422 rfl (lv_at hl 3 rfl) ?_
  refine lv_iconst (v := (1 : Int32)) hx hb dL_law_423 rfl ?_
  refine lv_iadd hx hb dL_law_424 ?_
  refine va_sld hx hb hX hbl hbA hS hi1 dL_law_425 ?_
  refine l_call (Ly := Lm) (B := (g.2.2.1 + 96)) hx hb hml hown hts hK An_m (rest := [.int r]) (As := [.int (xs (x3 + (1 : Int32)).toNatClampNeg)]) (q := (RX10, TX10, 22)) (c_X10_force l (gB g (g.2.2.1 + 96)) (xs (x3 + (1 : Int32)).toNatClampNeg) ν h2) q5_36 q5_33 q5_34 q5_35 q1_11 hd_X10_force ⟨rfl, rfl⟩ ⟨Nat.le_of_ble_eq_true rfl, Nat.le_of_ble_eq_true rfl⟩ cm_0 (by decide) rfl hP2 hS hl.1 rfl rfl (Nat.le_of_ble_eq_true rfl) dL_law_426 ⟨Nat.le_of_ble_eq_true rfl, Nat.le_of_ble_eq_true rfl⟩ (fun H locs hQ hS hk => ?_)
  have hP1 := keep_x hP1 hk
  have hP2 := hQ
  refine lv_icmp_eq (tgt := 1349) hx hb dL_law_429 (by decide) (fun _ => ?_) (fun cc => absurd rfl cc)
  exact kk μ' ν' H locs hSim hP1 hP2 hS
set_option maxRecDepth 100000 in
set_option maxHeartbeats 4000000 in
theorem law_c8 {Sim : Nat → Mem → Mem → Prop} {g : Gx} {p : Program} {l : Launch} {e : Env} {s : State} {m : MethodId} {below : List Frame} {meth : Method} {c : Code} {b L : Nat} {xs : Nat → Int32} (C0 : LC g p s m c b L xs) (O : OpsOK Sim) {i : Nat} (hi : i < 512) {x3 : Int32} (hi1 : vp_in (x3 + (1 : Int32)) L) (hi2 : vp_in (x3 + (2 : Int32)) L) (hi3 : vp_in (x3 + (3 : Int32)) L) (hi4 : vp_in (x3 + (4 : Int32)) L) (hi5 : vp_in (x3 + (5 : Int32)) L) {μ ν : Mem} (hSim : Sim i μ ν) {H : Heap} {locs : List Loc} {ls : Array Slot} (hP1 : Px Lx (gB g g.2.2.1) μ H) (hP2 : Px Lm (gB g (g.2.2.1 + 96)) ν H) (hS : va_S (An g) s.heap H locs) (hl : lv_has ls 4 [(0, .ref b), (1, .ref (g.2.2.1 + 0)), (2, .ref (g.2.2.1 + 96 + 0)), (3, .int x3)])
    (kk : ∀ (μ' ν' : Mem) (H : Heap) (locs : List Loc), Sim (i + 1) μ' ν' → Px Lx (gB g g.2.2.1) μ' H → Px Lm (gB g (g.2.2.1 + 96)) ν' H → va_S (An g) s.heap H locs → W p l e room_1 s m #[Value.ref b] below meth c H locs 108 10362 (lw_Z below #[Value.ref b] s) (F0 m 1349 ls [])) : W p l e room_1 s m #[Value.ref b] below meth c H locs 108 10362 (lw_Z below #[Value.ref b] s) (F0 m 434 ls []) := by
  obtain ⟨hx, hb, hml, hown, hts, hX, hbl, hbase, hK⟩ := id C0
  have hbA : ¬ An g b := fun z => by change g.2.2.1 ≤ b at z; omega
  obtain ⟨r, μ', ν', h1, h2, hSim⟩ := O.2.2.2.2.2.2.2.2.1 i μ ν (xs (x3 + (1 : Int32)).toNatClampNeg) hSim hi
  refine lv_aload_n hx hb dL_law_434 rfl (lv_at hl 1 rfl) ?_
  refine lv_aload_n hx hb dL_law_435 rfl (lv_at hl 0 rfl) ?_
  refine lv_iload_n hx hb dL_law_436 rfl (lv_at hl 3 rfl) ?_
  refine lv_iconst (v := (1 : Int32)) hx hb dL_law_437 rfl ?_
  refine lv_iadd hx hb dL_law_438 ?_
  refine va_sld hx hb hX hbl hbA hS hi1 dL_law_439 ?_
  refine l_call (Ly := Lx) (B := g.2.2.1) hx hb hml hown hts hK An_x (rest := []) (As := [.int (xs (x3 + (1 : Int32)).toNatClampNeg)]) (q := (RX9, TX9, 9)) (c_X9_press l (gB g g.2.2.1) (xs (x3 + (1 : Int32)).toNatClampNeg) μ h1) q2_223 q2_220 q2_221 q2_222 q1_1 hd_X9_press ⟨rfl, rfl⟩ ⟨Nat.le_of_ble_eq_true rfl, Nat.le_of_ble_eq_true rfl⟩ cx_0 (by decide) rfl hP1 hS hl.1 rfl rfl (Nat.le_of_ble_eq_true rfl) dL_law_440 ⟨Nat.le_of_ble_eq_true rfl, Nat.le_of_ble_eq_true rfl⟩ (fun H locs hQ hS hk => ?_)
  have hP2 := keep_m hP2 hk
  have hP1 := hQ
  refine lv_aload_n hx hb dL_law_443 rfl (lv_at hl 2 rfl) ?_
  refine lv_aload_n hx hb dL_law_444 rfl (lv_at hl 0 rfl) ?_
  refine lv_iload_n hx hb dL_law_445 rfl (lv_at hl 3 rfl) ?_
  refine lv_iconst (v := (1 : Int32)) hx hb dL_law_446 rfl ?_
  refine lv_iadd hx hb dL_law_447 ?_
  refine va_sld hx hb hX hbl hbA hS hi1 dL_law_448 ?_
  refine l_call (Ly := Lm) (B := (g.2.2.1 + 96)) hx hb hml hown hts hK An_m (rest := [.int r]) (As := [.int (xs (x3 + (1 : Int32)).toNatClampNeg)]) (q := (RX10, TX10, 22)) (c_X10_press l (gB g (g.2.2.1 + 96)) (xs (x3 + (1 : Int32)).toNatClampNeg) ν h2) q5_80 q5_77 q5_78 q5_79 q1_11 hd_X10_press ⟨rfl, rfl⟩ ⟨Nat.le_of_ble_eq_true rfl, Nat.le_of_ble_eq_true rfl⟩ cm_0 (by decide) rfl hP2 hS hl.1 rfl rfl (Nat.le_of_ble_eq_true rfl) dL_law_449 ⟨Nat.le_of_ble_eq_true rfl, Nat.le_of_ble_eq_true rfl⟩ (fun H locs hQ hS hk => ?_)
  have hP1 := keep_x hP1 hk
  have hP2 := hQ
  refine lv_icmp_eq (tgt := 1349) hx hb dL_law_452 (by decide) (fun _ => ?_) (fun cc => absurd rfl cc)
  exact kk μ' ν' H locs hSim hP1 hP2 hS
set_option maxRecDepth 100000 in
set_option maxHeartbeats 4000000 in
theorem law_c9 {Sim : Nat → Mem → Mem → Prop} {g : Gx} {p : Program} {l : Launch} {e : Env} {s : State} {m : MethodId} {below : List Frame} {meth : Method} {c : Code} {b L : Nat} {xs : Nat → Int32} (C0 : LC g p s m c b L xs) (O : OpsOK Sim) {i : Nat} (hi : i < 512) {x3 : Int32} (hi1 : vp_in (x3 + (1 : Int32)) L) (hi2 : vp_in (x3 + (2 : Int32)) L) (hi3 : vp_in (x3 + (3 : Int32)) L) (hi4 : vp_in (x3 + (4 : Int32)) L) (hi5 : vp_in (x3 + (5 : Int32)) L) {μ ν : Mem} (hSim : Sim i μ ν) {H : Heap} {locs : List Loc} {ls : Array Slot} (hP1 : Px Lx (gB g g.2.2.1) μ H) (hP2 : Px Lm (gB g (g.2.2.1 + 96)) ν H) (hS : va_S (An g) s.heap H locs) (hl : lv_has ls 4 [(0, .ref b), (1, .ref (g.2.2.1 + 0)), (2, .ref (g.2.2.1 + 96 + 0)), (3, .int x3)])
    (kk : ∀ (μ' ν' : Mem) (H : Heap) (locs : List Loc), Sim (i + 1) μ' ν' → Px Lx (gB g g.2.2.1) μ' H → Px Lm (gB g (g.2.2.1 + 96)) ν' H → va_S (An g) s.heap H locs → W p l e room_1 s m #[Value.ref b] below meth c H locs 108 10362 (lw_Z below #[Value.ref b] s) (F0 m 1349 ls [])) : W p l e room_1 s m #[Value.ref b] below meth c H locs 108 10362 (lw_Z below #[Value.ref b] s) (F0 m 457 ls []) := by
  obtain ⟨hx, hb, hml, hown, hts, hX, hbl, hbase, hK⟩ := id C0
  have hbA : ¬ An g b := fun z => by change g.2.2.1 ≤ b at z; omega
  obtain ⟨r, μ', ν', h1, h2, hSim⟩ := O.2.2.2.2.2.2.2.2.2.1 i μ ν (xs (x3 + (1 : Int32)).toNatClampNeg) (xs (x3 + (2 : Int32)).toNatClampNeg) hSim hi
  refine lv_aload_n hx hb dL_law_457 rfl (lv_at hl 1 rfl) ?_
  refine lv_aload_n hx hb dL_law_458 rfl (lv_at hl 0 rfl) ?_
  refine lv_iload_n hx hb dL_law_459 rfl (lv_at hl 3 rfl) ?_
  refine lv_iconst (v := (1 : Int32)) hx hb dL_law_460 rfl ?_
  refine lv_iadd hx hb dL_law_461 ?_
  refine va_sld hx hb hX hbl hbA hS hi1 dL_law_462 ?_
  refine lv_aload_n hx hb dL_law_463 rfl (lv_at hl 0 rfl) ?_
  refine lv_iload_n hx hb dL_law_464 rfl (lv_at hl 3 rfl) ?_
  refine lv_iconst (v := (2 : Int32)) hx hb dL_law_465 rfl ?_
  refine lv_iadd hx hb dL_law_466 ?_
  refine va_sld hx hb hX hbl hbA hS hi2 dL_law_467 ?_
  refine l_call (Ly := Lx) (B := g.2.2.1) hx hb hml hown hts hK An_x (rest := []) (As := [.int (xs (x3 + (1 : Int32)).toNatClampNeg), .int (xs (x3 + (2 : Int32)).toNatClampNeg)]) (q := (RX9, TX9, 9)) (c_X9_shop l (gB g g.2.2.1) (xs (x3 + (1 : Int32)).toNatClampNeg) (xs (x3 + (2 : Int32)).toNatClampNeg) μ h1) q2_232 q2_229 q2_230 q2_231 q1_1 hd_X9_shop ⟨rfl, rfl⟩ ⟨Nat.le_of_ble_eq_true rfl, Nat.le_of_ble_eq_true rfl⟩ cx_0 (by decide) rfl hP1 hS hl.1 rfl rfl (Nat.le_of_ble_eq_true rfl) dL_law_468 ⟨Nat.le_of_ble_eq_true rfl, Nat.le_of_ble_eq_true rfl⟩ (fun H locs hQ hS hk => ?_)
  have hP2 := keep_m hP2 hk
  have hP1 := hQ
  refine lv_aload_n hx hb dL_law_471 rfl (lv_at hl 2 rfl) ?_
  refine lv_aload_n hx hb dL_law_472 rfl (lv_at hl 0 rfl) ?_
  refine lv_iload_n hx hb dL_law_473 rfl (lv_at hl 3 rfl) ?_
  refine lv_iconst (v := (1 : Int32)) hx hb dL_law_474 rfl ?_
  refine lv_iadd hx hb dL_law_475 ?_
  refine va_sld hx hb hX hbl hbA hS hi1 dL_law_476 ?_
  refine lv_aload_n hx hb dL_law_477 rfl (lv_at hl 0 rfl) ?_
  refine lv_iload_n hx hb dL_law_478 rfl (lv_at hl 3 rfl) ?_
  refine lv_iconst (v := (2 : Int32)) hx hb dL_law_479 rfl ?_
  refine lv_iadd hx hb dL_law_480 ?_
  refine va_sld hx hb hX hbl hbA hS hi2 dL_law_481 ?_
  refine l_call (Ly := Lm) (B := (g.2.2.1 + 96)) hx hb hml hown hts hK An_m (rest := [.int r]) (As := [.int (xs (x3 + (1 : Int32)).toNatClampNeg), .int (xs (x3 + (2 : Int32)).toNatClampNeg)]) (q := (RX10, TX10, 22)) (c_X10_shop l (gB g (g.2.2.1 + 96)) (xs (x3 + (1 : Int32)).toNatClampNeg) (xs (x3 + (2 : Int32)).toNatClampNeg) ν h2) q5_88 q5_85 q5_86 q5_87 q1_11 hd_X10_shop ⟨rfl, rfl⟩ ⟨Nat.le_of_ble_eq_true rfl, Nat.le_of_ble_eq_true rfl⟩ cm_0 (by decide) rfl hP2 hS hl.1 rfl rfl (Nat.le_of_ble_eq_true rfl) dL_law_482 ⟨Nat.le_of_ble_eq_true rfl, Nat.le_of_ble_eq_true rfl⟩ (fun H locs hQ hS hk => ?_)
  have hP1 := keep_x hP1 hk
  have hP2 := hQ
  refine lv_icmp_eq (tgt := 1349) hx hb dL_law_485 (by decide) (fun _ => ?_) (fun cc => absurd rfl cc)
  exact kk μ' ν' H locs hSim hP1 hP2 hS
set_option maxRecDepth 100000 in
set_option maxHeartbeats 4000000 in
theorem law_c10 {Sim : Nat → Mem → Mem → Prop} {g : Gx} {p : Program} {l : Launch} {e : Env} {s : State} {m : MethodId} {below : List Frame} {meth : Method} {c : Code} {b L : Nat} {xs : Nat → Int32} (C0 : LC g p s m c b L xs) (O : OpsOK Sim) {i : Nat} (hi : i < 512) {x3 : Int32} (hi1 : vp_in (x3 + (1 : Int32)) L) (hi2 : vp_in (x3 + (2 : Int32)) L) (hi3 : vp_in (x3 + (3 : Int32)) L) (hi4 : vp_in (x3 + (4 : Int32)) L) (hi5 : vp_in (x3 + (5 : Int32)) L) {μ ν : Mem} (hSim : Sim i μ ν) {H : Heap} {locs : List Loc} {ls : Array Slot} (hP1 : Px Lx (gB g g.2.2.1) μ H) (hP2 : Px Lm (gB g (g.2.2.1 + 96)) ν H) (hS : va_S (An g) s.heap H locs) (hl : lv_has ls 4 [(0, .ref b), (1, .ref (g.2.2.1 + 0)), (2, .ref (g.2.2.1 + 96 + 0)), (3, .int x3)])
    (kk : ∀ (μ' ν' : Mem) (H : Heap) (locs : List Loc), Sim (i + 1) μ' ν' → Px Lx (gB g g.2.2.1) μ' H → Px Lm (gB g (g.2.2.1 + 96)) ν' H → va_S (An g) s.heap H locs → W p l e room_1 s m #[Value.ref b] below meth c H locs 108 10362 (lw_Z below #[Value.ref b] s) (F0 m 1349 ls [])) : W p l e room_1 s m #[Value.ref b] below meth c H locs 108 10362 (lw_Z below #[Value.ref b] s) (F0 m 490 ls []) := by
  obtain ⟨hx, hb, hml, hown, hts, hX, hbl, hbase, hK⟩ := id C0
  have hbA : ¬ An g b := fun z => by change g.2.2.1 ≤ b at z; omega
  obtain ⟨r, μ', ν', h1, h2, hSim⟩ := O.2.2.2.2.2.2.2.2.2.2.1 i μ ν (xs (x3 + (1 : Int32)).toNatClampNeg) (xs (x3 + (2 : Int32)).toNatClampNeg) hSim hi
  refine lv_aload_n hx hb dL_law_490 rfl (lv_at hl 1 rfl) ?_
  refine lv_aload_n hx hb dL_law_491 rfl (lv_at hl 0 rfl) ?_
  refine lv_iload_n hx hb dL_law_492 rfl (lv_at hl 3 rfl) ?_
  refine lv_iconst (v := (1 : Int32)) hx hb dL_law_493 rfl ?_
  refine lv_iadd hx hb dL_law_494 ?_
  refine va_sld hx hb hX hbl hbA hS hi1 dL_law_495 ?_
  refine lv_aload_n hx hb dL_law_496 rfl (lv_at hl 0 rfl) ?_
  refine lv_iload_n hx hb dL_law_497 rfl (lv_at hl 3 rfl) ?_
  refine lv_iconst (v := (2 : Int32)) hx hb dL_law_498 rfl ?_
  refine lv_iadd hx hb dL_law_499 ?_
  refine va_sld hx hb hX hbl hbA hS hi2 dL_law_500 ?_
  refine l_call (Ly := Lx) (B := g.2.2.1) hx hb hml hown hts hK An_x (rest := []) (As := [.int (xs (x3 + (1 : Int32)).toNatClampNeg), .int (xs (x3 + (2 : Int32)).toNatClampNeg)]) (q := (RX9, TX9, 9)) (c_X9_nearest l (gB g g.2.2.1) (xs (x3 + (1 : Int32)).toNatClampNeg) (xs (x3 + (2 : Int32)).toNatClampNeg) μ h1) q3_3 q3_0 q3_1 q3_2 q1_1 hd_X9_nearest ⟨rfl, rfl⟩ ⟨Nat.le_of_ble_eq_true rfl, Nat.le_of_ble_eq_true rfl⟩ cx_0 (by decide) rfl hP1 hS hl.1 rfl rfl (Nat.le_of_ble_eq_true rfl) dL_law_501 ⟨Nat.le_of_ble_eq_true rfl, Nat.le_of_ble_eq_true rfl⟩ (fun H locs hQ hS hk => ?_)
  have hP2 := keep_m hP2 hk
  have hP1 := hQ
  refine lv_aload_n hx hb dL_law_504 rfl (lv_at hl 2 rfl) ?_
  refine lv_aload_n hx hb dL_law_505 rfl (lv_at hl 0 rfl) ?_
  refine lv_iload_n hx hb dL_law_506 rfl (lv_at hl 3 rfl) ?_
  refine lv_iconst (v := (1 : Int32)) hx hb dL_law_507 rfl ?_
  refine lv_iadd hx hb dL_law_508 ?_
  refine va_sld hx hb hX hbl hbA hS hi1 dL_law_509 ?_
  refine lv_aload_n hx hb dL_law_510 rfl (lv_at hl 0 rfl) ?_
  refine lv_iload_n hx hb dL_law_511 rfl (lv_at hl 3 rfl) ?_
  refine lv_iconst (v := (2 : Int32)) hx hb dL_law_512 rfl ?_
  refine lv_iadd hx hb dL_law_513 ?_
  refine va_sld hx hb hX hbl hbA hS hi2 dL_law_514 ?_
  refine l_call (Ly := Lm) (B := (g.2.2.1 + 96)) hx hb hml hown hts hK An_m (rest := [.int r]) (As := [.int (xs (x3 + (1 : Int32)).toNatClampNeg), .int (xs (x3 + (2 : Int32)).toNatClampNeg)]) (q := (RX10, TX10, 22)) (c_X10_nearest l (gB g (g.2.2.1 + 96)) (xs (x3 + (1 : Int32)).toNatClampNeg) (xs (x3 + (2 : Int32)).toNatClampNeg) ν h2) q5_92 q5_89 q5_90 q5_91 q1_11 hd_X10_nearest ⟨rfl, rfl⟩ ⟨Nat.le_of_ble_eq_true rfl, Nat.le_of_ble_eq_true rfl⟩ cm_0 (by decide) rfl hP2 hS hl.1 rfl rfl (Nat.le_of_ble_eq_true rfl) dL_law_515 ⟨Nat.le_of_ble_eq_true rfl, Nat.le_of_ble_eq_true rfl⟩ (fun H locs hQ hS hk => ?_)
  have hP1 := keep_x hP1 hk
  have hP2 := hQ
  refine lv_icmp_eq (tgt := 1349) hx hb dL_law_518 (by decide) (fun _ => ?_) (fun cc => absurd rfl cc)
  exact kk μ' ν' H locs hSim hP1 hP2 hS
set_option maxRecDepth 100000 in
set_option maxHeartbeats 4000000 in
theorem law_c11 {Sim : Nat → Mem → Mem → Prop} {g : Gx} {p : Program} {l : Launch} {e : Env} {s : State} {m : MethodId} {below : List Frame} {meth : Method} {c : Code} {b L : Nat} {xs : Nat → Int32} (C0 : LC g p s m c b L xs) (O : OpsOK Sim) {i : Nat} (hi : i < 512) {x3 : Int32} (hi1 : vp_in (x3 + (1 : Int32)) L) (hi2 : vp_in (x3 + (2 : Int32)) L) (hi3 : vp_in (x3 + (3 : Int32)) L) (hi4 : vp_in (x3 + (4 : Int32)) L) (hi5 : vp_in (x3 + (5 : Int32)) L) {μ ν : Mem} (hSim : Sim i μ ν) {H : Heap} {locs : List Loc} {ls : Array Slot} (hP1 : Px Lx (gB g g.2.2.1) μ H) (hP2 : Px Lm (gB g (g.2.2.1 + 96)) ν H) (hS : va_S (An g) s.heap H locs) (hl : lv_has ls 4 [(0, .ref b), (1, .ref (g.2.2.1 + 0)), (2, .ref (g.2.2.1 + 96 + 0)), (3, .int x3)])
    (kk : ∀ (μ' ν' : Mem) (H : Heap) (locs : List Loc), Sim (i + 1) μ' ν' → Px Lx (gB g g.2.2.1) μ' H → Px Lm (gB g (g.2.2.1 + 96)) ν' H → va_S (An g) s.heap H locs → W p l e room_1 s m #[Value.ref b] below meth c H locs 108 10362 (lw_Z below #[Value.ref b] s) (F0 m 1349 ls [])) : W p l e room_1 s m #[Value.ref b] below meth c H locs 108 10362 (lw_Z below #[Value.ref b] s) (F0 m 523 ls []) := by
  obtain ⟨hx, hb, hml, hown, hts, hX, hbl, hbase, hK⟩ := id C0
  have hbA : ¬ An g b := fun z => by change g.2.2.1 ≤ b at z; omega
  obtain ⟨r, μ', ν', h1, h2, hSim⟩ := O.2.2.2.2.2.2.2.2.2.2.2.1 i μ ν (xs (x3 + (1 : Int32)).toNatClampNeg) (xs (x3 + (2 : Int32)).toNatClampNeg) (xs (x3 + (3 : Int32)).toNatClampNeg) hSim hi
  refine lv_aload_n hx hb dL_law_523 rfl (lv_at hl 1 rfl) ?_
  refine lv_aload_n hx hb dL_law_524 rfl (lv_at hl 0 rfl) ?_
  refine lv_iload_n hx hb dL_law_525 rfl (lv_at hl 3 rfl) ?_
  refine lv_iconst (v := (1 : Int32)) hx hb dL_law_526 rfl ?_
  refine lv_iadd hx hb dL_law_527 ?_
  refine va_sld hx hb hX hbl hbA hS hi1 dL_law_528 ?_
  refine lv_aload_n hx hb dL_law_529 rfl (lv_at hl 0 rfl) ?_
  refine lv_iload_n hx hb dL_law_530 rfl (lv_at hl 3 rfl) ?_
  refine lv_iconst (v := (2 : Int32)) hx hb dL_law_531 rfl ?_
  refine lv_iadd hx hb dL_law_532 ?_
  refine va_sld hx hb hX hbl hbA hS hi2 dL_law_533 ?_
  refine lv_aload_n hx hb dL_law_534 rfl (lv_at hl 0 rfl) ?_
  refine lv_iload_n hx hb dL_law_535 rfl (lv_at hl 3 rfl) ?_
  refine lv_iconst (v := (3 : Int32)) hx hb dL_law_536 rfl ?_
  refine lv_iadd hx hb dL_law_537 ?_
  refine va_sld hx hb hX hbl hbA hS hi3 dL_law_538 ?_
  refine l_call (Ly := Lx) (B := g.2.2.1) hx hb hml hown hts hK An_x (rest := []) (As := [.int (xs (x3 + (1 : Int32)).toNatClampNeg), .int (xs (x3 + (2 : Int32)).toNatClampNeg), .int (xs (x3 + (3 : Int32)).toNatClampNeg)]) (q := (RX9, TX9, 9)) (c_X9_top l (gB g g.2.2.1) (xs (x3 + (1 : Int32)).toNatClampNeg) (xs (x3 + (2 : Int32)).toNatClampNeg) (xs (x3 + (3 : Int32)).toNatClampNeg) μ h1) q3_26 q3_23 q3_24 q3_25 q1_1 hd_X9_top ⟨rfl, rfl⟩ ⟨Nat.le_of_ble_eq_true rfl, Nat.le_of_ble_eq_true rfl⟩ cx_0 (by decide) rfl hP1 hS hl.1 rfl rfl (Nat.le_of_ble_eq_true rfl) dL_law_539 ⟨Nat.le_of_ble_eq_true rfl, Nat.le_of_ble_eq_true rfl⟩ (fun H locs hQ hS hk => ?_)
  have hP2 := keep_m hP2 hk
  have hP1 := hQ
  refine lv_aload_n hx hb dL_law_542 rfl (lv_at hl 2 rfl) ?_
  refine lv_aload_n hx hb dL_law_543 rfl (lv_at hl 0 rfl) ?_
  refine lv_iload_n hx hb dL_law_544 rfl (lv_at hl 3 rfl) ?_
  refine lv_iconst (v := (1 : Int32)) hx hb dL_law_545 rfl ?_
  refine lv_iadd hx hb dL_law_546 ?_
  refine va_sld hx hb hX hbl hbA hS hi1 dL_law_547 ?_
  refine lv_aload_n hx hb dL_law_548 rfl (lv_at hl 0 rfl) ?_
  refine lv_iload_n hx hb dL_law_549 rfl (lv_at hl 3 rfl) ?_
  refine lv_iconst (v := (2 : Int32)) hx hb dL_law_550 rfl ?_
  refine lv_iadd hx hb dL_law_551 ?_
  refine va_sld hx hb hX hbl hbA hS hi2 dL_law_552 ?_
  refine lv_aload_n hx hb dL_law_553 rfl (lv_at hl 0 rfl) ?_
  refine lv_iload_n hx hb dL_law_554 rfl (lv_at hl 3 rfl) ?_
  refine lv_iconst (v := (3 : Int32)) hx hb dL_law_555 rfl ?_
  refine lv_iadd hx hb dL_law_556 ?_
  refine va_sld hx hb hX hbl hbA hS hi3 dL_law_557 ?_
  refine l_call (Ly := Lm) (B := (g.2.2.1 + 96)) hx hb hml hown hts hK An_m (rest := [.int r]) (As := [.int (xs (x3 + (1 : Int32)).toNatClampNeg), .int (xs (x3 + (2 : Int32)).toNatClampNeg), .int (xs (x3 + (3 : Int32)).toNatClampNeg)]) (q := (RX10, TX10, 22)) (c_X10_top l (gB g (g.2.2.1 + 96)) (xs (x3 + (1 : Int32)).toNatClampNeg) (xs (x3 + (2 : Int32)).toNatClampNeg) (xs (x3 + (3 : Int32)).toNatClampNeg) ν h2) q5_104 q5_101 q5_102 q5_103 q1_11 hd_X10_top ⟨rfl, rfl⟩ ⟨Nat.le_of_ble_eq_true rfl, Nat.le_of_ble_eq_true rfl⟩ cm_0 (by decide) rfl hP2 hS hl.1 rfl rfl (Nat.le_of_ble_eq_true rfl) dL_law_558 ⟨Nat.le_of_ble_eq_true rfl, Nat.le_of_ble_eq_true rfl⟩ (fun H locs hQ hS hk => ?_)
  have hP1 := keep_x hP1 hk
  have hP2 := hQ
  refine lv_icmp_eq (tgt := 1349) hx hb dL_law_561 (by decide) (fun _ => ?_) (fun cc => absurd rfl cc)
  exact kk μ' ν' H locs hSim hP1 hP2 hS
set_option maxRecDepth 100000 in
set_option maxHeartbeats 4000000 in
theorem law_c12 {Sim : Nat → Mem → Mem → Prop} {g : Gx} {p : Program} {l : Launch} {e : Env} {s : State} {m : MethodId} {below : List Frame} {meth : Method} {c : Code} {b L : Nat} {xs : Nat → Int32} (C0 : LC g p s m c b L xs) (O : OpsOK Sim) {i : Nat} (hi : i < 512) {x3 : Int32} (hi1 : vp_in (x3 + (1 : Int32)) L) (hi2 : vp_in (x3 + (2 : Int32)) L) (hi3 : vp_in (x3 + (3 : Int32)) L) (hi4 : vp_in (x3 + (4 : Int32)) L) (hi5 : vp_in (x3 + (5 : Int32)) L) {μ ν : Mem} (hSim : Sim i μ ν) {H : Heap} {locs : List Loc} {ls : Array Slot} (hP1 : Px Lx (gB g g.2.2.1) μ H) (hP2 : Px Lm (gB g (g.2.2.1 + 96)) ν H) (hS : va_S (An g) s.heap H locs) (hl : lv_has ls 4 [(0, .ref b), (1, .ref (g.2.2.1 + 0)), (2, .ref (g.2.2.1 + 96 + 0)), (3, .int x3)])
    (kk : ∀ (μ' ν' : Mem) (H : Heap) (locs : List Loc), Sim (i + 1) μ' ν' → Px Lx (gB g g.2.2.1) μ' H → Px Lm (gB g (g.2.2.1 + 96)) ν' H → va_S (An g) s.heap H locs → W p l e room_1 s m #[Value.ref b] below meth c H locs 108 10362 (lw_Z below #[Value.ref b] s) (F0 m 1349 ls [])) : W p l e room_1 s m #[Value.ref b] below meth c H locs 108 10362 (lw_Z below #[Value.ref b] s) (F0 m 566 ls []) := by
  obtain ⟨hx, hb, hml, hown, hts, hX, hbl, hbase, hK⟩ := id C0
  have hbA : ¬ An g b := fun z => by change g.2.2.1 ≤ b at z; omega
  obtain ⟨r, μ', ν', h1, h2, hSim⟩ := O.2.2.2.2.2.2.2.2.2.2.2.2.1 i μ ν (((xs (x3 + (1 : Int32)).toNatClampNeg).toInt64 <<< ((32 : Int32).toInt64 &&& 63)) ||| ((xs (x3 + (2 : Int32)).toNatClampNeg).toInt64 &&& (4294967295 : Int64))) (xs (x3 + (3 : Int32)).toNatClampNeg) hSim hi
  refine lv_aload_n hx hb dL_law_566 rfl (lv_at hl 1 rfl) ?_
  refine lv_aload_n hx hb dL_law_567 rfl (lv_at hl 0 rfl) ?_
  refine lv_iload_n hx hb dL_law_568 rfl (lv_at hl 3 rfl) ?_
  refine lv_iconst (v := (1 : Int32)) hx hb dL_law_569 rfl ?_
  refine lv_iadd hx hb dL_law_570 ?_
  refine va_sld hx hb hX hbl hbA hS hi1 dL_law_571 ?_
  refine lv_i2l (v := (xs (x3 + (1 : Int32)).toNatClampNeg).toInt64) hx hb dL_law_572 rfl ?_
  refine lv_bipush (v := (32 : Int32)) hx hb dL_law_573 (by decide +kernel) ?_
  refine lv_lshl (v := ((xs (x3 + (1 : Int32)).toNatClampNeg).toInt64 <<< ((32 : Int32).toInt64 &&& 63))) hx hb dL_law_575 rfl ?_
  refine lv_aload_n hx hb dL_law_576 rfl (lv_at hl 0 rfl) ?_
  refine lv_iload_n hx hb dL_law_577 rfl (lv_at hl 3 rfl) ?_
  refine lv_iconst (v := (2 : Int32)) hx hb dL_law_578 rfl ?_
  refine lv_iadd hx hb dL_law_579 ?_
  refine va_sld hx hb hX hbl hbA hS hi2 dL_law_580 ?_
  refine lv_i2l (v := (xs (x3 + (2 : Int32)).toNatClampNeg).toInt64) hx hb dL_law_581 rfl ?_
  refine lv_ldc2 (v := (4294967295 : Int64)) hx hb hown (hts _ q6_51) dL_law_582 ?_
  refine lv_land hx hb dL_law_585 ?_
  refine lv_lor hx hb dL_law_586 ?_
  refine lv_aload_n hx hb dL_law_587 rfl (lv_at hl 0 rfl) ?_
  refine lv_iload_n hx hb dL_law_588 rfl (lv_at hl 3 rfl) ?_
  refine lv_iconst (v := (3 : Int32)) hx hb dL_law_589 rfl ?_
  refine lv_iadd hx hb dL_law_590 ?_
  refine va_sld hx hb hX hbl hbA hS hi3 dL_law_591 ?_
  refine l_call (Ly := Lx) (B := g.2.2.1) hx hb hml hown hts hK An_x (rest := []) (As := [.long (((xs (x3 + (1 : Int32)).toNatClampNeg).toInt64 <<< ((32 : Int32).toInt64 &&& 63)) ||| ((xs (x3 + (2 : Int32)).toNatClampNeg).toInt64 &&& (4294967295 : Int64))), .int (xs (x3 + (3 : Int32)).toNatClampNeg)]) (q := (RX9, TX9, 9)) (c_X9_feed l (gB g g.2.2.1) (((xs (x3 + (1 : Int32)).toNatClampNeg).toInt64 <<< ((32 : Int32).toInt64 &&& 63)) ||| ((xs (x3 + (2 : Int32)).toNatClampNeg).toInt64 &&& (4294967295 : Int64))) (xs (x3 + (3 : Int32)).toNatClampNeg) μ h1) q3_53 q3_50 q3_51 q3_52 q1_1 hd_X9_feed ⟨rfl, rfl⟩ ⟨Nat.le_of_ble_eq_true rfl, Nat.le_of_ble_eq_true rfl⟩ cx_0 (by decide) rfl hP1 hS hl.1 rfl rfl (Nat.le_of_ble_eq_true rfl) dL_law_592 ⟨Nat.le_of_ble_eq_true rfl, Nat.le_of_ble_eq_true rfl⟩ (fun H locs hQ hS hk => ?_)
  have hP2 := keep_m hP2 hk
  have hP1 := hQ
  refine lv_aload_n hx hb dL_law_595 rfl (lv_at hl 2 rfl) ?_
  refine lv_aload_n hx hb dL_law_596 rfl (lv_at hl 0 rfl) ?_
  refine lv_iload_n hx hb dL_law_597 rfl (lv_at hl 3 rfl) ?_
  refine lv_iconst (v := (1 : Int32)) hx hb dL_law_598 rfl ?_
  refine lv_iadd hx hb dL_law_599 ?_
  refine va_sld hx hb hX hbl hbA hS hi1 dL_law_600 ?_
  refine lv_i2l (v := (xs (x3 + (1 : Int32)).toNatClampNeg).toInt64) hx hb dL_law_601 rfl ?_
  refine lv_bipush (v := (32 : Int32)) hx hb dL_law_602 (by decide +kernel) ?_
  refine lv_lshl (v := ((xs (x3 + (1 : Int32)).toNatClampNeg).toInt64 <<< ((32 : Int32).toInt64 &&& 63))) hx hb dL_law_604 rfl ?_
  refine lv_aload_n hx hb dL_law_605 rfl (lv_at hl 0 rfl) ?_
  refine lv_iload_n hx hb dL_law_606 rfl (lv_at hl 3 rfl) ?_
  refine lv_iconst (v := (2 : Int32)) hx hb dL_law_607 rfl ?_
  refine lv_iadd hx hb dL_law_608 ?_
  refine va_sld hx hb hX hbl hbA hS hi2 dL_law_609 ?_
  refine lv_i2l (v := (xs (x3 + (2 : Int32)).toNatClampNeg).toInt64) hx hb dL_law_610 rfl ?_
  refine lv_ldc2 (v := (4294967295 : Int64)) hx hb hown (hts _ q6_51) dL_law_611 ?_
  refine lv_land hx hb dL_law_614 ?_
  refine lv_lor hx hb dL_law_615 ?_
  refine lv_aload_n hx hb dL_law_616 rfl (lv_at hl 0 rfl) ?_
  refine lv_iload_n hx hb dL_law_617 rfl (lv_at hl 3 rfl) ?_
  refine lv_iconst (v := (3 : Int32)) hx hb dL_law_618 rfl ?_
  refine lv_iadd hx hb dL_law_619 ?_
  refine va_sld hx hb hX hbl hbA hS hi3 dL_law_620 ?_
  refine l_call (Ly := Lm) (B := (g.2.2.1 + 96)) hx hb hml hown hts hK An_m (rest := [.int r]) (As := [.long (((xs (x3 + (1 : Int32)).toNatClampNeg).toInt64 <<< ((32 : Int32).toInt64 &&& 63)) ||| ((xs (x3 + (2 : Int32)).toNatClampNeg).toInt64 &&& (4294967295 : Int64))), .int (xs (x3 + (3 : Int32)).toNatClampNeg)]) (q := (RX10, TX10, 22)) (c_X10_feed l (gB g (g.2.2.1 + 96)) (((xs (x3 + (1 : Int32)).toNatClampNeg).toInt64 <<< ((32 : Int32).toInt64 &&& 63)) ||| ((xs (x3 + (2 : Int32)).toNatClampNeg).toInt64 &&& (4294967295 : Int64))) (xs (x3 + (3 : Int32)).toNatClampNeg) ν h2) q5_115 q5_112 q5_113 q5_114 q1_11 hd_X10_feed ⟨rfl, rfl⟩ ⟨Nat.le_of_ble_eq_true rfl, Nat.le_of_ble_eq_true rfl⟩ cm_0 (by decide) rfl hP2 hS hl.1 rfl rfl (Nat.le_of_ble_eq_true rfl) dL_law_621 ⟨Nat.le_of_ble_eq_true rfl, Nat.le_of_ble_eq_true rfl⟩ (fun H locs hQ hS hk => ?_)
  have hP1 := keep_x hP1 hk
  have hP2 := hQ
  refine lv_icmp_eq (tgt := 1349) hx hb dL_law_624 (by decide) (fun _ => ?_) (fun cc => absurd rfl cc)
  exact kk μ' ν' H locs hSim hP1 hP2 hS
set_option maxRecDepth 100000 in
set_option maxHeartbeats 4000000 in
theorem law_c13 {Sim : Nat → Mem → Mem → Prop} {g : Gx} {p : Program} {l : Launch} {e : Env} {s : State} {m : MethodId} {below : List Frame} {meth : Method} {c : Code} {b L : Nat} {xs : Nat → Int32} (C0 : LC g p s m c b L xs) (O : OpsOK Sim) {i : Nat} (hi : i < 512) {x3 : Int32} (hi1 : vp_in (x3 + (1 : Int32)) L) (hi2 : vp_in (x3 + (2 : Int32)) L) (hi3 : vp_in (x3 + (3 : Int32)) L) (hi4 : vp_in (x3 + (4 : Int32)) L) (hi5 : vp_in (x3 + (5 : Int32)) L) {μ ν : Mem} (hSim : Sim i μ ν) {H : Heap} {locs : List Loc} {ls : Array Slot} (hP1 : Px Lx (gB g g.2.2.1) μ H) (hP2 : Px Lm (gB g (g.2.2.1 + 96)) ν H) (hS : va_S (An g) s.heap H locs) (hl : lv_has ls 4 [(0, .ref b), (1, .ref (g.2.2.1 + 0)), (2, .ref (g.2.2.1 + 96 + 0)), (3, .int x3)])
    (kk : ∀ (μ' ν' : Mem) (H : Heap) (locs : List Loc), Sim (i + 1) μ' ν' → Px Lx (gB g g.2.2.1) μ' H → Px Lm (gB g (g.2.2.1 + 96)) ν' H → va_S (An g) s.heap H locs → W p l e room_1 s m #[Value.ref b] below meth c H locs 108 10362 (lw_Z below #[Value.ref b] s) (F0 m 1349 ls [])) : W p l e room_1 s m #[Value.ref b] below meth c H locs 108 10362 (lw_Z below #[Value.ref b] s) (F0 m 629 ls []) := by
  obtain ⟨hx, hb, hml, hown, hts, hX, hbl, hbase, hK⟩ := id C0
  have hbA : ¬ An g b := fun z => by change g.2.2.1 ≤ b at z; omega
  obtain ⟨r, μ', ν', h1, h2, hSim⟩ := O.2.2.2.2.2.2.2.2.2.2.2.2.2.1 i μ ν (xs (x3 + (1 : Int32)).toNatClampNeg) (xs (x3 + (2 : Int32)).toNatClampNeg) hSim hi
  refine lv_aload_n hx hb dL_law_629 rfl (lv_at hl 1 rfl) ?_
  refine lv_aload_n hx hb dL_law_630 rfl (lv_at hl 0 rfl) ?_
  refine lv_iload_n hx hb dL_law_631 rfl (lv_at hl 3 rfl) ?_
  refine lv_iconst (v := (1 : Int32)) hx hb dL_law_632 rfl ?_
  refine lv_iadd hx hb dL_law_633 ?_
  refine va_sld hx hb hX hbl hbA hS hi1 dL_law_634 ?_
  refine lv_aload_n hx hb dL_law_635 rfl (lv_at hl 0 rfl) ?_
  refine lv_iload_n hx hb dL_law_636 rfl (lv_at hl 3 rfl) ?_
  refine lv_iconst (v := (2 : Int32)) hx hb dL_law_637 rfl ?_
  refine lv_iadd hx hb dL_law_638 ?_
  refine va_sld hx hb hX hbl hbA hS hi2 dL_law_639 ?_
  refine l_call (Ly := Lx) (B := g.2.2.1) hx hb hml hown hts hK An_x (rest := []) (As := [.int (xs (x3 + (1 : Int32)).toNatClampNeg), .int (xs (x3 + (2 : Int32)).toNatClampNeg)]) (q := (RX9, TX9, 9)) (c_X9_law l (gB g g.2.2.1) (xs (x3 + (1 : Int32)).toNatClampNeg) (xs (x3 + (2 : Int32)).toNatClampNeg) μ h1) q3_57 q3_54 q3_55 q3_56 q1_1 hd_X9_law ⟨rfl, rfl⟩ ⟨Nat.le_of_ble_eq_true rfl, Nat.le_of_ble_eq_true rfl⟩ cx_0 (by decide) rfl hP1 hS hl.1 rfl rfl (Nat.le_of_ble_eq_true rfl) dL_law_640 ⟨Nat.le_of_ble_eq_true rfl, Nat.le_of_ble_eq_true rfl⟩ (fun H locs hQ hS hk => ?_)
  have hP2 := keep_m hP2 hk
  have hP1 := hQ
  refine lv_aload_n hx hb dL_law_643 rfl (lv_at hl 2 rfl) ?_
  refine lv_aload_n hx hb dL_law_644 rfl (lv_at hl 0 rfl) ?_
  refine lv_iload_n hx hb dL_law_645 rfl (lv_at hl 3 rfl) ?_
  refine lv_iconst (v := (1 : Int32)) hx hb dL_law_646 rfl ?_
  refine lv_iadd hx hb dL_law_647 ?_
  refine va_sld hx hb hX hbl hbA hS hi1 dL_law_648 ?_
  refine lv_aload_n hx hb dL_law_649 rfl (lv_at hl 0 rfl) ?_
  refine lv_iload_n hx hb dL_law_650 rfl (lv_at hl 3 rfl) ?_
  refine lv_iconst (v := (2 : Int32)) hx hb dL_law_651 rfl ?_
  refine lv_iadd hx hb dL_law_652 ?_
  refine va_sld hx hb hX hbl hbA hS hi2 dL_law_653 ?_
  refine l_call (Ly := Lm) (B := (g.2.2.1 + 96)) hx hb hml hown hts hK An_m (rest := [.int r]) (As := [.int (xs (x3 + (1 : Int32)).toNatClampNeg), .int (xs (x3 + (2 : Int32)).toNatClampNeg)]) (q := (RX10, TX10, 22)) (c_X10_law l (gB g (g.2.2.1 + 96)) (xs (x3 + (1 : Int32)).toNatClampNeg) (xs (x3 + (2 : Int32)).toNatClampNeg) ν h2) q5_120 q5_117 q5_118 q5_119 q1_11 hd_X10_law ⟨rfl, rfl⟩ ⟨Nat.le_of_ble_eq_true rfl, Nat.le_of_ble_eq_true rfl⟩ cm_0 (by decide) rfl hP2 hS hl.1 rfl rfl (Nat.le_of_ble_eq_true rfl) dL_law_654 ⟨Nat.le_of_ble_eq_true rfl, Nat.le_of_ble_eq_true rfl⟩ (fun H locs hQ hS hk => ?_)
  have hP1 := keep_x hP1 hk
  have hP2 := hQ
  refine lv_icmp_eq (tgt := 1349) hx hb dL_law_657 (by decide) (fun _ => ?_) (fun cc => absurd rfl cc)
  exact kk μ' ν' H locs hSim hP1 hP2 hS
set_option maxRecDepth 100000 in
set_option maxHeartbeats 4000000 in
theorem law_c14 {Sim : Nat → Mem → Mem → Prop} {g : Gx} {p : Program} {l : Launch} {e : Env} {s : State} {m : MethodId} {below : List Frame} {meth : Method} {c : Code} {b L : Nat} {xs : Nat → Int32} (C0 : LC g p s m c b L xs) (O : OpsOK Sim) {i : Nat} (hi : i < 512) {x3 : Int32} (hi1 : vp_in (x3 + (1 : Int32)) L) (hi2 : vp_in (x3 + (2 : Int32)) L) (hi3 : vp_in (x3 + (3 : Int32)) L) (hi4 : vp_in (x3 + (4 : Int32)) L) (hi5 : vp_in (x3 + (5 : Int32)) L) {μ ν : Mem} (hSim : Sim i μ ν) {H : Heap} {locs : List Loc} {ls : Array Slot} (hP1 : Px Lx (gB g g.2.2.1) μ H) (hP2 : Px Lm (gB g (g.2.2.1 + 96)) ν H) (hS : va_S (An g) s.heap H locs) (hl : lv_has ls 4 [(0, .ref b), (1, .ref (g.2.2.1 + 0)), (2, .ref (g.2.2.1 + 96 + 0)), (3, .int x3)])
    (kk : ∀ (μ' ν' : Mem) (H : Heap) (locs : List Loc), Sim (i + 1) μ' ν' → Px Lx (gB g g.2.2.1) μ' H → Px Lm (gB g (g.2.2.1 + 96)) ν' H → va_S (An g) s.heap H locs → W p l e room_1 s m #[Value.ref b] below meth c H locs 108 10362 (lw_Z below #[Value.ref b] s) (F0 m 1349 ls [])) : W p l e room_1 s m #[Value.ref b] below meth c H locs 108 10362 (lw_Z below #[Value.ref b] s) (F0 m 662 ls []) := by
  obtain ⟨hx, hb, hml, hown, hts, hX, hbl, hbase, hK⟩ := id C0
  have hbA : ¬ An g b := fun z => by change g.2.2.1 ≤ b at z; omega
  obtain ⟨r, μ', ν', h1, h2, hSim⟩ := O.2.2.2.2.2.2.2.2.2.2.2.2.2.2.1 i μ ν (xs (x3 + (1 : Int32)).toNatClampNeg) (xs (x3 + (2 : Int32)).toNatClampNeg) hSim hi
  refine lv_aload_n hx hb dL_law_662 rfl (lv_at hl 1 rfl) ?_
  refine lv_aload_n hx hb dL_law_663 rfl (lv_at hl 0 rfl) ?_
  refine lv_iload_n hx hb dL_law_664 rfl (lv_at hl 3 rfl) ?_
  refine lv_iconst (v := (1 : Int32)) hx hb dL_law_665 rfl ?_
  refine lv_iadd hx hb dL_law_666 ?_
  refine va_sld hx hb hX hbl hbA hS hi1 dL_law_667 ?_
  refine lv_aload_n hx hb dL_law_668 rfl (lv_at hl 0 rfl) ?_
  refine lv_iload_n hx hb dL_law_669 rfl (lv_at hl 3 rfl) ?_
  refine lv_iconst (v := (2 : Int32)) hx hb dL_law_670 rfl ?_
  refine lv_iadd hx hb dL_law_671 ?_
  refine va_sld hx hb hX hbl hbA hS hi2 dL_law_672 ?_
  refine l_call (Ly := Lx) (B := g.2.2.1) hx hb hml hown hts hK An_x (rest := []) (As := [.int (xs (x3 + (1 : Int32)).toNatClampNeg), .int (xs (x3 + (2 : Int32)).toNatClampNeg)]) (q := (RX9, TX9, 9)) (c_X9_inForce l (gB g g.2.2.1) (xs (x3 + (1 : Int32)).toNatClampNeg) (xs (x3 + (2 : Int32)).toNatClampNeg) μ h1) q3_128 q3_125 q3_126 q3_127 q1_1 hd_X9_inForce ⟨rfl, rfl⟩ ⟨Nat.le_of_ble_eq_true rfl, Nat.le_of_ble_eq_true rfl⟩ cx_0 (by decide) rfl hP1 hS hl.1 rfl rfl (Nat.le_of_ble_eq_true rfl) dL_law_673 ⟨Nat.le_of_ble_eq_true rfl, Nat.le_of_ble_eq_true rfl⟩ (fun H locs hQ hS hk => ?_)
  have hP2 := keep_m hP2 hk
  have hP1 := hQ
  refine lv_aload_n hx hb dL_law_676 rfl (lv_at hl 2 rfl) ?_
  refine lv_aload_n hx hb dL_law_677 rfl (lv_at hl 0 rfl) ?_
  refine lv_iload_n hx hb dL_law_678 rfl (lv_at hl 3 rfl) ?_
  refine lv_iconst (v := (1 : Int32)) hx hb dL_law_679 rfl ?_
  refine lv_iadd hx hb dL_law_680 ?_
  refine va_sld hx hb hX hbl hbA hS hi1 dL_law_681 ?_
  refine lv_aload_n hx hb dL_law_682 rfl (lv_at hl 0 rfl) ?_
  refine lv_iload_n hx hb dL_law_683 rfl (lv_at hl 3 rfl) ?_
  refine lv_iconst (v := (2 : Int32)) hx hb dL_law_684 rfl ?_
  refine lv_iadd hx hb dL_law_685 ?_
  refine va_sld hx hb hX hbl hbA hS hi2 dL_law_686 ?_
  refine l_call (Ly := Lm) (B := (g.2.2.1 + 96)) hx hb hml hown hts hK An_m (rest := [.int r]) (As := [.int (xs (x3 + (1 : Int32)).toNatClampNeg), .int (xs (x3 + (2 : Int32)).toNatClampNeg)]) (q := (RX10, TX10, 22)) (c_X10_inForce l (gB g (g.2.2.1 + 96)) (xs (x3 + (1 : Int32)).toNatClampNeg) (xs (x3 + (2 : Int32)).toNatClampNeg) ν h2) q5_127 q5_124 q5_125 q5_126 q1_11 hd_X10_inForce ⟨rfl, rfl⟩ ⟨Nat.le_of_ble_eq_true rfl, Nat.le_of_ble_eq_true rfl⟩ cm_0 (by decide) rfl hP2 hS hl.1 rfl rfl (Nat.le_of_ble_eq_true rfl) dL_law_687 ⟨Nat.le_of_ble_eq_true rfl, Nat.le_of_ble_eq_true rfl⟩ (fun H locs hQ hS hk => ?_)
  have hP1 := keep_x hP1 hk
  have hP2 := hQ
  refine lv_icmp_eq (tgt := 1349) hx hb dL_law_690 (by decide) (fun _ => ?_) (fun cc => absurd rfl cc)
  exact kk μ' ν' H locs hSim hP1 hP2 hS
set_option maxRecDepth 100000 in
set_option maxHeartbeats 4000000 in
theorem law_c15 {Sim : Nat → Mem → Mem → Prop} {g : Gx} {p : Program} {l : Launch} {e : Env} {s : State} {m : MethodId} {below : List Frame} {meth : Method} {c : Code} {b L : Nat} {xs : Nat → Int32} (C0 : LC g p s m c b L xs) (O : OpsOK Sim) {i : Nat} (hi : i < 512) {x3 : Int32} (hi1 : vp_in (x3 + (1 : Int32)) L) (hi2 : vp_in (x3 + (2 : Int32)) L) (hi3 : vp_in (x3 + (3 : Int32)) L) (hi4 : vp_in (x3 + (4 : Int32)) L) (hi5 : vp_in (x3 + (5 : Int32)) L) {μ ν : Mem} (hSim : Sim i μ ν) {H : Heap} {locs : List Loc} {ls : Array Slot} (hP1 : Px Lx (gB g g.2.2.1) μ H) (hP2 : Px Lm (gB g (g.2.2.1 + 96)) ν H) (hS : va_S (An g) s.heap H locs) (hl : lv_has ls 4 [(0, .ref b), (1, .ref (g.2.2.1 + 0)), (2, .ref (g.2.2.1 + 96 + 0)), (3, .int x3)])
    (kk : ∀ (μ' ν' : Mem) (H : Heap) (locs : List Loc), Sim (i + 1) μ' ν' → Px Lx (gB g g.2.2.1) μ' H → Px Lm (gB g (g.2.2.1 + 96)) ν' H → va_S (An g) s.heap H locs → W p l e room_1 s m #[Value.ref b] below meth c H locs 108 10362 (lw_Z below #[Value.ref b] s) (F0 m 1349 ls [])) : W p l e room_1 s m #[Value.ref b] below meth c H locs 108 10362 (lw_Z below #[Value.ref b] s) (F0 m 695 ls []) := by
  obtain ⟨hx, hb, hml, hown, hts, hX, hbl, hbase, hK⟩ := id C0
  have hbA : ¬ An g b := fun z => by change g.2.2.1 ≤ b at z; omega
  obtain ⟨r, μ', ν', h1, h2, hSim⟩ := O.2.2.2.2.2.2.2.2.2.2.2.2.2.2.2.1 i μ ν (xs (x3 + (1 : Int32)).toNatClampNeg) (xs (x3 + (2 : Int32)).toNatClampNeg) (xs (x3 + (3 : Int32)).toNatClampNeg) hSim hi
  refine lv_aload_n hx hb dL_law_695 rfl (lv_at hl 1 rfl) ?_
  refine lv_aload_n hx hb dL_law_696 rfl (lv_at hl 0 rfl) ?_
  refine lv_iload_n hx hb dL_law_697 rfl (lv_at hl 3 rfl) ?_
  refine lv_iconst (v := (1 : Int32)) hx hb dL_law_698 rfl ?_
  refine lv_iadd hx hb dL_law_699 ?_
  refine va_sld hx hb hX hbl hbA hS hi1 dL_law_700 ?_
  refine lv_aload_n hx hb dL_law_701 rfl (lv_at hl 0 rfl) ?_
  refine lv_iload_n hx hb dL_law_702 rfl (lv_at hl 3 rfl) ?_
  refine lv_iconst (v := (2 : Int32)) hx hb dL_law_703 rfl ?_
  refine lv_iadd hx hb dL_law_704 ?_
  refine va_sld hx hb hX hbl hbA hS hi2 dL_law_705 ?_
  refine lv_aload_n hx hb dL_law_706 rfl (lv_at hl 0 rfl) ?_
  refine lv_iload_n hx hb dL_law_707 rfl (lv_at hl 3 rfl) ?_
  refine lv_iconst (v := (3 : Int32)) hx hb dL_law_708 rfl ?_
  refine lv_iadd hx hb dL_law_709 ?_
  refine va_sld hx hb hX hbl hbA hS hi3 dL_law_710 ?_
  refine l_call (Ly := Lx) (B := g.2.2.1) hx hb hml hown hts hK An_x (rest := []) (As := [.int (xs (x3 + (1 : Int32)).toNatClampNeg), .int (xs (x3 + (2 : Int32)).toNatClampNeg), .int (xs (x3 + (3 : Int32)).toNatClampNeg)]) (q := (RX9, TX9, 9)) (c_X9_says l (gB g g.2.2.1) (xs (x3 + (1 : Int32)).toNatClampNeg) (xs (x3 + (2 : Int32)).toNatClampNeg) (xs (x3 + (3 : Int32)).toNatClampNeg) μ h1) q3_132 q3_129 q3_130 q3_131 q1_1 hd_X9_says ⟨rfl, rfl⟩ ⟨Nat.le_of_ble_eq_true rfl, Nat.le_of_ble_eq_true rfl⟩ cx_0 (by decide) rfl hP1 hS hl.1 rfl rfl (Nat.le_of_ble_eq_true rfl) dL_law_711 ⟨Nat.le_of_ble_eq_true rfl, Nat.le_of_ble_eq_true rfl⟩ (fun H locs hQ hS hk => ?_)
  have hP2 := keep_m hP2 hk
  have hP1 := hQ
  refine lv_aload_n hx hb dL_law_714 rfl (lv_at hl 2 rfl) ?_
  refine lv_aload_n hx hb dL_law_715 rfl (lv_at hl 0 rfl) ?_
  refine lv_iload_n hx hb dL_law_716 rfl (lv_at hl 3 rfl) ?_
  refine lv_iconst (v := (1 : Int32)) hx hb dL_law_717 rfl ?_
  refine lv_iadd hx hb dL_law_718 ?_
  refine va_sld hx hb hX hbl hbA hS hi1 dL_law_719 ?_
  refine lv_aload_n hx hb dL_law_720 rfl (lv_at hl 0 rfl) ?_
  refine lv_iload_n hx hb dL_law_721 rfl (lv_at hl 3 rfl) ?_
  refine lv_iconst (v := (2 : Int32)) hx hb dL_law_722 rfl ?_
  refine lv_iadd hx hb dL_law_723 ?_
  refine va_sld hx hb hX hbl hbA hS hi2 dL_law_724 ?_
  refine lv_aload_n hx hb dL_law_725 rfl (lv_at hl 0 rfl) ?_
  refine lv_iload_n hx hb dL_law_726 rfl (lv_at hl 3 rfl) ?_
  refine lv_iconst (v := (3 : Int32)) hx hb dL_law_727 rfl ?_
  refine lv_iadd hx hb dL_law_728 ?_
  refine va_sld hx hb hX hbl hbA hS hi3 dL_law_729 ?_
  refine l_call (Ly := Lm) (B := (g.2.2.1 + 96)) hx hb hml hown hts hK An_m (rest := [.int r]) (As := [.int (xs (x3 + (1 : Int32)).toNatClampNeg), .int (xs (x3 + (2 : Int32)).toNatClampNeg), .int (xs (x3 + (3 : Int32)).toNatClampNeg)]) (q := (RX10, TX10, 22)) (c_X10_says l (gB g (g.2.2.1 + 96)) (xs (x3 + (1 : Int32)).toNatClampNeg) (xs (x3 + (2 : Int32)).toNatClampNeg) (xs (x3 + (3 : Int32)).toNatClampNeg) ν h2) q5_131 q5_128 q5_129 q5_130 q1_11 hd_X10_says ⟨rfl, rfl⟩ ⟨Nat.le_of_ble_eq_true rfl, Nat.le_of_ble_eq_true rfl⟩ cm_0 (by decide) rfl hP2 hS hl.1 rfl rfl (Nat.le_of_ble_eq_true rfl) dL_law_730 ⟨Nat.le_of_ble_eq_true rfl, Nat.le_of_ble_eq_true rfl⟩ (fun H locs hQ hS hk => ?_)
  have hP1 := keep_x hP1 hk
  have hP2 := hQ
  refine lv_icmp_eq (tgt := 1349) hx hb dL_law_733 (by decide) (fun _ => ?_) (fun cc => absurd rfl cc)
  exact kk μ' ν' H locs hSim hP1 hP2 hS
set_option maxRecDepth 100000 in
set_option maxHeartbeats 4000000 in
theorem law_c16 {Sim : Nat → Mem → Mem → Prop} {g : Gx} {p : Program} {l : Launch} {e : Env} {s : State} {m : MethodId} {below : List Frame} {meth : Method} {c : Code} {b L : Nat} {xs : Nat → Int32} (C0 : LC g p s m c b L xs) (O : OpsOK Sim) {i : Nat} (hi : i < 512) {x3 : Int32} (hi1 : vp_in (x3 + (1 : Int32)) L) (hi2 : vp_in (x3 + (2 : Int32)) L) (hi3 : vp_in (x3 + (3 : Int32)) L) (hi4 : vp_in (x3 + (4 : Int32)) L) (hi5 : vp_in (x3 + (5 : Int32)) L) {μ ν : Mem} (hSim : Sim i μ ν) {H : Heap} {locs : List Loc} {ls : Array Slot} (hP1 : Px Lx (gB g g.2.2.1) μ H) (hP2 : Px Lm (gB g (g.2.2.1 + 96)) ν H) (hS : va_S (An g) s.heap H locs) (hl : lv_has ls 4 [(0, .ref b), (1, .ref (g.2.2.1 + 0)), (2, .ref (g.2.2.1 + 96 + 0)), (3, .int x3)])
    (kk : ∀ (μ' ν' : Mem) (H : Heap) (locs : List Loc), Sim (i + 1) μ' ν' → Px Lx (gB g g.2.2.1) μ' H → Px Lm (gB g (g.2.2.1 + 96)) ν' H → va_S (An g) s.heap H locs → W p l e room_1 s m #[Value.ref b] below meth c H locs 108 10362 (lw_Z below #[Value.ref b] s) (F0 m 1349 ls [])) : W p l e room_1 s m #[Value.ref b] below meth c H locs 108 10362 (lw_Z below #[Value.ref b] s) (F0 m 738 ls []) := by
  obtain ⟨hx, hb, hml, hown, hts, hX, hbl, hbase, hK⟩ := id C0
  have hbA : ¬ An g b := fun z => by change g.2.2.1 ≤ b at z; omega
  obtain ⟨r, μ', ν', h1, h2, hSim⟩ := O.2.2.2.2.2.2.2.2.2.2.2.2.2.2.2.2.1 i μ ν (xs (x3 + (1 : Int32)).toNatClampNeg) (xs (x3 + (2 : Int32)).toNatClampNeg) hSim hi
  refine lv_aload_n hx hb dL_law_738 rfl (lv_at hl 1 rfl) ?_
  refine lv_aload_n hx hb dL_law_739 rfl (lv_at hl 0 rfl) ?_
  refine lv_iload_n hx hb dL_law_740 rfl (lv_at hl 3 rfl) ?_
  refine lv_iconst (v := (1 : Int32)) hx hb dL_law_741 rfl ?_
  refine lv_iadd hx hb dL_law_742 ?_
  refine va_sld hx hb hX hbl hbA hS hi1 dL_law_743 ?_
  refine lv_aload_n hx hb dL_law_744 rfl (lv_at hl 0 rfl) ?_
  refine lv_iload_n hx hb dL_law_745 rfl (lv_at hl 3 rfl) ?_
  refine lv_iconst (v := (2 : Int32)) hx hb dL_law_746 rfl ?_
  refine lv_iadd hx hb dL_law_747 ?_
  refine va_sld hx hb hX hbl hbA hS hi2 dL_law_748 ?_
  refine l_call (Ly := Lx) (B := g.2.2.1) hx hb hml hown hts hK An_x (rest := []) (As := [.int (xs (x3 + (1 : Int32)).toNatClampNeg), .int (xs (x3 + (2 : Int32)).toNatClampNeg)]) (q := (RX9, TX9, 9)) (c_X9_rate l (gB g g.2.2.1) (xs (x3 + (1 : Int32)).toNatClampNeg) (xs (x3 + (2 : Int32)).toNatClampNeg) μ h1) q3_138 q3_135 q3_136 q3_137 q1_1 hd_X9_rate ⟨rfl, rfl⟩ ⟨Nat.le_of_ble_eq_true rfl, Nat.le_of_ble_eq_true rfl⟩ cx_0 (by decide) rfl hP1 hS hl.1 rfl rfl (Nat.le_of_ble_eq_true rfl) dL_law_749 ⟨Nat.le_of_ble_eq_true rfl, Nat.le_of_ble_eq_true rfl⟩ (fun H locs hQ hS hk => ?_)
  have hP2 := keep_m hP2 hk
  have hP1 := hQ
  refine lv_aload_n hx hb dL_law_752 rfl (lv_at hl 2 rfl) ?_
  refine lv_aload_n hx hb dL_law_753 rfl (lv_at hl 0 rfl) ?_
  refine lv_iload_n hx hb dL_law_754 rfl (lv_at hl 3 rfl) ?_
  refine lv_iconst (v := (1 : Int32)) hx hb dL_law_755 rfl ?_
  refine lv_iadd hx hb dL_law_756 ?_
  refine va_sld hx hb hX hbl hbA hS hi1 dL_law_757 ?_
  refine lv_aload_n hx hb dL_law_758 rfl (lv_at hl 0 rfl) ?_
  refine lv_iload_n hx hb dL_law_759 rfl (lv_at hl 3 rfl) ?_
  refine lv_iconst (v := (2 : Int32)) hx hb dL_law_760 rfl ?_
  refine lv_iadd hx hb dL_law_761 ?_
  refine va_sld hx hb hX hbl hbA hS hi2 dL_law_762 ?_
  refine l_call (Ly := Lm) (B := (g.2.2.1 + 96)) hx hb hml hown hts hK An_m (rest := [.int r]) (As := [.int (xs (x3 + (1 : Int32)).toNatClampNeg), .int (xs (x3 + (2 : Int32)).toNatClampNeg)]) (q := (RX10, TX10, 22)) (c_X10_rate l (gB g (g.2.2.1 + 96)) (xs (x3 + (1 : Int32)).toNatClampNeg) (xs (x3 + (2 : Int32)).toNatClampNeg) ν h2) q5_135 q5_132 q5_133 q5_134 q1_11 hd_X10_rate ⟨rfl, rfl⟩ ⟨Nat.le_of_ble_eq_true rfl, Nat.le_of_ble_eq_true rfl⟩ cm_0 (by decide) rfl hP2 hS hl.1 rfl rfl (Nat.le_of_ble_eq_true rfl) dL_law_763 ⟨Nat.le_of_ble_eq_true rfl, Nat.le_of_ble_eq_true rfl⟩ (fun H locs hQ hS hk => ?_)
  have hP1 := keep_x hP1 hk
  have hP2 := hQ
  refine lv_icmp_eq (tgt := 1349) hx hb dL_law_766 (by decide) (fun _ => ?_) (fun cc => absurd rfl cc)
  exact kk μ' ν' H locs hSim hP1 hP2 hS
set_option maxRecDepth 100000 in
set_option maxHeartbeats 4000000 in
theorem law_c17 {Sim : Nat → Mem → Mem → Prop} {g : Gx} {p : Program} {l : Launch} {e : Env} {s : State} {m : MethodId} {below : List Frame} {meth : Method} {c : Code} {b L : Nat} {xs : Nat → Int32} (C0 : LC g p s m c b L xs) (O : OpsOK Sim) {i : Nat} (hi : i < 512) {x3 : Int32} (hi1 : vp_in (x3 + (1 : Int32)) L) (hi2 : vp_in (x3 + (2 : Int32)) L) (hi3 : vp_in (x3 + (3 : Int32)) L) (hi4 : vp_in (x3 + (4 : Int32)) L) (hi5 : vp_in (x3 + (5 : Int32)) L) {μ ν : Mem} (hSim : Sim i μ ν) {H : Heap} {locs : List Loc} {ls : Array Slot} (hP1 : Px Lx (gB g g.2.2.1) μ H) (hP2 : Px Lm (gB g (g.2.2.1 + 96)) ν H) (hS : va_S (An g) s.heap H locs) (hl : lv_has ls 4 [(0, .ref b), (1, .ref (g.2.2.1 + 0)), (2, .ref (g.2.2.1 + 96 + 0)), (3, .int x3)])
    (kk : ∀ (μ' ν' : Mem) (H : Heap) (locs : List Loc), Sim (i + 1) μ' ν' → Px Lx (gB g g.2.2.1) μ' H → Px Lm (gB g (g.2.2.1 + 96)) ν' H → va_S (An g) s.heap H locs → W p l e room_1 s m #[Value.ref b] below meth c H locs 108 10362 (lw_Z below #[Value.ref b] s) (F0 m 1349 ls [])) : W p l e room_1 s m #[Value.ref b] below meth c H locs 108 10362 (lw_Z below #[Value.ref b] s) (F0 m 771 ls []) := by
  obtain ⟨hx, hb, hml, hown, hts, hX, hbl, hbase, hK⟩ := id C0
  have hbA : ¬ An g b := fun z => by change g.2.2.1 ≤ b at z; omega
  obtain ⟨r, μ', ν', h1, h2, hSim⟩ := O.2.2.2.2.2.2.2.2.2.2.2.2.2.2.2.2.2.1 i μ ν (xs (x3 + (1 : Int32)).toNatClampNeg) hSim hi
  refine lv_aload_n hx hb dL_law_771 rfl (lv_at hl 1 rfl) ?_
  refine lv_aload_n hx hb dL_law_772 rfl (lv_at hl 0 rfl) ?_
  refine lv_iload_n hx hb dL_law_773 rfl (lv_at hl 3 rfl) ?_
  refine lv_iconst (v := (1 : Int32)) hx hb dL_law_774 rfl ?_
  refine lv_iadd hx hb dL_law_775 ?_
  refine va_sld hx hb hX hbl hbA hS hi1 dL_law_776 ?_
  refine l_call (Ly := Lx) (B := g.2.2.1) hx hb hml hown hts hK An_x (rest := []) (As := [.int (xs (x3 + (1 : Int32)).toNatClampNeg)]) (q := (RX9, TX9, 9)) (c_X9_go l (gB g g.2.2.1) (xs (x3 + (1 : Int32)).toNatClampNeg) μ h1) q3_150 q3_147 q3_148 q3_149 q1_1 hd_X9_go ⟨rfl, rfl⟩ ⟨Nat.le_of_ble_eq_true rfl, Nat.le_of_ble_eq_true rfl⟩ cx_0 (by decide) rfl hP1 hS hl.1 rfl rfl (Nat.le_of_ble_eq_true rfl) dL_law_777 ⟨Nat.le_of_ble_eq_true rfl, Nat.le_of_ble_eq_true rfl⟩ (fun H locs hQ hS hk => ?_)
  have hP2 := keep_m hP2 hk
  have hP1 := hQ
  refine lv_aload_n hx hb dL_law_780 rfl (lv_at hl 2 rfl) ?_
  refine lv_aload_n hx hb dL_law_781 rfl (lv_at hl 0 rfl) ?_
  refine lv_iload_n hx hb dL_law_782 rfl (lv_at hl 3 rfl) ?_
  refine lv_iconst (v := (1 : Int32)) hx hb dL_law_783 rfl ?_
  refine lv_iadd hx hb dL_law_784 ?_
  refine va_sld hx hb hX hbl hbA hS hi1 dL_law_785 ?_
  refine l_call (Ly := Lm) (B := (g.2.2.1 + 96)) hx hb hml hown hts hK An_m (rest := [.int r]) (As := [.int (xs (x3 + (1 : Int32)).toNatClampNeg)]) (q := (RX10, TX10, 22)) (c_X10_go l (gB g (g.2.2.1 + 96)) (xs (x3 + (1 : Int32)).toNatClampNeg) ν h2) q5_147 q5_144 q5_145 q5_146 q1_11 hd_X10_go ⟨rfl, rfl⟩ ⟨Nat.le_of_ble_eq_true rfl, Nat.le_of_ble_eq_true rfl⟩ cm_0 (by decide) rfl hP2 hS hl.1 rfl rfl (Nat.le_of_ble_eq_true rfl) dL_law_786 ⟨Nat.le_of_ble_eq_true rfl, Nat.le_of_ble_eq_true rfl⟩ (fun H locs hQ hS hk => ?_)
  have hP1 := keep_x hP1 hk
  have hP2 := hQ
  refine lv_icmp_eq (tgt := 1349) hx hb dL_law_789 (by decide) (fun _ => ?_) (fun cc => absurd rfl cc)
  exact kk μ' ν' H locs hSim hP1 hP2 hS
set_option maxRecDepth 100000 in
set_option maxHeartbeats 4000000 in
theorem law_c18 {Sim : Nat → Mem → Mem → Prop} {g : Gx} {p : Program} {l : Launch} {e : Env} {s : State} {m : MethodId} {below : List Frame} {meth : Method} {c : Code} {b L : Nat} {xs : Nat → Int32} (C0 : LC g p s m c b L xs) (O : OpsOK Sim) {i : Nat} (hi : i < 512) {x3 : Int32} (hi1 : vp_in (x3 + (1 : Int32)) L) (hi2 : vp_in (x3 + (2 : Int32)) L) (hi3 : vp_in (x3 + (3 : Int32)) L) (hi4 : vp_in (x3 + (4 : Int32)) L) (hi5 : vp_in (x3 + (5 : Int32)) L) {μ ν : Mem} (hSim : Sim i μ ν) {H : Heap} {locs : List Loc} {ls : Array Slot} (hP1 : Px Lx (gB g g.2.2.1) μ H) (hP2 : Px Lm (gB g (g.2.2.1 + 96)) ν H) (hS : va_S (An g) s.heap H locs) (hl : lv_has ls 4 [(0, .ref b), (1, .ref (g.2.2.1 + 0)), (2, .ref (g.2.2.1 + 96 + 0)), (3, .int x3)])
    (kk : ∀ (μ' ν' : Mem) (H : Heap) (locs : List Loc), Sim (i + 1) μ' ν' → Px Lx (gB g g.2.2.1) μ' H → Px Lm (gB g (g.2.2.1 + 96)) ν' H → va_S (An g) s.heap H locs → W p l e room_1 s m #[Value.ref b] below meth c H locs 108 10362 (lw_Z below #[Value.ref b] s) (F0 m 1349 ls [])) : W p l e room_1 s m #[Value.ref b] below meth c H locs 108 10362 (lw_Z below #[Value.ref b] s) (F0 m 794 ls []) := by
  obtain ⟨hx, hb, hml, hown, hts, hX, hbl, hbase, hK⟩ := id C0
  have hbA : ¬ An g b := fun z => by change g.2.2.1 ≤ b at z; omega
  obtain ⟨r, μ', ν', h1, h2, hSim⟩ := O.2.2.2.2.2.2.2.2.2.2.2.2.2.2.2.2.2.2.1 i μ ν (xs (x3 + (1 : Int32)).toNatClampNeg) (xs (x3 + (2 : Int32)).toNatClampNeg) (xs (x3 + (3 : Int32)).toNatClampNeg) hSim hi
  refine lv_aload_n hx hb dL_law_794 rfl (lv_at hl 1 rfl) ?_
  refine lv_aload_n hx hb dL_law_795 rfl (lv_at hl 0 rfl) ?_
  refine lv_iload_n hx hb dL_law_796 rfl (lv_at hl 3 rfl) ?_
  refine lv_iconst (v := (1 : Int32)) hx hb dL_law_797 rfl ?_
  refine lv_iadd hx hb dL_law_798 ?_
  refine va_sld hx hb hX hbl hbA hS hi1 dL_law_799 ?_
  refine lv_aload_n hx hb dL_law_800 rfl (lv_at hl 0 rfl) ?_
  refine lv_iload_n hx hb dL_law_801 rfl (lv_at hl 3 rfl) ?_
  refine lv_iconst (v := (2 : Int32)) hx hb dL_law_802 rfl ?_
  refine lv_iadd hx hb dL_law_803 ?_
  refine va_sld hx hb hX hbl hbA hS hi2 dL_law_804 ?_
  refine lv_aload_n hx hb dL_law_805 rfl (lv_at hl 0 rfl) ?_
  refine lv_iload_n hx hb dL_law_806 rfl (lv_at hl 3 rfl) ?_
  refine lv_iconst (v := (3 : Int32)) hx hb dL_law_807 rfl ?_
  refine lv_iadd hx hb dL_law_808 ?_
  refine va_sld hx hb hX hbl hbA hS hi3 dL_law_809 ?_
  refine l_call (Ly := Lx) (B := g.2.2.1) hx hb hml hown hts hK An_x (rest := []) (As := [.int (xs (x3 + (1 : Int32)).toNatClampNeg), .int (xs (x3 + (2 : Int32)).toNatClampNeg), .int (xs (x3 + (3 : Int32)).toNatClampNeg)]) (q := (RX9, TX9, 9)) (c_X9_read l (gB g g.2.2.1) (xs (x3 + (1 : Int32)).toNatClampNeg) (xs (x3 + (2 : Int32)).toNatClampNeg) (xs (x3 + (3 : Int32)).toNatClampNeg) μ h1) q3_178 q3_175 q3_176 q3_177 q1_1 hd_X9_read ⟨rfl, rfl⟩ ⟨Nat.le_of_ble_eq_true rfl, Nat.le_of_ble_eq_true rfl⟩ cx_0 (by decide) rfl hP1 hS hl.1 rfl rfl (Nat.le_of_ble_eq_true rfl) dL_law_810 ⟨Nat.le_of_ble_eq_true rfl, Nat.le_of_ble_eq_true rfl⟩ (fun H locs hQ hS hk => ?_)
  have hP2 := keep_m hP2 hk
  have hP1 := hQ
  refine lv_aload_n hx hb dL_law_813 rfl (lv_at hl 2 rfl) ?_
  refine lv_aload_n hx hb dL_law_814 rfl (lv_at hl 0 rfl) ?_
  refine lv_iload_n hx hb dL_law_815 rfl (lv_at hl 3 rfl) ?_
  refine lv_iconst (v := (1 : Int32)) hx hb dL_law_816 rfl ?_
  refine lv_iadd hx hb dL_law_817 ?_
  refine va_sld hx hb hX hbl hbA hS hi1 dL_law_818 ?_
  refine lv_aload_n hx hb dL_law_819 rfl (lv_at hl 0 rfl) ?_
  refine lv_iload_n hx hb dL_law_820 rfl (lv_at hl 3 rfl) ?_
  refine lv_iconst (v := (2 : Int32)) hx hb dL_law_821 rfl ?_
  refine lv_iadd hx hb dL_law_822 ?_
  refine va_sld hx hb hX hbl hbA hS hi2 dL_law_823 ?_
  refine lv_aload_n hx hb dL_law_824 rfl (lv_at hl 0 rfl) ?_
  refine lv_iload_n hx hb dL_law_825 rfl (lv_at hl 3 rfl) ?_
  refine lv_iconst (v := (3 : Int32)) hx hb dL_law_826 rfl ?_
  refine lv_iadd hx hb dL_law_827 ?_
  refine va_sld hx hb hX hbl hbA hS hi3 dL_law_828 ?_
  refine l_call (Ly := Lm) (B := (g.2.2.1 + 96)) hx hb hml hown hts hK An_m (rest := [.int r]) (As := [.int (xs (x3 + (1 : Int32)).toNatClampNeg), .int (xs (x3 + (2 : Int32)).toNatClampNeg), .int (xs (x3 + (3 : Int32)).toNatClampNeg)]) (q := (RX10, TX10, 22)) (c_X10_read l (gB g (g.2.2.1 + 96)) (xs (x3 + (1 : Int32)).toNatClampNeg) (xs (x3 + (2 : Int32)).toNatClampNeg) (xs (x3 + (3 : Int32)).toNatClampNeg) ν h2) q5_158 q5_155 q5_156 q5_157 q1_11 hd_X10_read ⟨rfl, rfl⟩ ⟨Nat.le_of_ble_eq_true rfl, Nat.le_of_ble_eq_true rfl⟩ cm_0 (by decide) rfl hP2 hS hl.1 rfl rfl (Nat.le_of_ble_eq_true rfl) dL_law_829 ⟨Nat.le_of_ble_eq_true rfl, Nat.le_of_ble_eq_true rfl⟩ (fun H locs hQ hS hk => ?_)
  have hP1 := keep_x hP1 hk
  have hP2 := hQ
  refine lv_icmp_eq (tgt := 1349) hx hb dL_law_832 (by decide) (fun _ => ?_) (fun cc => absurd rfl cc)
  exact kk μ' ν' H locs hSim hP1 hP2 hS
set_option maxRecDepth 100000 in
set_option maxHeartbeats 4000000 in
theorem law_c19 {Sim : Nat → Mem → Mem → Prop} {g : Gx} {p : Program} {l : Launch} {e : Env} {s : State} {m : MethodId} {below : List Frame} {meth : Method} {c : Code} {b L : Nat} {xs : Nat → Int32} (C0 : LC g p s m c b L xs) (O : OpsOK Sim) {i : Nat} (hi : i < 512) {x3 : Int32} (hi1 : vp_in (x3 + (1 : Int32)) L) (hi2 : vp_in (x3 + (2 : Int32)) L) (hi3 : vp_in (x3 + (3 : Int32)) L) (hi4 : vp_in (x3 + (4 : Int32)) L) (hi5 : vp_in (x3 + (5 : Int32)) L) {μ ν : Mem} (hSim : Sim i μ ν) {H : Heap} {locs : List Loc} {ls : Array Slot} (hP1 : Px Lx (gB g g.2.2.1) μ H) (hP2 : Px Lm (gB g (g.2.2.1 + 96)) ν H) (hS : va_S (An g) s.heap H locs) (hl : lv_has ls 4 [(0, .ref b), (1, .ref (g.2.2.1 + 0)), (2, .ref (g.2.2.1 + 96 + 0)), (3, .int x3)])
    (kk : ∀ (μ' ν' : Mem) (H : Heap) (locs : List Loc), Sim (i + 1) μ' ν' → Px Lx (gB g g.2.2.1) μ' H → Px Lm (gB g (g.2.2.1 + 96)) ν' H → va_S (An g) s.heap H locs → W p l e room_1 s m #[Value.ref b] below meth c H locs 108 10362 (lw_Z below #[Value.ref b] s) (F0 m 1349 ls [])) : W p l e room_1 s m #[Value.ref b] below meth c H locs 108 10362 (lw_Z below #[Value.ref b] s) (F0 m 837 ls []) := by
  obtain ⟨hx, hb, hml, hown, hts, hX, hbl, hbase, hK⟩ := id C0
  have hbA : ¬ An g b := fun z => by change g.2.2.1 ≤ b at z; omega
  obtain ⟨r, μ', ν', h1, h2, hSim⟩ := O.2.2.2.2.2.2.2.2.2.2.2.2.2.2.2.2.2.2.2.1 i μ ν (xs (x3 + (1 : Int32)).toNatClampNeg) (xs (x3 + (2 : Int32)).toNatClampNeg) (xs (x3 + (3 : Int32)).toNatClampNeg) (xs (x3 + (4 : Int32)).toNatClampNeg) hSim hi
  refine lv_aload_n hx hb dL_law_837 rfl (lv_at hl 1 rfl) ?_
  refine lv_aload_n hx hb dL_law_838 rfl (lv_at hl 0 rfl) ?_
  refine lv_iload_n hx hb dL_law_839 rfl (lv_at hl 3 rfl) ?_
  refine lv_iconst (v := (1 : Int32)) hx hb dL_law_840 rfl ?_
  refine lv_iadd hx hb dL_law_841 ?_
  refine va_sld hx hb hX hbl hbA hS hi1 dL_law_842 ?_
  refine lv_aload_n hx hb dL_law_843 rfl (lv_at hl 0 rfl) ?_
  refine lv_iload_n hx hb dL_law_844 rfl (lv_at hl 3 rfl) ?_
  refine lv_iconst (v := (2 : Int32)) hx hb dL_law_845 rfl ?_
  refine lv_iadd hx hb dL_law_846 ?_
  refine va_sld hx hb hX hbl hbA hS hi2 dL_law_847 ?_
  refine lv_aload_n hx hb dL_law_848 rfl (lv_at hl 0 rfl) ?_
  refine lv_iload_n hx hb dL_law_849 rfl (lv_at hl 3 rfl) ?_
  refine lv_iconst (v := (3 : Int32)) hx hb dL_law_850 rfl ?_
  refine lv_iadd hx hb dL_law_851 ?_
  refine va_sld hx hb hX hbl hbA hS hi3 dL_law_852 ?_
  refine lv_aload_n hx hb dL_law_853 rfl (lv_at hl 0 rfl) ?_
  refine lv_iload_n hx hb dL_law_854 rfl (lv_at hl 3 rfl) ?_
  refine lv_iconst (v := (4 : Int32)) hx hb dL_law_855 rfl ?_
  refine lv_iadd hx hb dL_law_856 ?_
  refine va_sld hx hb hX hbl hbA hS hi4 dL_law_857 ?_
  refine l_call (Ly := Lx) (B := g.2.2.1) hx hb hml hown hts hK An_x (rest := []) (As := [.int (xs (x3 + (1 : Int32)).toNatClampNeg), .int (xs (x3 + (2 : Int32)).toNatClampNeg), .int (xs (x3 + (3 : Int32)).toNatClampNeg), .int (xs (x3 + (4 : Int32)).toNatClampNeg)]) (q := (RX9, TX9, 9)) (c_X9_dark l (gB g g.2.2.1) (xs (x3 + (1 : Int32)).toNatClampNeg) (xs (x3 + (2 : Int32)).toNatClampNeg) (xs (x3 + (3 : Int32)).toNatClampNeg) (xs (x3 + (4 : Int32)).toNatClampNeg) μ h1) q3_186 q3_183 q3_184 q3_185 q1_1 hd_X9_dark ⟨rfl, rfl⟩ ⟨Nat.le_of_ble_eq_true rfl, Nat.le_of_ble_eq_true rfl⟩ cx_0 (by decide) rfl hP1 hS hl.1 rfl rfl (Nat.le_of_ble_eq_true rfl) dL_law_858 ⟨Nat.le_of_ble_eq_true rfl, Nat.le_of_ble_eq_true rfl⟩ (fun H locs hQ hS hk => ?_)
  have hP2 := keep_m hP2 hk
  have hP1 := hQ
  refine lv_aload_n hx hb dL_law_861 rfl (lv_at hl 2 rfl) ?_
  refine lv_aload_n hx hb dL_law_862 rfl (lv_at hl 0 rfl) ?_
  refine lv_iload_n hx hb dL_law_863 rfl (lv_at hl 3 rfl) ?_
  refine lv_iconst (v := (1 : Int32)) hx hb dL_law_864 rfl ?_
  refine lv_iadd hx hb dL_law_865 ?_
  refine va_sld hx hb hX hbl hbA hS hi1 dL_law_866 ?_
  refine lv_aload_n hx hb dL_law_867 rfl (lv_at hl 0 rfl) ?_
  refine lv_iload_n hx hb dL_law_868 rfl (lv_at hl 3 rfl) ?_
  refine lv_iconst (v := (2 : Int32)) hx hb dL_law_869 rfl ?_
  refine lv_iadd hx hb dL_law_870 ?_
  refine va_sld hx hb hX hbl hbA hS hi2 dL_law_871 ?_
  refine lv_aload_n hx hb dL_law_872 rfl (lv_at hl 0 rfl) ?_
  refine lv_iload_n hx hb dL_law_873 rfl (lv_at hl 3 rfl) ?_
  refine lv_iconst (v := (3 : Int32)) hx hb dL_law_874 rfl ?_
  refine lv_iadd hx hb dL_law_875 ?_
  refine va_sld hx hb hX hbl hbA hS hi3 dL_law_876 ?_
  refine lv_aload_n hx hb dL_law_877 rfl (lv_at hl 0 rfl) ?_
  refine lv_iload_n hx hb dL_law_878 rfl (lv_at hl 3 rfl) ?_
  refine lv_iconst (v := (4 : Int32)) hx hb dL_law_879 rfl ?_
  refine lv_iadd hx hb dL_law_880 ?_
  refine va_sld hx hb hX hbl hbA hS hi4 dL_law_881 ?_
  refine l_call (Ly := Lm) (B := (g.2.2.1 + 96)) hx hb hml hown hts hK An_m (rest := [.int r]) (As := [.int (xs (x3 + (1 : Int32)).toNatClampNeg), .int (xs (x3 + (2 : Int32)).toNatClampNeg), .int (xs (x3 + (3 : Int32)).toNatClampNeg), .int (xs (x3 + (4 : Int32)).toNatClampNeg)]) (q := (RX10, TX10, 22)) (c_X10_dark l (gB g (g.2.2.1 + 96)) (xs (x3 + (1 : Int32)).toNatClampNeg) (xs (x3 + (2 : Int32)).toNatClampNeg) (xs (x3 + (3 : Int32)).toNatClampNeg) (xs (x3 + (4 : Int32)).toNatClampNeg) ν h2) q5_162 q5_159 q5_160 q5_161 q1_11 hd_X10_dark ⟨rfl, rfl⟩ ⟨Nat.le_of_ble_eq_true rfl, Nat.le_of_ble_eq_true rfl⟩ cm_0 (by decide) rfl hP2 hS hl.1 rfl rfl (Nat.le_of_ble_eq_true rfl) dL_law_882 ⟨Nat.le_of_ble_eq_true rfl, Nat.le_of_ble_eq_true rfl⟩ (fun H locs hQ hS hk => ?_)
  have hP1 := keep_x hP1 hk
  have hP2 := hQ
  refine lv_icmp_eq (tgt := 1349) hx hb dL_law_885 (by decide) (fun _ => ?_) (fun cc => absurd rfl cc)
  exact kk μ' ν' H locs hSim hP1 hP2 hS
set_option maxRecDepth 100000 in
set_option maxHeartbeats 4000000 in
theorem law_c20 {Sim : Nat → Mem → Mem → Prop} {g : Gx} {p : Program} {l : Launch} {e : Env} {s : State} {m : MethodId} {below : List Frame} {meth : Method} {c : Code} {b L : Nat} {xs : Nat → Int32} (C0 : LC g p s m c b L xs) (O : OpsOK Sim) {i : Nat} (hi : i < 512) {x3 : Int32} (hi1 : vp_in (x3 + (1 : Int32)) L) (hi2 : vp_in (x3 + (2 : Int32)) L) (hi3 : vp_in (x3 + (3 : Int32)) L) (hi4 : vp_in (x3 + (4 : Int32)) L) (hi5 : vp_in (x3 + (5 : Int32)) L) {μ ν : Mem} (hSim : Sim i μ ν) {H : Heap} {locs : List Loc} {ls : Array Slot} (hP1 : Px Lx (gB g g.2.2.1) μ H) (hP2 : Px Lm (gB g (g.2.2.1 + 96)) ν H) (hS : va_S (An g) s.heap H locs) (hl : lv_has ls 4 [(0, .ref b), (1, .ref (g.2.2.1 + 0)), (2, .ref (g.2.2.1 + 96 + 0)), (3, .int x3)])
    (kk : ∀ (μ' ν' : Mem) (H : Heap) (locs : List Loc), Sim (i + 1) μ' ν' → Px Lx (gB g g.2.2.1) μ' H → Px Lm (gB g (g.2.2.1 + 96)) ν' H → va_S (An g) s.heap H locs → W p l e room_1 s m #[Value.ref b] below meth c H locs 108 10362 (lw_Z below #[Value.ref b] s) (F0 m 1349 ls [])) : W p l e room_1 s m #[Value.ref b] below meth c H locs 108 10362 (lw_Z below #[Value.ref b] s) (F0 m 890 ls []) := by
  obtain ⟨hx, hb, hml, hown, hts, hX, hbl, hbase, hK⟩ := id C0
  have hbA : ¬ An g b := fun z => by change g.2.2.1 ≤ b at z; omega
  obtain ⟨r, μ', ν', h1, h2, hSim⟩ := O.2.2.2.2.2.2.2.2.2.2.2.2.2.2.2.2.2.2.2.2.1 i μ ν (xs (x3 + (1 : Int32)).toNatClampNeg) (xs (x3 + (2 : Int32)).toNatClampNeg) (xs (x3 + (3 : Int32)).toNatClampNeg) (xs (x3 + (4 : Int32)).toNatClampNeg) hSim hi
  refine lv_aload_n hx hb dL_law_890 rfl (lv_at hl 1 rfl) ?_
  refine lv_aload_n hx hb dL_law_891 rfl (lv_at hl 0 rfl) ?_
  refine lv_iload_n hx hb dL_law_892 rfl (lv_at hl 3 rfl) ?_
  refine lv_iconst (v := (1 : Int32)) hx hb dL_law_893 rfl ?_
  refine lv_iadd hx hb dL_law_894 ?_
  refine va_sld hx hb hX hbl hbA hS hi1 dL_law_895 ?_
  refine lv_aload_n hx hb dL_law_896 rfl (lv_at hl 0 rfl) ?_
  refine lv_iload_n hx hb dL_law_897 rfl (lv_at hl 3 rfl) ?_
  refine lv_iconst (v := (2 : Int32)) hx hb dL_law_898 rfl ?_
  refine lv_iadd hx hb dL_law_899 ?_
  refine va_sld hx hb hX hbl hbA hS hi2 dL_law_900 ?_
  refine lv_aload_n hx hb dL_law_901 rfl (lv_at hl 0 rfl) ?_
  refine lv_iload_n hx hb dL_law_902 rfl (lv_at hl 3 rfl) ?_
  refine lv_iconst (v := (3 : Int32)) hx hb dL_law_903 rfl ?_
  refine lv_iadd hx hb dL_law_904 ?_
  refine va_sld hx hb hX hbl hbA hS hi3 dL_law_905 ?_
  refine lv_aload_n hx hb dL_law_906 rfl (lv_at hl 0 rfl) ?_
  refine lv_iload_n hx hb dL_law_907 rfl (lv_at hl 3 rfl) ?_
  refine lv_iconst (v := (4 : Int32)) hx hb dL_law_908 rfl ?_
  refine lv_iadd hx hb dL_law_909 ?_
  refine va_sld hx hb hX hbl hbA hS hi4 dL_law_910 ?_
  refine l_call (Ly := Lx) (B := g.2.2.1) hx hb hml hown hts hK An_x (rest := []) (As := [.int (xs (x3 + (1 : Int32)).toNatClampNeg), .int (xs (x3 + (2 : Int32)).toNatClampNeg), .int (xs (x3 + (3 : Int32)).toNatClampNeg), .int (xs (x3 + (4 : Int32)).toNatClampNeg)]) (q := (RX9, TX9, 9)) (c_X9_hold l (gB g g.2.2.1) (xs (x3 + (1 : Int32)).toNatClampNeg) (xs (x3 + (2 : Int32)).toNatClampNeg) (xs (x3 + (3 : Int32)).toNatClampNeg) (xs (x3 + (4 : Int32)).toNatClampNeg) μ h1) q3_203 q3_200 q3_201 q3_202 q1_1 hd_X9_hold ⟨rfl, rfl⟩ ⟨Nat.le_of_ble_eq_true rfl, Nat.le_of_ble_eq_true rfl⟩ cx_0 (by decide) rfl hP1 hS hl.1 rfl rfl (Nat.le_of_ble_eq_true rfl) dL_law_911 ⟨Nat.le_of_ble_eq_true rfl, Nat.le_of_ble_eq_true rfl⟩ (fun H locs hQ hS hk => ?_)
  have hP2 := keep_m hP2 hk
  have hP1 := hQ
  refine lv_aload_n hx hb dL_law_914 rfl (lv_at hl 2 rfl) ?_
  refine lv_aload_n hx hb dL_law_915 rfl (lv_at hl 0 rfl) ?_
  refine lv_iload_n hx hb dL_law_916 rfl (lv_at hl 3 rfl) ?_
  refine lv_iconst (v := (1 : Int32)) hx hb dL_law_917 rfl ?_
  refine lv_iadd hx hb dL_law_918 ?_
  refine va_sld hx hb hX hbl hbA hS hi1 dL_law_919 ?_
  refine lv_aload_n hx hb dL_law_920 rfl (lv_at hl 0 rfl) ?_
  refine lv_iload_n hx hb dL_law_921 rfl (lv_at hl 3 rfl) ?_
  refine lv_iconst (v := (2 : Int32)) hx hb dL_law_922 rfl ?_
  refine lv_iadd hx hb dL_law_923 ?_
  refine va_sld hx hb hX hbl hbA hS hi2 dL_law_924 ?_
  refine lv_aload_n hx hb dL_law_925 rfl (lv_at hl 0 rfl) ?_
  refine lv_iload_n hx hb dL_law_926 rfl (lv_at hl 3 rfl) ?_
  refine lv_iconst (v := (3 : Int32)) hx hb dL_law_927 rfl ?_
  refine lv_iadd hx hb dL_law_928 ?_
  refine va_sld hx hb hX hbl hbA hS hi3 dL_law_929 ?_
  refine lv_aload_n hx hb dL_law_930 rfl (lv_at hl 0 rfl) ?_
  refine lv_iload_n hx hb dL_law_931 rfl (lv_at hl 3 rfl) ?_
  refine lv_iconst (v := (4 : Int32)) hx hb dL_law_932 rfl ?_
  refine lv_iadd hx hb dL_law_933 ?_
  refine va_sld hx hb hX hbl hbA hS hi4 dL_law_934 ?_
  refine l_call (Ly := Lm) (B := (g.2.2.1 + 96)) hx hb hml hown hts hK An_m (rest := [.int r]) (As := [.int (xs (x3 + (1 : Int32)).toNatClampNeg), .int (xs (x3 + (2 : Int32)).toNatClampNeg), .int (xs (x3 + (3 : Int32)).toNatClampNeg), .int (xs (x3 + (4 : Int32)).toNatClampNeg)]) (q := (RX10, TX10, 22)) (c_X10_hold l (gB g (g.2.2.1 + 96)) (xs (x3 + (1 : Int32)).toNatClampNeg) (xs (x3 + (2 : Int32)).toNatClampNeg) (xs (x3 + (3 : Int32)).toNatClampNeg) (xs (x3 + (4 : Int32)).toNatClampNeg) ν h2) q5_167 q5_164 q5_165 q5_166 q1_11 hd_X10_hold ⟨rfl, rfl⟩ ⟨Nat.le_of_ble_eq_true rfl, Nat.le_of_ble_eq_true rfl⟩ cm_0 (by decide) rfl hP2 hS hl.1 rfl rfl (Nat.le_of_ble_eq_true rfl) dL_law_935 ⟨Nat.le_of_ble_eq_true rfl, Nat.le_of_ble_eq_true rfl⟩ (fun H locs hQ hS hk => ?_)
  have hP1 := keep_x hP1 hk
  have hP2 := hQ
  refine lv_icmp_eq (tgt := 1349) hx hb dL_law_938 (by decide) (fun _ => ?_) (fun cc => absurd rfl cc)
  exact kk μ' ν' H locs hSim hP1 hP2 hS
set_option maxRecDepth 100000 in
set_option maxHeartbeats 4000000 in
theorem law_c21 {Sim : Nat → Mem → Mem → Prop} {g : Gx} {p : Program} {l : Launch} {e : Env} {s : State} {m : MethodId} {below : List Frame} {meth : Method} {c : Code} {b L : Nat} {xs : Nat → Int32} (C0 : LC g p s m c b L xs) (O : OpsOK Sim) {i : Nat} (hi : i < 512) {x3 : Int32} (hi1 : vp_in (x3 + (1 : Int32)) L) (hi2 : vp_in (x3 + (2 : Int32)) L) (hi3 : vp_in (x3 + (3 : Int32)) L) (hi4 : vp_in (x3 + (4 : Int32)) L) (hi5 : vp_in (x3 + (5 : Int32)) L) {μ ν : Mem} (hSim : Sim i μ ν) {H : Heap} {locs : List Loc} {ls : Array Slot} (hP1 : Px Lx (gB g g.2.2.1) μ H) (hP2 : Px Lm (gB g (g.2.2.1 + 96)) ν H) (hS : va_S (An g) s.heap H locs) (hl : lv_has ls 4 [(0, .ref b), (1, .ref (g.2.2.1 + 0)), (2, .ref (g.2.2.1 + 96 + 0)), (3, .int x3)])
    (kk : ∀ (μ' ν' : Mem) (H : Heap) (locs : List Loc), Sim (i + 1) μ' ν' → Px Lx (gB g g.2.2.1) μ' H → Px Lm (gB g (g.2.2.1 + 96)) ν' H → va_S (An g) s.heap H locs → W p l e room_1 s m #[Value.ref b] below meth c H locs 108 10362 (lw_Z below #[Value.ref b] s) (F0 m 1349 ls [])) : W p l e room_1 s m #[Value.ref b] below meth c H locs 108 10362 (lw_Z below #[Value.ref b] s) (F0 m 943 ls []) := by
  obtain ⟨hx, hb, hml, hown, hts, hX, hbl, hbase, hK⟩ := id C0
  have hbA : ¬ An g b := fun z => by change g.2.2.1 ≤ b at z; omega
  obtain ⟨r, μ', ν', h1, h2, hSim⟩ := O.2.2.2.2.2.2.2.2.2.2.2.2.2.2.2.2.2.2.2.2.2.1 i μ ν (xs (x3 + (1 : Int32)).toNatClampNeg) (xs (x3 + (2 : Int32)).toNatClampNeg) (xs (x3 + (3 : Int32)).toNatClampNeg) hSim hi
  refine lv_aload_n hx hb dL_law_943 rfl (lv_at hl 1 rfl) ?_
  refine lv_aload_n hx hb dL_law_944 rfl (lv_at hl 0 rfl) ?_
  refine lv_iload_n hx hb dL_law_945 rfl (lv_at hl 3 rfl) ?_
  refine lv_iconst (v := (1 : Int32)) hx hb dL_law_946 rfl ?_
  refine lv_iadd hx hb dL_law_947 ?_
  refine va_sld hx hb hX hbl hbA hS hi1 dL_law_948 ?_
  refine lv_aload_n hx hb dL_law_949 rfl (lv_at hl 0 rfl) ?_
  refine lv_iload_n hx hb dL_law_950 rfl (lv_at hl 3 rfl) ?_
  refine lv_iconst (v := (2 : Int32)) hx hb dL_law_951 rfl ?_
  refine lv_iadd hx hb dL_law_952 ?_
  refine va_sld hx hb hX hbl hbA hS hi2 dL_law_953 ?_
  refine lv_aload_n hx hb dL_law_954 rfl (lv_at hl 0 rfl) ?_
  refine lv_iload_n hx hb dL_law_955 rfl (lv_at hl 3 rfl) ?_
  refine lv_iconst (v := (3 : Int32)) hx hb dL_law_956 rfl ?_
  refine lv_iadd hx hb dL_law_957 ?_
  refine va_sld hx hb hX hbl hbA hS hi3 dL_law_958 ?_
  refine l_call (Ly := Lx) (B := g.2.2.1) hx hb hml hown hts hK An_x (rest := []) (As := [.int (xs (x3 + (1 : Int32)).toNatClampNeg), .int (xs (x3 + (2 : Int32)).toNatClampNeg), .int (xs (x3 + (3 : Int32)).toNatClampNeg)]) (q := (RX9, TX9, 9)) (c_X9_greatest l (gB g g.2.2.1) (xs (x3 + (1 : Int32)).toNatClampNeg) (xs (x3 + (2 : Int32)).toNatClampNeg) (xs (x3 + (3 : Int32)).toNatClampNeg) μ h1) q3_232 q3_229 q3_230 q3_231 q1_1 hd_X9_greatest ⟨rfl, rfl⟩ ⟨Nat.le_of_ble_eq_true rfl, Nat.le_of_ble_eq_true rfl⟩ cx_0 (by decide) rfl hP1 hS hl.1 rfl rfl (Nat.le_of_ble_eq_true rfl) dL_law_959 ⟨Nat.le_of_ble_eq_true rfl, Nat.le_of_ble_eq_true rfl⟩ (fun H locs hQ hS hk => ?_)
  have hP2 := keep_m hP2 hk
  have hP1 := hQ
  refine lv_aload_n hx hb dL_law_962 rfl (lv_at hl 2 rfl) ?_
  refine lv_aload_n hx hb dL_law_963 rfl (lv_at hl 0 rfl) ?_
  refine lv_iload_n hx hb dL_law_964 rfl (lv_at hl 3 rfl) ?_
  refine lv_iconst (v := (1 : Int32)) hx hb dL_law_965 rfl ?_
  refine lv_iadd hx hb dL_law_966 ?_
  refine va_sld hx hb hX hbl hbA hS hi1 dL_law_967 ?_
  refine lv_aload_n hx hb dL_law_968 rfl (lv_at hl 0 rfl) ?_
  refine lv_iload_n hx hb dL_law_969 rfl (lv_at hl 3 rfl) ?_
  refine lv_iconst (v := (2 : Int32)) hx hb dL_law_970 rfl ?_
  refine lv_iadd hx hb dL_law_971 ?_
  refine va_sld hx hb hX hbl hbA hS hi2 dL_law_972 ?_
  refine lv_aload_n hx hb dL_law_973 rfl (lv_at hl 0 rfl) ?_
  refine lv_iload_n hx hb dL_law_974 rfl (lv_at hl 3 rfl) ?_
  refine lv_iconst (v := (3 : Int32)) hx hb dL_law_975 rfl ?_
  refine lv_iadd hx hb dL_law_976 ?_
  refine va_sld hx hb hX hbl hbA hS hi3 dL_law_977 ?_
  refine l_call (Ly := Lm) (B := (g.2.2.1 + 96)) hx hb hml hown hts hK An_m (rest := [.int r]) (As := [.int (xs (x3 + (1 : Int32)).toNatClampNeg), .int (xs (x3 + (2 : Int32)).toNatClampNeg), .int (xs (x3 + (3 : Int32)).toNatClampNeg)]) (q := (RX10, TX10, 22)) (c_X10_greatest l (gB g (g.2.2.1 + 96)) (xs (x3 + (1 : Int32)).toNatClampNeg) (xs (x3 + (2 : Int32)).toNatClampNeg) (xs (x3 + (3 : Int32)).toNatClampNeg) ν h2) q5_187 q5_184 q5_185 q5_186 q1_11 hd_X10_greatest ⟨rfl, rfl⟩ ⟨Nat.le_of_ble_eq_true rfl, Nat.le_of_ble_eq_true rfl⟩ cm_0 (by decide) rfl hP2 hS hl.1 rfl rfl (Nat.le_of_ble_eq_true rfl) dL_law_978 ⟨Nat.le_of_ble_eq_true rfl, Nat.le_of_ble_eq_true rfl⟩ (fun H locs hQ hS hk => ?_)
  have hP1 := keep_x hP1 hk
  have hP2 := hQ
  refine lv_icmp_eq (tgt := 1349) hx hb dL_law_981 (by decide) (fun _ => ?_) (fun cc => absurd rfl cc)
  exact kk μ' ν' H locs hSim hP1 hP2 hS
set_option maxRecDepth 100000 in
set_option maxHeartbeats 4000000 in
theorem law_c22 {Sim : Nat → Mem → Mem → Prop} {g : Gx} {p : Program} {l : Launch} {e : Env} {s : State} {m : MethodId} {below : List Frame} {meth : Method} {c : Code} {b L : Nat} {xs : Nat → Int32} (C0 : LC g p s m c b L xs) (O : OpsOK Sim) {i : Nat} (hi : i < 512) {x3 : Int32} (hi1 : vp_in (x3 + (1 : Int32)) L) (hi2 : vp_in (x3 + (2 : Int32)) L) (hi3 : vp_in (x3 + (3 : Int32)) L) (hi4 : vp_in (x3 + (4 : Int32)) L) (hi5 : vp_in (x3 + (5 : Int32)) L) {μ ν : Mem} (hSim : Sim i μ ν) {H : Heap} {locs : List Loc} {ls : Array Slot} (hP1 : Px Lx (gB g g.2.2.1) μ H) (hP2 : Px Lm (gB g (g.2.2.1 + 96)) ν H) (hS : va_S (An g) s.heap H locs) (hl : lv_has ls 4 [(0, .ref b), (1, .ref (g.2.2.1 + 0)), (2, .ref (g.2.2.1 + 96 + 0)), (3, .int x3)])
    (kk : ∀ (μ' ν' : Mem) (H : Heap) (locs : List Loc), Sim (i + 1) μ' ν' → Px Lx (gB g g.2.2.1) μ' H → Px Lm (gB g (g.2.2.1 + 96)) ν' H → va_S (An g) s.heap H locs → W p l e room_1 s m #[Value.ref b] below meth c H locs 108 10362 (lw_Z below #[Value.ref b] s) (F0 m 1349 ls [])) : W p l e room_1 s m #[Value.ref b] below meth c H locs 108 10362 (lw_Z below #[Value.ref b] s) (F0 m 986 ls []) := by
  obtain ⟨hx, hb, hml, hown, hts, hX, hbl, hbase, hK⟩ := id C0
  have hbA : ¬ An g b := fun z => by change g.2.2.1 ≤ b at z; omega
  obtain ⟨r, μ', ν', h1, h2, hSim⟩ := O.2.2.2.2.2.2.2.2.2.2.2.2.2.2.2.2.2.2.2.2.2.2.1 i μ ν (xs (x3 + (1 : Int32)).toNatClampNeg) (xs (x3 + (2 : Int32)).toNatClampNeg) hSim hi
  refine lv_aload_n hx hb dL_law_986 rfl (lv_at hl 1 rfl) ?_
  refine lv_aload_n hx hb dL_law_987 rfl (lv_at hl 0 rfl) ?_
  refine lv_iload_n hx hb dL_law_988 rfl (lv_at hl 3 rfl) ?_
  refine lv_iconst (v := (1 : Int32)) hx hb dL_law_989 rfl ?_
  refine lv_iadd hx hb dL_law_990 ?_
  refine va_sld hx hb hX hbl hbA hS hi1 dL_law_991 ?_
  refine lv_aload_n hx hb dL_law_992 rfl (lv_at hl 0 rfl) ?_
  refine lv_iload_n hx hb dL_law_993 rfl (lv_at hl 3 rfl) ?_
  refine lv_iconst (v := (2 : Int32)) hx hb dL_law_994 rfl ?_
  refine lv_iadd hx hb dL_law_995 ?_
  refine va_sld hx hb hX hbl hbA hS hi2 dL_law_996 ?_
  refine l_call (Ly := Lx) (B := g.2.2.1) hx hb hml hown hts hK An_x (rest := []) (As := [.int (xs (x3 + (1 : Int32)).toNatClampNeg), .int (xs (x3 + (2 : Int32)).toNatClampNeg)]) (q := (RX9, TX9, 9)) (c_X9_fewest l (gB g g.2.2.1) (xs (x3 + (1 : Int32)).toNatClampNeg) (xs (x3 + (2 : Int32)).toNatClampNeg) μ h1) q3_236 q3_233 q3_234 q3_235 q1_1 hd_X9_fewest ⟨rfl, rfl⟩ ⟨Nat.le_of_ble_eq_true rfl, Nat.le_of_ble_eq_true rfl⟩ cx_0 (by decide) rfl hP1 hS hl.1 rfl rfl (Nat.le_of_ble_eq_true rfl) dL_law_997 ⟨Nat.le_of_ble_eq_true rfl, Nat.le_of_ble_eq_true rfl⟩ (fun H locs hQ hS hk => ?_)
  have hP2 := keep_m hP2 hk
  have hP1 := hQ
  refine lv_aload_n hx hb dL_law_1000 rfl (lv_at hl 2 rfl) ?_
  refine lv_aload_n hx hb dL_law_1001 rfl (lv_at hl 0 rfl) ?_
  refine lv_iload_n hx hb dL_law_1002 rfl (lv_at hl 3 rfl) ?_
  refine lv_iconst (v := (1 : Int32)) hx hb dL_law_1003 rfl ?_
  refine lv_iadd hx hb dL_law_1004 ?_
  refine va_sld hx hb hX hbl hbA hS hi1 dL_law_1005 ?_
  refine lv_aload_n hx hb dL_law_1006 rfl (lv_at hl 0 rfl) ?_
  refine lv_iload_n hx hb dL_law_1007 rfl (lv_at hl 3 rfl) ?_
  refine lv_iconst (v := (2 : Int32)) hx hb dL_law_1008 rfl ?_
  refine lv_iadd hx hb dL_law_1009 ?_
  refine va_sld hx hb hX hbl hbA hS hi2 dL_law_1010 ?_
  refine l_call (Ly := Lm) (B := (g.2.2.1 + 96)) hx hb hml hown hts hK An_m (rest := [.int r]) (As := [.int (xs (x3 + (1 : Int32)).toNatClampNeg), .int (xs (x3 + (2 : Int32)).toNatClampNeg)]) (q := (RX10, TX10, 22)) (c_X10_fewest l (gB g (g.2.2.1 + 96)) (xs (x3 + (1 : Int32)).toNatClampNeg) (xs (x3 + (2 : Int32)).toNatClampNeg) ν h2) q5_191 q5_188 q5_189 q5_190 q1_11 hd_X10_fewest ⟨rfl, rfl⟩ ⟨Nat.le_of_ble_eq_true rfl, Nat.le_of_ble_eq_true rfl⟩ cm_0 (by decide) rfl hP2 hS hl.1 rfl rfl (Nat.le_of_ble_eq_true rfl) dL_law_1011 ⟨Nat.le_of_ble_eq_true rfl, Nat.le_of_ble_eq_true rfl⟩ (fun H locs hQ hS hk => ?_)
  have hP1 := keep_x hP1 hk
  have hP2 := hQ
  refine lv_icmp_eq (tgt := 1349) hx hb dL_law_1014 (by decide) (fun _ => ?_) (fun cc => absurd rfl cc)
  exact kk μ' ν' H locs hSim hP1 hP2 hS
set_option maxRecDepth 100000 in
set_option maxHeartbeats 4000000 in
theorem law_c23 {Sim : Nat → Mem → Mem → Prop} {g : Gx} {p : Program} {l : Launch} {e : Env} {s : State} {m : MethodId} {below : List Frame} {meth : Method} {c : Code} {b L : Nat} {xs : Nat → Int32} (C0 : LC g p s m c b L xs) (O : OpsOK Sim) {i : Nat} (hi : i < 512) {x3 : Int32} (hi1 : vp_in (x3 + (1 : Int32)) L) (hi2 : vp_in (x3 + (2 : Int32)) L) (hi3 : vp_in (x3 + (3 : Int32)) L) (hi4 : vp_in (x3 + (4 : Int32)) L) (hi5 : vp_in (x3 + (5 : Int32)) L) {μ ν : Mem} (hSim : Sim i μ ν) {H : Heap} {locs : List Loc} {ls : Array Slot} (hP1 : Px Lx (gB g g.2.2.1) μ H) (hP2 : Px Lm (gB g (g.2.2.1 + 96)) ν H) (hS : va_S (An g) s.heap H locs) (hl : lv_has ls 4 [(0, .ref b), (1, .ref (g.2.2.1 + 0)), (2, .ref (g.2.2.1 + 96 + 0)), (3, .int x3)])
    (kk : ∀ (μ' ν' : Mem) (H : Heap) (locs : List Loc), Sim (i + 1) μ' ν' → Px Lx (gB g g.2.2.1) μ' H → Px Lm (gB g (g.2.2.1 + 96)) ν' H → va_S (An g) s.heap H locs → W p l e room_1 s m #[Value.ref b] below meth c H locs 108 10362 (lw_Z below #[Value.ref b] s) (F0 m 1349 ls [])) : W p l e room_1 s m #[Value.ref b] below meth c H locs 108 10362 (lw_Z below #[Value.ref b] s) (F0 m 1019 ls []) := by
  obtain ⟨hx, hb, hml, hown, hts, hX, hbl, hbase, hK⟩ := id C0
  have hbA : ¬ An g b := fun z => by change g.2.2.1 ≤ b at z; omega
  obtain ⟨r, μ', ν', h1, h2, hSim⟩ := O.2.2.2.2.2.2.2.2.2.2.2.2.2.2.2.2.2.2.2.2.2.2.2.1 i μ ν (xs (x3 + (1 : Int32)).toNatClampNeg) (xs (x3 + (2 : Int32)).toNatClampNeg) (xs (x3 + (3 : Int32)).toNatClampNeg) hSim hi
  refine lv_aload_n hx hb dL_law_1019 rfl (lv_at hl 1 rfl) ?_
  refine lv_aload_n hx hb dL_law_1020 rfl (lv_at hl 0 rfl) ?_
  refine lv_iload_n hx hb dL_law_1021 rfl (lv_at hl 3 rfl) ?_
  refine lv_iconst (v := (1 : Int32)) hx hb dL_law_1022 rfl ?_
  refine lv_iadd hx hb dL_law_1023 ?_
  refine va_sld hx hb hX hbl hbA hS hi1 dL_law_1024 ?_
  refine lv_aload_n hx hb dL_law_1025 rfl (lv_at hl 0 rfl) ?_
  refine lv_iload_n hx hb dL_law_1026 rfl (lv_at hl 3 rfl) ?_
  refine lv_iconst (v := (2 : Int32)) hx hb dL_law_1027 rfl ?_
  refine lv_iadd hx hb dL_law_1028 ?_
  refine va_sld hx hb hX hbl hbA hS hi2 dL_law_1029 ?_
  refine lv_aload_n hx hb dL_law_1030 rfl (lv_at hl 0 rfl) ?_
  refine lv_iload_n hx hb dL_law_1031 rfl (lv_at hl 3 rfl) ?_
  refine lv_iconst (v := (3 : Int32)) hx hb dL_law_1032 rfl ?_
  refine lv_iadd hx hb dL_law_1033 ?_
  refine va_sld hx hb hX hbl hbA hS hi3 dL_law_1034 ?_
  refine l_call (Ly := Lx) (B := g.2.2.1) hx hb hml hown hts hK An_x (rest := []) (As := [.int (xs (x3 + (1 : Int32)).toNatClampNeg), .int (xs (x3 + (2 : Int32)).toNatClampNeg), .int (xs (x3 + (3 : Int32)).toNatClampNeg)]) (q := (RX9, TX9, 9)) (c_X9_far l (gB g g.2.2.1) (xs (x3 + (1 : Int32)).toNatClampNeg) (xs (x3 + (2 : Int32)).toNatClampNeg) (xs (x3 + (3 : Int32)).toNatClampNeg) μ h1) q4_21 q4_18 q4_19 q4_20 q1_1 hd_X9_far ⟨rfl, rfl⟩ ⟨Nat.le_of_ble_eq_true rfl, Nat.le_of_ble_eq_true rfl⟩ cx_0 (by decide) rfl hP1 hS hl.1 rfl rfl (Nat.le_of_ble_eq_true rfl) dL_law_1035 ⟨Nat.le_of_ble_eq_true rfl, Nat.le_of_ble_eq_true rfl⟩ (fun H locs hQ hS hk => ?_)
  have hP2 := keep_m hP2 hk
  have hP1 := hQ
  refine lv_aload_n hx hb dL_law_1038 rfl (lv_at hl 2 rfl) ?_
  refine lv_aload_n hx hb dL_law_1039 rfl (lv_at hl 0 rfl) ?_
  refine lv_iload_n hx hb dL_law_1040 rfl (lv_at hl 3 rfl) ?_
  refine lv_iconst (v := (1 : Int32)) hx hb dL_law_1041 rfl ?_
  refine lv_iadd hx hb dL_law_1042 ?_
  refine va_sld hx hb hX hbl hbA hS hi1 dL_law_1043 ?_
  refine lv_aload_n hx hb dL_law_1044 rfl (lv_at hl 0 rfl) ?_
  refine lv_iload_n hx hb dL_law_1045 rfl (lv_at hl 3 rfl) ?_
  refine lv_iconst (v := (2 : Int32)) hx hb dL_law_1046 rfl ?_
  refine lv_iadd hx hb dL_law_1047 ?_
  refine va_sld hx hb hX hbl hbA hS hi2 dL_law_1048 ?_
  refine lv_aload_n hx hb dL_law_1049 rfl (lv_at hl 0 rfl) ?_
  refine lv_iload_n hx hb dL_law_1050 rfl (lv_at hl 3 rfl) ?_
  refine lv_iconst (v := (3 : Int32)) hx hb dL_law_1051 rfl ?_
  refine lv_iadd hx hb dL_law_1052 ?_
  refine va_sld hx hb hX hbl hbA hS hi3 dL_law_1053 ?_
  refine l_call (Ly := Lm) (B := (g.2.2.1 + 96)) hx hb hml hown hts hK An_m (rest := [.int r]) (As := [.int (xs (x3 + (1 : Int32)).toNatClampNeg), .int (xs (x3 + (2 : Int32)).toNatClampNeg), .int (xs (x3 + (3 : Int32)).toNatClampNeg)]) (q := (RX10, TX10, 22)) (c_X10_far l (gB g (g.2.2.1 + 96)) (xs (x3 + (1 : Int32)).toNatClampNeg) (xs (x3 + (2 : Int32)).toNatClampNeg) (xs (x3 + (3 : Int32)).toNatClampNeg) ν h2) q5_206 q5_203 q5_204 q5_205 q1_11 hd_X10_far ⟨rfl, rfl⟩ ⟨Nat.le_of_ble_eq_true rfl, Nat.le_of_ble_eq_true rfl⟩ cm_0 (by decide) rfl hP2 hS hl.1 rfl rfl (Nat.le_of_ble_eq_true rfl) dL_law_1054 ⟨Nat.le_of_ble_eq_true rfl, Nat.le_of_ble_eq_true rfl⟩ (fun H locs hQ hS hk => ?_)
  have hP1 := keep_x hP1 hk
  have hP2 := hQ
  refine lv_icmp_eq (tgt := 1349) hx hb dL_law_1057 (by decide) (fun _ => ?_) (fun cc => absurd rfl cc)
  exact kk μ' ν' H locs hSim hP1 hP2 hS
set_option maxRecDepth 100000 in
set_option maxHeartbeats 4000000 in
theorem law_c24 {Sim : Nat → Mem → Mem → Prop} {g : Gx} {p : Program} {l : Launch} {e : Env} {s : State} {m : MethodId} {below : List Frame} {meth : Method} {c : Code} {b L : Nat} {xs : Nat → Int32} (C0 : LC g p s m c b L xs) (O : OpsOK Sim) {i : Nat} (hi : i < 512) {x3 : Int32} (hi1 : vp_in (x3 + (1 : Int32)) L) (hi2 : vp_in (x3 + (2 : Int32)) L) (hi3 : vp_in (x3 + (3 : Int32)) L) (hi4 : vp_in (x3 + (4 : Int32)) L) (hi5 : vp_in (x3 + (5 : Int32)) L) {μ ν : Mem} (hSim : Sim i μ ν) {H : Heap} {locs : List Loc} {ls : Array Slot} (hP1 : Px Lx (gB g g.2.2.1) μ H) (hP2 : Px Lm (gB g (g.2.2.1 + 96)) ν H) (hS : va_S (An g) s.heap H locs) (hl : lv_has ls 4 [(0, .ref b), (1, .ref (g.2.2.1 + 0)), (2, .ref (g.2.2.1 + 96 + 0)), (3, .int x3)])
    (kk : ∀ (μ' ν' : Mem) (H : Heap) (locs : List Loc), Sim (i + 1) μ' ν' → Px Lx (gB g g.2.2.1) μ' H → Px Lm (gB g (g.2.2.1 + 96)) ν' H → va_S (An g) s.heap H locs → W p l e room_1 s m #[Value.ref b] below meth c H locs 108 10362 (lw_Z below #[Value.ref b] s) (F0 m 1349 ls [])) : W p l e room_1 s m #[Value.ref b] below meth c H locs 108 10362 (lw_Z below #[Value.ref b] s) (F0 m 1062 ls []) := by
  obtain ⟨hx, hb, hml, hown, hts, hX, hbl, hbase, hK⟩ := id C0
  have hbA : ¬ An g b := fun z => by change g.2.2.1 ≤ b at z; omega
  obtain ⟨r, μ', ν', h1, h2, hSim⟩ := O.2.2.2.2.2.2.2.2.2.2.2.2.2.2.2.2.2.2.2.2.2.2.2.2.1 i μ ν (xs (x3 + (1 : Int32)).toNatClampNeg) (xs (x3 + (2 : Int32)).toNatClampNeg) (xs (x3 + (3 : Int32)).toNatClampNeg) hSim hi
  refine lv_aload_n hx hb dL_law_1062 rfl (lv_at hl 1 rfl) ?_
  refine lv_aload_n hx hb dL_law_1063 rfl (lv_at hl 0 rfl) ?_
  refine lv_iload_n hx hb dL_law_1064 rfl (lv_at hl 3 rfl) ?_
  refine lv_iconst (v := (1 : Int32)) hx hb dL_law_1065 rfl ?_
  refine lv_iadd hx hb dL_law_1066 ?_
  refine va_sld hx hb hX hbl hbA hS hi1 dL_law_1067 ?_
  refine lv_aload_n hx hb dL_law_1068 rfl (lv_at hl 0 rfl) ?_
  refine lv_iload_n hx hb dL_law_1069 rfl (lv_at hl 3 rfl) ?_
  refine lv_iconst (v := (2 : Int32)) hx hb dL_law_1070 rfl ?_
  refine lv_iadd hx hb dL_law_1071 ?_
  refine va_sld hx hb hX hbl hbA hS hi2 dL_law_1072 ?_
  refine lv_aload_n hx hb dL_law_1073 rfl (lv_at hl 0 rfl) ?_
  refine lv_iload_n hx hb dL_law_1074 rfl (lv_at hl 3 rfl) ?_
  refine lv_iconst (v := (3 : Int32)) hx hb dL_law_1075 rfl ?_
  refine lv_iadd hx hb dL_law_1076 ?_
  refine va_sld hx hb hX hbl hbA hS hi3 dL_law_1077 ?_
  refine l_call (Ly := Lx) (B := g.2.2.1) hx hb hml hown hts hK An_x (rest := []) (As := [.int (xs (x3 + (1 : Int32)).toNatClampNeg), .int (xs (x3 + (2 : Int32)).toNatClampNeg), .int (xs (x3 + (3 : Int32)).toNatClampNeg)]) (q := (RX9, TX9, 9)) (c_X9_voice l (gB g g.2.2.1) (xs (x3 + (1 : Int32)).toNatClampNeg) (xs (x3 + (2 : Int32)).toNatClampNeg) (xs (x3 + (3 : Int32)).toNatClampNeg) μ h1) q4_25 q4_22 q4_23 q4_24 q1_1 hd_X9_voice ⟨rfl, rfl⟩ ⟨Nat.le_of_ble_eq_true rfl, Nat.le_of_ble_eq_true rfl⟩ cx_0 (by decide) rfl hP1 hS hl.1 rfl rfl (Nat.le_of_ble_eq_true rfl) dL_law_1078 ⟨Nat.le_of_ble_eq_true rfl, Nat.le_of_ble_eq_true rfl⟩ (fun H locs hQ hS hk => ?_)
  have hP2 := keep_m hP2 hk
  have hP1 := hQ
  refine lv_aload_n hx hb dL_law_1081 rfl (lv_at hl 2 rfl) ?_
  refine lv_aload_n hx hb dL_law_1082 rfl (lv_at hl 0 rfl) ?_
  refine lv_iload_n hx hb dL_law_1083 rfl (lv_at hl 3 rfl) ?_
  refine lv_iconst (v := (1 : Int32)) hx hb dL_law_1084 rfl ?_
  refine lv_iadd hx hb dL_law_1085 ?_
  refine va_sld hx hb hX hbl hbA hS hi1 dL_law_1086 ?_
  refine lv_aload_n hx hb dL_law_1087 rfl (lv_at hl 0 rfl) ?_
  refine lv_iload_n hx hb dL_law_1088 rfl (lv_at hl 3 rfl) ?_
  refine lv_iconst (v := (2 : Int32)) hx hb dL_law_1089 rfl ?_
  refine lv_iadd hx hb dL_law_1090 ?_
  refine va_sld hx hb hX hbl hbA hS hi2 dL_law_1091 ?_
  refine lv_aload_n hx hb dL_law_1092 rfl (lv_at hl 0 rfl) ?_
  refine lv_iload_n hx hb dL_law_1093 rfl (lv_at hl 3 rfl) ?_
  refine lv_iconst (v := (3 : Int32)) hx hb dL_law_1094 rfl ?_
  refine lv_iadd hx hb dL_law_1095 ?_
  refine va_sld hx hb hX hbl hbA hS hi3 dL_law_1096 ?_
  refine l_call (Ly := Lm) (B := (g.2.2.1 + 96)) hx hb hml hown hts hK An_m (rest := [.int r]) (As := [.int (xs (x3 + (1 : Int32)).toNatClampNeg), .int (xs (x3 + (2 : Int32)).toNatClampNeg), .int (xs (x3 + (3 : Int32)).toNatClampNeg)]) (q := (RX10, TX10, 22)) (c_X10_voice l (gB g (g.2.2.1 + 96)) (xs (x3 + (1 : Int32)).toNatClampNeg) (xs (x3 + (2 : Int32)).toNatClampNeg) (xs (x3 + (3 : Int32)).toNatClampNeg) ν h2) q5_210 q5_207 q5_208 q5_209 q1_11 hd_X10_voice ⟨rfl, rfl⟩ ⟨Nat.le_of_ble_eq_true rfl, Nat.le_of_ble_eq_true rfl⟩ cm_0 (by decide) rfl hP2 hS hl.1 rfl rfl (Nat.le_of_ble_eq_true rfl) dL_law_1097 ⟨Nat.le_of_ble_eq_true rfl, Nat.le_of_ble_eq_true rfl⟩ (fun H locs hQ hS hk => ?_)
  have hP1 := keep_x hP1 hk
  have hP2 := hQ
  refine lv_icmp_eq (tgt := 1349) hx hb dL_law_1100 (by decide) (fun _ => ?_) (fun cc => absurd rfl cc)
  exact kk μ' ν' H locs hSim hP1 hP2 hS
set_option maxRecDepth 100000 in
set_option maxHeartbeats 4000000 in
theorem law_c25 {Sim : Nat → Mem → Mem → Prop} {g : Gx} {p : Program} {l : Launch} {e : Env} {s : State} {m : MethodId} {below : List Frame} {meth : Method} {c : Code} {b L : Nat} {xs : Nat → Int32} (C0 : LC g p s m c b L xs) (O : OpsOK Sim) {i : Nat} (hi : i < 512) {x3 : Int32} (hi1 : vp_in (x3 + (1 : Int32)) L) (hi2 : vp_in (x3 + (2 : Int32)) L) (hi3 : vp_in (x3 + (3 : Int32)) L) (hi4 : vp_in (x3 + (4 : Int32)) L) (hi5 : vp_in (x3 + (5 : Int32)) L) {μ ν : Mem} (hSim : Sim i μ ν) {H : Heap} {locs : List Loc} {ls : Array Slot} (hP1 : Px Lx (gB g g.2.2.1) μ H) (hP2 : Px Lm (gB g (g.2.2.1 + 96)) ν H) (hS : va_S (An g) s.heap H locs) (hl : lv_has ls 4 [(0, .ref b), (1, .ref (g.2.2.1 + 0)), (2, .ref (g.2.2.1 + 96 + 0)), (3, .int x3)])
    (kk : ∀ (μ' ν' : Mem) (H : Heap) (locs : List Loc), Sim (i + 1) μ' ν' → Px Lx (gB g g.2.2.1) μ' H → Px Lm (gB g (g.2.2.1 + 96)) ν' H → va_S (An g) s.heap H locs → W p l e room_1 s m #[Value.ref b] below meth c H locs 108 10362 (lw_Z below #[Value.ref b] s) (F0 m 1349 ls [])) : W p l e room_1 s m #[Value.ref b] below meth c H locs 108 10362 (lw_Z below #[Value.ref b] s) (F0 m 1105 ls []) := by
  obtain ⟨hx, hb, hml, hown, hts, hX, hbl, hbase, hK⟩ := id C0
  have hbA : ¬ An g b := fun z => by change g.2.2.1 ≤ b at z; omega
  obtain ⟨r, μ', ν', h1, h2, hSim⟩ := O.2.2.2.2.2.2.2.2.2.2.2.2.2.2.2.2.2.2.2.2.2.2.2.2.2.1 i μ ν (xs (x3 + (1 : Int32)).toNatClampNeg) hSim hi
  refine lv_aload_n hx hb dL_law_1105 rfl (lv_at hl 1 rfl) ?_
  refine lv_aload_n hx hb dL_law_1106 rfl (lv_at hl 0 rfl) ?_
  refine lv_iload_n hx hb dL_law_1107 rfl (lv_at hl 3 rfl) ?_
  refine lv_iconst (v := (1 : Int32)) hx hb dL_law_1108 rfl ?_
  refine lv_iadd hx hb dL_law_1109 ?_
  refine va_sld hx hb hX hbl hbA hS hi1 dL_law_1110 ?_
  refine l_call (Ly := Lx) (B := g.2.2.1) hx hb hml hown hts hK An_x (rest := []) (As := [.int (xs (x3 + (1 : Int32)).toNatClampNeg)]) (q := (RX9, TX9, 9)) (c_X9_trace l (gB g g.2.2.1) (xs (x3 + (1 : Int32)).toNatClampNeg) μ h1) q4_48 q4_45 q4_46 q4_47 q1_1 hd_X9_trace ⟨rfl, rfl⟩ ⟨Nat.le_of_ble_eq_true rfl, Nat.le_of_ble_eq_true rfl⟩ cx_0 (by decide) rfl hP1 hS hl.1 rfl rfl (Nat.le_of_ble_eq_true rfl) dL_law_1111 ⟨Nat.le_of_ble_eq_true rfl, Nat.le_of_ble_eq_true rfl⟩ (fun H locs hQ hS hk => ?_)
  have hP2 := keep_m hP2 hk
  have hP1 := hQ
  refine lv_aload_n hx hb dL_law_1114 rfl (lv_at hl 2 rfl) ?_
  refine lv_aload_n hx hb dL_law_1115 rfl (lv_at hl 0 rfl) ?_
  refine lv_iload_n hx hb dL_law_1116 rfl (lv_at hl 3 rfl) ?_
  refine lv_iconst (v := (1 : Int32)) hx hb dL_law_1117 rfl ?_
  refine lv_iadd hx hb dL_law_1118 ?_
  refine va_sld hx hb hX hbl hbA hS hi1 dL_law_1119 ?_
  refine l_call (Ly := Lm) (B := (g.2.2.1 + 96)) hx hb hml hown hts hK An_m (rest := [.int r]) (As := [.int (xs (x3 + (1 : Int32)).toNatClampNeg)]) (q := (RX10, TX10, 22)) (c_X10_trace l (gB g (g.2.2.1 + 96)) (xs (x3 + (1 : Int32)).toNatClampNeg) ν h2) q6_18 q6_15 q6_16 q6_17 q1_11 hd_X10_trace ⟨rfl, rfl⟩ ⟨Nat.le_of_ble_eq_true rfl, Nat.le_of_ble_eq_true rfl⟩ cm_0 (by decide) rfl hP2 hS hl.1 rfl rfl (Nat.le_of_ble_eq_true rfl) dL_law_1120 ⟨Nat.le_of_ble_eq_true rfl, Nat.le_of_ble_eq_true rfl⟩ (fun H locs hQ hS hk => ?_)
  have hP1 := keep_x hP1 hk
  have hP2 := hQ
  refine lv_icmp_eq (tgt := 1349) hx hb dL_law_1123 (by decide) (fun _ => ?_) (fun cc => absurd rfl cc)
  exact kk μ' ν' H locs hSim hP1 hP2 hS
set_option maxRecDepth 100000 in
set_option maxHeartbeats 4000000 in
theorem law_c26 {Sim : Nat → Mem → Mem → Prop} {g : Gx} {p : Program} {l : Launch} {e : Env} {s : State} {m : MethodId} {below : List Frame} {meth : Method} {c : Code} {b L : Nat} {xs : Nat → Int32} (C0 : LC g p s m c b L xs) (O : OpsOK Sim) {i : Nat} (hi : i < 512) {x3 : Int32} (hi1 : vp_in (x3 + (1 : Int32)) L) (hi2 : vp_in (x3 + (2 : Int32)) L) (hi3 : vp_in (x3 + (3 : Int32)) L) (hi4 : vp_in (x3 + (4 : Int32)) L) (hi5 : vp_in (x3 + (5 : Int32)) L) {μ ν : Mem} (hSim : Sim i μ ν) {H : Heap} {locs : List Loc} {ls : Array Slot} (hP1 : Px Lx (gB g g.2.2.1) μ H) (hP2 : Px Lm (gB g (g.2.2.1 + 96)) ν H) (hS : va_S (An g) s.heap H locs) (hl : lv_has ls 4 [(0, .ref b), (1, .ref (g.2.2.1 + 0)), (2, .ref (g.2.2.1 + 96 + 0)), (3, .int x3)])
    (kk : ∀ (μ' ν' : Mem) (H : Heap) (locs : List Loc), Sim (i + 1) μ' ν' → Px Lx (gB g g.2.2.1) μ' H → Px Lm (gB g (g.2.2.1 + 96)) ν' H → va_S (An g) s.heap H locs → W p l e room_1 s m #[Value.ref b] below meth c H locs 108 10362 (lw_Z below #[Value.ref b] s) (F0 m 1349 ls [])) : W p l e room_1 s m #[Value.ref b] below meth c H locs 108 10362 (lw_Z below #[Value.ref b] s) (F0 m 1128 ls []) := by
  obtain ⟨hx, hb, hml, hown, hts, hX, hbl, hbase, hK⟩ := id C0
  have hbA : ¬ An g b := fun z => by change g.2.2.1 ≤ b at z; omega
  obtain ⟨r, μ', ν', h1, h2, hSim⟩ := O.2.2.2.2.2.2.2.2.2.2.2.2.2.2.2.2.2.2.2.2.2.2.2.2.2.2.1 i μ ν (xs (x3 + (1 : Int32)).toNatClampNeg) (xs (x3 + (2 : Int32)).toNatClampNeg) (xs (x3 + (3 : Int32)).toNatClampNeg) hSim hi
  refine lv_aload_n hx hb dL_law_1128 rfl (lv_at hl 1 rfl) ?_
  refine lv_aload_n hx hb dL_law_1129 rfl (lv_at hl 0 rfl) ?_
  refine lv_iload_n hx hb dL_law_1130 rfl (lv_at hl 3 rfl) ?_
  refine lv_iconst (v := (1 : Int32)) hx hb dL_law_1131 rfl ?_
  refine lv_iadd hx hb dL_law_1132 ?_
  refine va_sld hx hb hX hbl hbA hS hi1 dL_law_1133 ?_
  refine lv_aload_n hx hb dL_law_1134 rfl (lv_at hl 0 rfl) ?_
  refine lv_iload_n hx hb dL_law_1135 rfl (lv_at hl 3 rfl) ?_
  refine lv_iconst (v := (2 : Int32)) hx hb dL_law_1136 rfl ?_
  refine lv_iadd hx hb dL_law_1137 ?_
  refine va_sld hx hb hX hbl hbA hS hi2 dL_law_1138 ?_
  refine lv_aload_n hx hb dL_law_1139 rfl (lv_at hl 0 rfl) ?_
  refine lv_iload_n hx hb dL_law_1140 rfl (lv_at hl 3 rfl) ?_
  refine lv_iconst (v := (3 : Int32)) hx hb dL_law_1141 rfl ?_
  refine lv_iadd hx hb dL_law_1142 ?_
  refine va_sld hx hb hX hbl hbA hS hi3 dL_law_1143 ?_
  refine l_call (Ly := Lx) (B := g.2.2.1) hx hb hml hown hts hK An_x (rest := []) (As := [.int (xs (x3 + (1 : Int32)).toNatClampNeg), .int (xs (x3 + (2 : Int32)).toNatClampNeg), .int (xs (x3 + (3 : Int32)).toNatClampNeg)]) (q := (RX9, TX9, 9)) (c_X9_sheet l (gB g g.2.2.1) (xs (x3 + (1 : Int32)).toNatClampNeg) (xs (x3 + (2 : Int32)).toNatClampNeg) (xs (x3 + (3 : Int32)).toNatClampNeg) μ h1) q4_52 q4_49 q4_50 q4_51 q1_1 hd_X9_sheet ⟨rfl, rfl⟩ ⟨Nat.le_of_ble_eq_true rfl, Nat.le_of_ble_eq_true rfl⟩ cx_0 (by decide) rfl hP1 hS hl.1 rfl rfl (Nat.le_of_ble_eq_true rfl) dL_law_1144 ⟨Nat.le_of_ble_eq_true rfl, Nat.le_of_ble_eq_true rfl⟩ (fun H locs hQ hS hk => ?_)
  have hP2 := keep_m hP2 hk
  have hP1 := hQ
  refine lv_aload_n hx hb dL_law_1147 rfl (lv_at hl 2 rfl) ?_
  refine lv_aload_n hx hb dL_law_1148 rfl (lv_at hl 0 rfl) ?_
  refine lv_iload_n hx hb dL_law_1149 rfl (lv_at hl 3 rfl) ?_
  refine lv_iconst (v := (1 : Int32)) hx hb dL_law_1150 rfl ?_
  refine lv_iadd hx hb dL_law_1151 ?_
  refine va_sld hx hb hX hbl hbA hS hi1 dL_law_1152 ?_
  refine lv_aload_n hx hb dL_law_1153 rfl (lv_at hl 0 rfl) ?_
  refine lv_iload_n hx hb dL_law_1154 rfl (lv_at hl 3 rfl) ?_
  refine lv_iconst (v := (2 : Int32)) hx hb dL_law_1155 rfl ?_
  refine lv_iadd hx hb dL_law_1156 ?_
  refine va_sld hx hb hX hbl hbA hS hi2 dL_law_1157 ?_
  refine lv_aload_n hx hb dL_law_1158 rfl (lv_at hl 0 rfl) ?_
  refine lv_iload_n hx hb dL_law_1159 rfl (lv_at hl 3 rfl) ?_
  refine lv_iconst (v := (3 : Int32)) hx hb dL_law_1160 rfl ?_
  refine lv_iadd hx hb dL_law_1161 ?_
  refine va_sld hx hb hX hbl hbA hS hi3 dL_law_1162 ?_
  refine l_call (Ly := Lm) (B := (g.2.2.1 + 96)) hx hb hml hown hts hK An_m (rest := [.int r]) (As := [.int (xs (x3 + (1 : Int32)).toNatClampNeg), .int (xs (x3 + (2 : Int32)).toNatClampNeg), .int (xs (x3 + (3 : Int32)).toNatClampNeg)]) (q := (RX10, TX10, 22)) (c_X10_sheet l (gB g (g.2.2.1 + 96)) (xs (x3 + (1 : Int32)).toNatClampNeg) (xs (x3 + (2 : Int32)).toNatClampNeg) (xs (x3 + (3 : Int32)).toNatClampNeg) ν h2) q6_22 q6_19 q6_20 q6_21 q1_11 hd_X10_sheet ⟨rfl, rfl⟩ ⟨Nat.le_of_ble_eq_true rfl, Nat.le_of_ble_eq_true rfl⟩ cm_0 (by decide) rfl hP2 hS hl.1 rfl rfl (Nat.le_of_ble_eq_true rfl) dL_law_1163 ⟨Nat.le_of_ble_eq_true rfl, Nat.le_of_ble_eq_true rfl⟩ (fun H locs hQ hS hk => ?_)
  have hP1 := keep_x hP1 hk
  have hP2 := hQ
  refine lv_icmp_eq (tgt := 1349) hx hb dL_law_1166 (by decide) (fun _ => ?_) (fun cc => absurd rfl cc)
  exact kk μ' ν' H locs hSim hP1 hP2 hS
set_option maxRecDepth 100000 in
set_option maxHeartbeats 4000000 in
theorem law_c27 {Sim : Nat → Mem → Mem → Prop} {g : Gx} {p : Program} {l : Launch} {e : Env} {s : State} {m : MethodId} {below : List Frame} {meth : Method} {c : Code} {b L : Nat} {xs : Nat → Int32} (C0 : LC g p s m c b L xs) (O : OpsOK Sim) {i : Nat} (hi : i < 512) {x3 : Int32} (hi1 : vp_in (x3 + (1 : Int32)) L) (hi2 : vp_in (x3 + (2 : Int32)) L) (hi3 : vp_in (x3 + (3 : Int32)) L) (hi4 : vp_in (x3 + (4 : Int32)) L) (hi5 : vp_in (x3 + (5 : Int32)) L) {μ ν : Mem} (hSim : Sim i μ ν) {H : Heap} {locs : List Loc} {ls : Array Slot} (hP1 : Px Lx (gB g g.2.2.1) μ H) (hP2 : Px Lm (gB g (g.2.2.1 + 96)) ν H) (hS : va_S (An g) s.heap H locs) (hl : lv_has ls 4 [(0, .ref b), (1, .ref (g.2.2.1 + 0)), (2, .ref (g.2.2.1 + 96 + 0)), (3, .int x3)])
    (kk : ∀ (μ' ν' : Mem) (H : Heap) (locs : List Loc), Sim (i + 1) μ' ν' → Px Lx (gB g g.2.2.1) μ' H → Px Lm (gB g (g.2.2.1 + 96)) ν' H → va_S (An g) s.heap H locs → W p l e room_1 s m #[Value.ref b] below meth c H locs 108 10362 (lw_Z below #[Value.ref b] s) (F0 m 1349 ls [])) : W p l e room_1 s m #[Value.ref b] below meth c H locs 108 10362 (lw_Z below #[Value.ref b] s) (F0 m 1171 ls []) := by
  obtain ⟨hx, hb, hml, hown, hts, hX, hbl, hbase, hK⟩ := id C0
  have hbA : ¬ An g b := fun z => by change g.2.2.1 ≤ b at z; omega
  obtain ⟨r, μ', ν', h1, h2, hSim⟩ := O.2.2.2.2.2.2.2.2.2.2.2.2.2.2.2.2.2.2.2.2.2.2.2.2.2.2.2.1 i μ ν (xs (x3 + (1 : Int32)).toNatClampNeg) (xs (x3 + (2 : Int32)).toNatClampNeg) (xs (x3 + (3 : Int32)).toNatClampNeg) hSim hi
  refine lv_aload_n hx hb dL_law_1171 rfl (lv_at hl 1 rfl) ?_
  refine lv_aload_n hx hb dL_law_1172 rfl (lv_at hl 0 rfl) ?_
  refine lv_iload_n hx hb dL_law_1173 rfl (lv_at hl 3 rfl) ?_
  refine lv_iconst (v := (1 : Int32)) hx hb dL_law_1174 rfl ?_
  refine lv_iadd hx hb dL_law_1175 ?_
  refine va_sld hx hb hX hbl hbA hS hi1 dL_law_1176 ?_
  refine lv_aload_n hx hb dL_law_1177 rfl (lv_at hl 0 rfl) ?_
  refine lv_iload_n hx hb dL_law_1178 rfl (lv_at hl 3 rfl) ?_
  refine lv_iconst (v := (2 : Int32)) hx hb dL_law_1179 rfl ?_
  refine lv_iadd hx hb dL_law_1180 ?_
  refine va_sld hx hb hX hbl hbA hS hi2 dL_law_1181 ?_
  refine lv_aload_n hx hb dL_law_1182 rfl (lv_at hl 0 rfl) ?_
  refine lv_iload_n hx hb dL_law_1183 rfl (lv_at hl 3 rfl) ?_
  refine lv_iconst (v := (3 : Int32)) hx hb dL_law_1184 rfl ?_
  refine lv_iadd hx hb dL_law_1185 ?_
  refine va_sld hx hb hX hbl hbA hS hi3 dL_law_1186 ?_
  refine l_call (Ly := Lx) (B := g.2.2.1) hx hb hml hown hts hK An_x (rest := []) (As := [.int (xs (x3 + (1 : Int32)).toNatClampNeg), .int (xs (x3 + (2 : Int32)).toNatClampNeg), .int (xs (x3 + (3 : Int32)).toNatClampNeg)]) (q := (RX9, TX9, 9)) (c_X9_put l (gB g g.2.2.1) (xs (x3 + (1 : Int32)).toNatClampNeg) (xs (x3 + (2 : Int32)).toNatClampNeg) (xs (x3 + (3 : Int32)).toNatClampNeg) μ h1) q4_61 q4_58 q4_59 q4_60 q1_1 hd_X9_put ⟨rfl, rfl⟩ ⟨Nat.le_of_ble_eq_true rfl, Nat.le_of_ble_eq_true rfl⟩ cx_0 (by decide) rfl hP1 hS hl.1 rfl rfl (Nat.le_of_ble_eq_true rfl) dL_law_1187 ⟨Nat.le_of_ble_eq_true rfl, Nat.le_of_ble_eq_true rfl⟩ (fun H locs hQ hS hk => ?_)
  have hP2 := keep_m hP2 hk
  have hP1 := hQ
  refine lv_aload_n hx hb dL_law_1190 rfl (lv_at hl 2 rfl) ?_
  refine lv_aload_n hx hb dL_law_1191 rfl (lv_at hl 0 rfl) ?_
  refine lv_iload_n hx hb dL_law_1192 rfl (lv_at hl 3 rfl) ?_
  refine lv_iconst (v := (1 : Int32)) hx hb dL_law_1193 rfl ?_
  refine lv_iadd hx hb dL_law_1194 ?_
  refine va_sld hx hb hX hbl hbA hS hi1 dL_law_1195 ?_
  refine lv_aload_n hx hb dL_law_1196 rfl (lv_at hl 0 rfl) ?_
  refine lv_iload_n hx hb dL_law_1197 rfl (lv_at hl 3 rfl) ?_
  refine lv_iconst (v := (2 : Int32)) hx hb dL_law_1198 rfl ?_
  refine lv_iadd hx hb dL_law_1199 ?_
  refine va_sld hx hb hX hbl hbA hS hi2 dL_law_1200 ?_
  refine lv_aload_n hx hb dL_law_1201 rfl (lv_at hl 0 rfl) ?_
  refine lv_iload_n hx hb dL_law_1202 rfl (lv_at hl 3 rfl) ?_
  refine lv_iconst (v := (3 : Int32)) hx hb dL_law_1203 rfl ?_
  refine lv_iadd hx hb dL_law_1204 ?_
  refine va_sld hx hb hX hbl hbA hS hi3 dL_law_1205 ?_
  refine l_call (Ly := Lm) (B := (g.2.2.1 + 96)) hx hb hml hown hts hK An_m (rest := [.int r]) (As := [.int (xs (x3 + (1 : Int32)).toNatClampNeg), .int (xs (x3 + (2 : Int32)).toNatClampNeg), .int (xs (x3 + (3 : Int32)).toNatClampNeg)]) (q := (RX10, TX10, 22)) (c_X10_put l (gB g (g.2.2.1 + 96)) (xs (x3 + (1 : Int32)).toNatClampNeg) (xs (x3 + (2 : Int32)).toNatClampNeg) (xs (x3 + (3 : Int32)).toNatClampNeg) ν h2) q6_26 q6_23 q6_24 q6_25 q1_11 hd_X10_put ⟨rfl, rfl⟩ ⟨Nat.le_of_ble_eq_true rfl, Nat.le_of_ble_eq_true rfl⟩ cm_0 (by decide) rfl hP2 hS hl.1 rfl rfl (Nat.le_of_ble_eq_true rfl) dL_law_1206 ⟨Nat.le_of_ble_eq_true rfl, Nat.le_of_ble_eq_true rfl⟩ (fun H locs hQ hS hk => ?_)
  have hP1 := keep_x hP1 hk
  have hP2 := hQ
  refine lv_icmp_eq (tgt := 1349) hx hb dL_law_1209 (by decide) (fun _ => ?_) (fun cc => absurd rfl cc)
  exact kk μ' ν' H locs hSim hP1 hP2 hS
set_option maxRecDepth 100000 in
set_option maxHeartbeats 4000000 in
theorem law_c28 {Sim : Nat → Mem → Mem → Prop} {g : Gx} {p : Program} {l : Launch} {e : Env} {s : State} {m : MethodId} {below : List Frame} {meth : Method} {c : Code} {b L : Nat} {xs : Nat → Int32} (C0 : LC g p s m c b L xs) (O : OpsOK Sim) {i : Nat} (hi : i < 512) {x3 : Int32} (hi1 : vp_in (x3 + (1 : Int32)) L) (hi2 : vp_in (x3 + (2 : Int32)) L) (hi3 : vp_in (x3 + (3 : Int32)) L) (hi4 : vp_in (x3 + (4 : Int32)) L) (hi5 : vp_in (x3 + (5 : Int32)) L) {μ ν : Mem} (hSim : Sim i μ ν) {H : Heap} {locs : List Loc} {ls : Array Slot} (hP1 : Px Lx (gB g g.2.2.1) μ H) (hP2 : Px Lm (gB g (g.2.2.1 + 96)) ν H) (hS : va_S (An g) s.heap H locs) (hl : lv_has ls 4 [(0, .ref b), (1, .ref (g.2.2.1 + 0)), (2, .ref (g.2.2.1 + 96 + 0)), (3, .int x3)])
    (kk : ∀ (μ' ν' : Mem) (H : Heap) (locs : List Loc), Sim (i + 1) μ' ν' → Px Lx (gB g g.2.2.1) μ' H → Px Lm (gB g (g.2.2.1 + 96)) ν' H → va_S (An g) s.heap H locs → W p l e room_1 s m #[Value.ref b] below meth c H locs 108 10362 (lw_Z below #[Value.ref b] s) (F0 m 1349 ls [])) : W p l e room_1 s m #[Value.ref b] below meth c H locs 108 10362 (lw_Z below #[Value.ref b] s) (F0 m 1214 ls []) := by
  obtain ⟨hx, hb, hml, hown, hts, hX, hbl, hbase, hK⟩ := id C0
  have hbA : ¬ An g b := fun z => by change g.2.2.1 ≤ b at z; omega
  obtain ⟨r, μ', ν', h1, h2, hSim⟩ := O.2.2.2.2.2.2.2.2.2.2.2.2.2.2.2.2.2.2.2.2.2.2.2.2.2.2.2.2.1 i μ ν (xs (x3 + (1 : Int32)).toNatClampNeg) (xs (x3 + (2 : Int32)).toNatClampNeg) (xs (x3 + (3 : Int32)).toNatClampNeg) (xs (x3 + (4 : Int32)).toNatClampNeg) (xs (x3 + (5 : Int32)).toNatClampNeg) hSim hi
  refine lv_aload_n hx hb dL_law_1214 rfl (lv_at hl 1 rfl) ?_
  refine lv_aload_n hx hb dL_law_1215 rfl (lv_at hl 0 rfl) ?_
  refine lv_iload_n hx hb dL_law_1216 rfl (lv_at hl 3 rfl) ?_
  refine lv_iconst (v := (1 : Int32)) hx hb dL_law_1217 rfl ?_
  refine lv_iadd hx hb dL_law_1218 ?_
  refine va_sld hx hb hX hbl hbA hS hi1 dL_law_1219 ?_
  refine lv_aload_n hx hb dL_law_1220 rfl (lv_at hl 0 rfl) ?_
  refine lv_iload_n hx hb dL_law_1221 rfl (lv_at hl 3 rfl) ?_
  refine lv_iconst (v := (2 : Int32)) hx hb dL_law_1222 rfl ?_
  refine lv_iadd hx hb dL_law_1223 ?_
  refine va_sld hx hb hX hbl hbA hS hi2 dL_law_1224 ?_
  refine lv_aload_n hx hb dL_law_1225 rfl (lv_at hl 0 rfl) ?_
  refine lv_iload_n hx hb dL_law_1226 rfl (lv_at hl 3 rfl) ?_
  refine lv_iconst (v := (3 : Int32)) hx hb dL_law_1227 rfl ?_
  refine lv_iadd hx hb dL_law_1228 ?_
  refine va_sld hx hb hX hbl hbA hS hi3 dL_law_1229 ?_
  refine lv_aload_n hx hb dL_law_1230 rfl (lv_at hl 0 rfl) ?_
  refine lv_iload_n hx hb dL_law_1231 rfl (lv_at hl 3 rfl) ?_
  refine lv_iconst (v := (4 : Int32)) hx hb dL_law_1232 rfl ?_
  refine lv_iadd hx hb dL_law_1233 ?_
  refine va_sld hx hb hX hbl hbA hS hi4 dL_law_1234 ?_
  refine lv_aload_n hx hb dL_law_1235 rfl (lv_at hl 0 rfl) ?_
  refine lv_iload_n hx hb dL_law_1236 rfl (lv_at hl 3 rfl) ?_
  refine lv_iconst (v := (5 : Int32)) hx hb dL_law_1237 rfl ?_
  refine lv_iadd hx hb dL_law_1238 ?_
  refine va_sld hx hb hX hbl hbA hS hi5 dL_law_1239 ?_
  refine l_call (Ly := Lx) (B := g.2.2.1) hx hb hml hown hts hK An_x (rest := []) (As := [.int (xs (x3 + (1 : Int32)).toNatClampNeg), .int (xs (x3 + (2 : Int32)).toNatClampNeg), .int (xs (x3 + (3 : Int32)).toNatClampNeg), .int (xs (x3 + (4 : Int32)).toNatClampNeg), .int (xs (x3 + (5 : Int32)).toNatClampNeg)]) (q := (RX9, TX9, 9)) (c_X9_move l (gB g g.2.2.1) (xs (x3 + (1 : Int32)).toNatClampNeg) (xs (x3 + (2 : Int32)).toNatClampNeg) (xs (x3 + (3 : Int32)).toNatClampNeg) (xs (x3 + (4 : Int32)).toNatClampNeg) (xs (x3 + (5 : Int32)).toNatClampNeg) μ h1) q4_73 q4_70 q4_71 q4_72 q1_1 hd_X9_move ⟨rfl, rfl⟩ ⟨Nat.le_of_ble_eq_true rfl, Nat.le_of_ble_eq_true rfl⟩ cx_0 (by decide) rfl hP1 hS hl.1 rfl rfl (Nat.le_of_ble_eq_true rfl) dL_law_1240 ⟨Nat.le_of_ble_eq_true rfl, Nat.le_of_ble_eq_true rfl⟩ (fun H locs hQ hS hk => ?_)
  have hP2 := keep_m hP2 hk
  have hP1 := hQ
  refine lv_aload_n hx hb dL_law_1243 rfl (lv_at hl 2 rfl) ?_
  refine lv_aload_n hx hb dL_law_1244 rfl (lv_at hl 0 rfl) ?_
  refine lv_iload_n hx hb dL_law_1245 rfl (lv_at hl 3 rfl) ?_
  refine lv_iconst (v := (1 : Int32)) hx hb dL_law_1246 rfl ?_
  refine lv_iadd hx hb dL_law_1247 ?_
  refine va_sld hx hb hX hbl hbA hS hi1 dL_law_1248 ?_
  refine lv_aload_n hx hb dL_law_1249 rfl (lv_at hl 0 rfl) ?_
  refine lv_iload_n hx hb dL_law_1250 rfl (lv_at hl 3 rfl) ?_
  refine lv_iconst (v := (2 : Int32)) hx hb dL_law_1251 rfl ?_
  refine lv_iadd hx hb dL_law_1252 ?_
  refine va_sld hx hb hX hbl hbA hS hi2 dL_law_1253 ?_
  refine lv_aload_n hx hb dL_law_1254 rfl (lv_at hl 0 rfl) ?_
  refine lv_iload_n hx hb dL_law_1255 rfl (lv_at hl 3 rfl) ?_
  refine lv_iconst (v := (3 : Int32)) hx hb dL_law_1256 rfl ?_
  refine lv_iadd hx hb dL_law_1257 ?_
  refine va_sld hx hb hX hbl hbA hS hi3 dL_law_1258 ?_
  refine lv_aload_n hx hb dL_law_1259 rfl (lv_at hl 0 rfl) ?_
  refine lv_iload_n hx hb dL_law_1260 rfl (lv_at hl 3 rfl) ?_
  refine lv_iconst (v := (4 : Int32)) hx hb dL_law_1261 rfl ?_
  refine lv_iadd hx hb dL_law_1262 ?_
  refine va_sld hx hb hX hbl hbA hS hi4 dL_law_1263 ?_
  refine lv_aload_n hx hb dL_law_1264 rfl (lv_at hl 0 rfl) ?_
  refine lv_iload_n hx hb dL_law_1265 rfl (lv_at hl 3 rfl) ?_
  refine lv_iconst (v := (5 : Int32)) hx hb dL_law_1266 rfl ?_
  refine lv_iadd hx hb dL_law_1267 ?_
  refine va_sld hx hb hX hbl hbA hS hi5 dL_law_1268 ?_
  refine l_call (Ly := Lm) (B := (g.2.2.1 + 96)) hx hb hml hown hts hK An_m (rest := [.int r]) (As := [.int (xs (x3 + (1 : Int32)).toNatClampNeg), .int (xs (x3 + (2 : Int32)).toNatClampNeg), .int (xs (x3 + (3 : Int32)).toNatClampNeg), .int (xs (x3 + (4 : Int32)).toNatClampNeg), .int (xs (x3 + (5 : Int32)).toNatClampNeg)]) (q := (RX10, TX10, 22)) (c_X10_move l (gB g (g.2.2.1 + 96)) (xs (x3 + (1 : Int32)).toNatClampNeg) (xs (x3 + (2 : Int32)).toNatClampNeg) (xs (x3 + (3 : Int32)).toNatClampNeg) (xs (x3 + (4 : Int32)).toNatClampNeg) (xs (x3 + (5 : Int32)).toNatClampNeg) ν h2) q6_30 q6_27 q6_28 q6_29 q1_11 hd_X10_move ⟨rfl, rfl⟩ ⟨Nat.le_of_ble_eq_true rfl, Nat.le_of_ble_eq_true rfl⟩ cm_0 (by decide) rfl hP2 hS hl.1 rfl rfl (Nat.le_of_ble_eq_true rfl) dL_law_1269 ⟨Nat.le_of_ble_eq_true rfl, Nat.le_of_ble_eq_true rfl⟩ (fun H locs hQ hS hk => ?_)
  have hP1 := keep_x hP1 hk
  have hP2 := hQ
  refine lv_icmp_eq (tgt := 1349) hx hb dL_law_1272 (by decide) (fun _ => ?_) (fun cc => absurd rfl cc)
  exact kk μ' ν' H locs hSim hP1 hP2 hS
set_option maxRecDepth 100000 in
set_option maxHeartbeats 4000000 in
theorem law_c29 {Sim : Nat → Mem → Mem → Prop} {g : Gx} {p : Program} {l : Launch} {e : Env} {s : State} {m : MethodId} {below : List Frame} {meth : Method} {c : Code} {b L : Nat} {xs : Nat → Int32} (C0 : LC g p s m c b L xs) (O : OpsOK Sim) {i : Nat} (hi : i < 512) {x3 : Int32} (hi1 : vp_in (x3 + (1 : Int32)) L) (hi2 : vp_in (x3 + (2 : Int32)) L) (hi3 : vp_in (x3 + (3 : Int32)) L) (hi4 : vp_in (x3 + (4 : Int32)) L) (hi5 : vp_in (x3 + (5 : Int32)) L) {μ ν : Mem} (hSim : Sim i μ ν) {H : Heap} {locs : List Loc} {ls : Array Slot} (hP1 : Px Lx (gB g g.2.2.1) μ H) (hP2 : Px Lm (gB g (g.2.2.1 + 96)) ν H) (hS : va_S (An g) s.heap H locs) (hl : lv_has ls 4 [(0, .ref b), (1, .ref (g.2.2.1 + 0)), (2, .ref (g.2.2.1 + 96 + 0)), (3, .int x3)])
    (kk : ∀ (μ' ν' : Mem) (H : Heap) (locs : List Loc), Sim (i + 1) μ' ν' → Px Lx (gB g g.2.2.1) μ' H → Px Lm (gB g (g.2.2.1 + 96)) ν' H → va_S (An g) s.heap H locs → W p l e room_1 s m #[Value.ref b] below meth c H locs 108 10362 (lw_Z below #[Value.ref b] s) (F0 m 1349 ls [])) : W p l e room_1 s m #[Value.ref b] below meth c H locs 108 10362 (lw_Z below #[Value.ref b] s) (F0 m 1277 ls []) := by
  obtain ⟨hx, hb, hml, hown, hts, hX, hbl, hbase, hK⟩ := id C0
  have hbA : ¬ An g b := fun z => by change g.2.2.1 ≤ b at z; omega
  obtain ⟨r, μ', ν', h1, h2, hSim⟩ := O.2.2.2.2.2.2.2.2.2.2.2.2.2.2.2.2.2.2.2.2.2.2.2.2.2.2.2.2.2.1 i μ ν  hSim hi
  refine lv_aload_n hx hb dL_law_1277 rfl (lv_at hl 1 rfl) ?_
  refine l_call (Ly := Lx) (B := g.2.2.1) hx hb hml hown hts hK An_x (rest := []) (As := []) (q := (RX9, TX9, 9)) (c_X9_image l (gB g g.2.2.1)  μ h1) q4_82 q4_79 q4_80 q4_81 q1_1 hd_X9_image ⟨rfl, rfl⟩ ⟨Nat.le_of_ble_eq_true rfl, Nat.le_of_ble_eq_true rfl⟩ cx_0 (by decide) rfl hP1 hS hl.1 rfl rfl (Nat.le_of_ble_eq_true rfl) dL_law_1278 ⟨Nat.le_of_ble_eq_true rfl, Nat.le_of_ble_eq_true rfl⟩ (fun H locs hQ hS hk => ?_)
  have hP2 := keep_m hP2 hk
  have hP1 := hQ
  refine lv_aload_n hx hb dL_law_1281 rfl (lv_at hl 2 rfl) ?_
  refine l_call (Ly := Lm) (B := (g.2.2.1 + 96)) hx hb hml hown hts hK An_m (rest := [.int r]) (As := []) (q := (RX10, TX10, 22)) (c_X10_image l (gB g (g.2.2.1 + 96))  ν h2) q6_38 q6_35 q6_36 q6_37 q1_11 hd_X10_image ⟨rfl, rfl⟩ ⟨Nat.le_of_ble_eq_true rfl, Nat.le_of_ble_eq_true rfl⟩ cm_0 (by decide) rfl hP2 hS hl.1 rfl rfl (Nat.le_of_ble_eq_true rfl) dL_law_1282 ⟨Nat.le_of_ble_eq_true rfl, Nat.le_of_ble_eq_true rfl⟩ (fun H locs hQ hS hk => ?_)
  have hP1 := keep_x hP1 hk
  have hP2 := hQ
  refine lv_icmp_eq (tgt := 1349) hx hb dL_law_1285 (by decide) (fun _ => ?_) (fun cc => absurd rfl cc)
  exact kk μ' ν' H locs hSim hP1 hP2 hS
set_option maxRecDepth 100000 in
set_option maxHeartbeats 4000000 in
theorem law_c30 {Sim : Nat → Mem → Mem → Prop} {g : Gx} {p : Program} {l : Launch} {e : Env} {s : State} {m : MethodId} {below : List Frame} {meth : Method} {c : Code} {b L : Nat} {xs : Nat → Int32} (C0 : LC g p s m c b L xs) (O : OpsOK Sim) {i : Nat} (hi : i < 512) {x3 : Int32} (hi1 : vp_in (x3 + (1 : Int32)) L) (hi2 : vp_in (x3 + (2 : Int32)) L) (hi3 : vp_in (x3 + (3 : Int32)) L) (hi4 : vp_in (x3 + (4 : Int32)) L) (hi5 : vp_in (x3 + (5 : Int32)) L) {μ ν : Mem} (hSim : Sim i μ ν) {H : Heap} {locs : List Loc} {ls : Array Slot} (hP1 : Px Lx (gB g g.2.2.1) μ H) (hP2 : Px Lm (gB g (g.2.2.1 + 96)) ν H) (hS : va_S (An g) s.heap H locs) (hl : lv_has ls 4 [(0, .ref b), (1, .ref (g.2.2.1 + 0)), (2, .ref (g.2.2.1 + 96 + 0)), (3, .int x3)])
    (kk : ∀ (μ' ν' : Mem) (H : Heap) (locs : List Loc), Sim (i + 1) μ' ν' → Px Lx (gB g g.2.2.1) μ' H → Px Lm (gB g (g.2.2.1 + 96)) ν' H → va_S (An g) s.heap H locs → W p l e room_1 s m #[Value.ref b] below meth c H locs 108 10362 (lw_Z below #[Value.ref b] s) (F0 m 1349 ls [])) : W p l e room_1 s m #[Value.ref b] below meth c H locs 108 10362 (lw_Z below #[Value.ref b] s) (F0 m 1290 ls []) := by
  obtain ⟨hx, hb, hml, hown, hts, hX, hbl, hbase, hK⟩ := id C0
  have hbA : ¬ An g b := fun z => by change g.2.2.1 ≤ b at z; omega
  obtain ⟨r, μ', ν', h1, h2, hSim⟩ := O.2.2.2.2.2.2.2.2.2.2.2.2.2.2.2.2.2.2.2.2.2.2.2.2.2.2.2.2.2.2.1 i μ ν  hSim hi
  refine lv_aload_n hx hb dL_law_1290 rfl (lv_at hl 1 rfl) ?_
  refine l_call (Ly := Lx) (B := g.2.2.1) hx hb hml hown hts hK An_x (rest := []) (As := []) (q := (RX9, TX9, 9)) (c_X9_restore l (gB g g.2.2.1)  μ h1) q4_111 q4_108 q4_109 q4_110 q1_1 hd_X9_restore ⟨rfl, rfl⟩ ⟨Nat.le_of_ble_eq_true rfl, Nat.le_of_ble_eq_true rfl⟩ cx_0 (by decide) rfl hP1 hS hl.1 rfl rfl (Nat.le_of_ble_eq_true rfl) dL_law_1291 ⟨Nat.le_of_ble_eq_true rfl, Nat.le_of_ble_eq_true rfl⟩ (fun H locs hQ hS hk => ?_)
  have hP2 := keep_m hP2 hk
  have hP1 := hQ
  refine lv_aload_n hx hb dL_law_1294 rfl (lv_at hl 2 rfl) ?_
  refine l_call (Ly := Lm) (B := (g.2.2.1 + 96)) hx hb hml hown hts hK An_m (rest := [.int r]) (As := []) (q := (RX10, TX10, 22)) (c_X10_restore l (gB g (g.2.2.1 + 96))  ν h2) q6_42 q6_39 q6_40 q6_41 q1_11 hd_X10_restore ⟨rfl, rfl⟩ ⟨Nat.le_of_ble_eq_true rfl, Nat.le_of_ble_eq_true rfl⟩ cm_0 (by decide) rfl hP2 hS hl.1 rfl rfl (Nat.le_of_ble_eq_true rfl) dL_law_1295 ⟨Nat.le_of_ble_eq_true rfl, Nat.le_of_ble_eq_true rfl⟩ (fun H locs hQ hS hk => ?_)
  have hP1 := keep_x hP1 hk
  have hP2 := hQ
  refine lv_icmp_eq (tgt := 1349) hx hb dL_law_1298 (by decide) (fun _ => ?_) (fun cc => absurd rfl cc)
  exact kk μ' ν' H locs hSim hP1 hP2 hS
set_option maxRecDepth 100000 in
set_option maxHeartbeats 4000000 in
theorem law_c31 {Sim : Nat → Mem → Mem → Prop} {g : Gx} {p : Program} {l : Launch} {e : Env} {s : State} {m : MethodId} {below : List Frame} {meth : Method} {c : Code} {b L : Nat} {xs : Nat → Int32} (C0 : LC g p s m c b L xs) (O : OpsOK Sim) {i : Nat} (hi : i < 512) {x3 : Int32} (hi1 : vp_in (x3 + (1 : Int32)) L) (hi2 : vp_in (x3 + (2 : Int32)) L) (hi3 : vp_in (x3 + (3 : Int32)) L) (hi4 : vp_in (x3 + (4 : Int32)) L) (hi5 : vp_in (x3 + (5 : Int32)) L) {μ ν : Mem} (hSim : Sim i μ ν) {H : Heap} {locs : List Loc} {ls : Array Slot} (hP1 : Px Lx (gB g g.2.2.1) μ H) (hP2 : Px Lm (gB g (g.2.2.1 + 96)) ν H) (hS : va_S (An g) s.heap H locs) (hl : lv_has ls 4 [(0, .ref b), (1, .ref (g.2.2.1 + 0)), (2, .ref (g.2.2.1 + 96 + 0)), (3, .int x3)])
    (kk : ∀ (μ' ν' : Mem) (H : Heap) (locs : List Loc), Sim (i + 1) μ' ν' → Px Lx (gB g g.2.2.1) μ' H → Px Lm (gB g (g.2.2.1 + 96)) ν' H → va_S (An g) s.heap H locs → W p l e room_1 s m #[Value.ref b] below meth c H locs 108 10362 (lw_Z below #[Value.ref b] s) (F0 m 1349 ls [])) : W p l e room_1 s m #[Value.ref b] below meth c H locs 108 10362 (lw_Z below #[Value.ref b] s) (F0 m 1303 ls []) := by
  obtain ⟨hx, hb, hml, hown, hts, hX, hbl, hbase, hK⟩ := id C0
  have hbA : ¬ An g b := fun z => by change g.2.2.1 ≤ b at z; omega
  obtain ⟨r, μ', ν', h1, h2, hSim⟩ := O.2.2.2.2.2.2.2.2.2.2.2.2.2.2.2.2.2.2.2.2.2.2.2.2.2.2.2.2.2.2.2.1 i μ ν (xs (x3 + (1 : Int32)).toNatClampNeg) hSim hi
  refine lv_aload_n hx hb dL_law_1303 rfl (lv_at hl 1 rfl) ?_
  refine lv_aload_n hx hb dL_law_1304 rfl (lv_at hl 0 rfl) ?_
  refine lv_iload_n hx hb dL_law_1305 rfl (lv_at hl 3 rfl) ?_
  refine lv_iconst (v := (1 : Int32)) hx hb dL_law_1306 rfl ?_
  refine lv_iadd hx hb dL_law_1307 ?_
  refine va_sld hx hb hX hbl hbA hS hi1 dL_law_1308 ?_
  refine l_call (Ly := Lx) (B := g.2.2.1) hx hb hml hown hts hK An_x (rest := []) (As := [.int (xs (x3 + (1 : Int32)).toNatClampNeg)]) (q := (RX9, TX9, 9)) (c_X9_told l (gB g g.2.2.1) (xs (x3 + (1 : Int32)).toNatClampNeg) μ h1) q4_115 q4_112 q4_113 q4_114 q1_1 hd_X9_told ⟨rfl, rfl⟩ ⟨Nat.le_of_ble_eq_true rfl, Nat.le_of_ble_eq_true rfl⟩ cx_0 (by decide) rfl hP1 hS hl.1 rfl rfl (Nat.le_of_ble_eq_true rfl) dL_law_1309 ⟨Nat.le_of_ble_eq_true rfl, Nat.le_of_ble_eq_true rfl⟩ (fun H locs hQ hS hk => ?_)
  have hP2 := keep_m hP2 hk
  have hP1 := hQ
  refine lv_aload_n hx hb dL_law_1312 rfl (lv_at hl 2 rfl) ?_
  refine lv_aload_n hx hb dL_law_1313 rfl (lv_at hl 0 rfl) ?_
  refine lv_iload_n hx hb dL_law_1314 rfl (lv_at hl 3 rfl) ?_
  refine lv_iconst (v := (1 : Int32)) hx hb dL_law_1315 rfl ?_
  refine lv_iadd hx hb dL_law_1316 ?_
  refine va_sld hx hb hX hbl hbA hS hi1 dL_law_1317 ?_
  refine l_call (Ly := Lm) (B := (g.2.2.1 + 96)) hx hb hml hown hts hK An_m (rest := [.int r]) (As := [.int (xs (x3 + (1 : Int32)).toNatClampNeg)]) (q := (RX10, TX10, 22)) (c_X10_told l (gB g (g.2.2.1 + 96)) (xs (x3 + (1 : Int32)).toNatClampNeg) ν h2) q6_46 q6_43 q6_44 q6_45 q1_11 hd_X10_told ⟨rfl, rfl⟩ ⟨Nat.le_of_ble_eq_true rfl, Nat.le_of_ble_eq_true rfl⟩ cm_0 (by decide) rfl hP2 hS hl.1 rfl rfl (Nat.le_of_ble_eq_true rfl) dL_law_1318 ⟨Nat.le_of_ble_eq_true rfl, Nat.le_of_ble_eq_true rfl⟩ (fun H locs hQ hS hk => ?_)
  have hP1 := keep_x hP1 hk
  have hP2 := hQ
  refine lv_icmp_eq (tgt := 1349) hx hb dL_law_1321 (by decide) (fun _ => ?_) (fun cc => absurd rfl cc)
  exact kk μ' ν' H locs hSim hP1 hP2 hS
set_option maxRecDepth 100000 in
set_option maxHeartbeats 4000000 in
theorem law_c32 {Sim : Nat → Mem → Mem → Prop} {g : Gx} {p : Program} {l : Launch} {e : Env} {s : State} {m : MethodId} {below : List Frame} {meth : Method} {c : Code} {b L : Nat} {xs : Nat → Int32} (C0 : LC g p s m c b L xs) (O : OpsOK Sim) {i : Nat} (hi : i < 512) {x3 : Int32} (hi1 : vp_in (x3 + (1 : Int32)) L) (hi2 : vp_in (x3 + (2 : Int32)) L) (hi3 : vp_in (x3 + (3 : Int32)) L) (hi4 : vp_in (x3 + (4 : Int32)) L) (hi5 : vp_in (x3 + (5 : Int32)) L) {μ ν : Mem} (hSim : Sim i μ ν) {H : Heap} {locs : List Loc} {ls : Array Slot} (hP1 : Px Lx (gB g g.2.2.1) μ H) (hP2 : Px Lm (gB g (g.2.2.1 + 96)) ν H) (hS : va_S (An g) s.heap H locs) (hl : lv_has ls 4 [(0, .ref b), (1, .ref (g.2.2.1 + 0)), (2, .ref (g.2.2.1 + 96 + 0)), (3, .int x3)])
    (kk : ∀ (μ' ν' : Mem) (H : Heap) (locs : List Loc), Sim (i + 1) μ' ν' → Px Lx (gB g g.2.2.1) μ' H → Px Lm (gB g (g.2.2.1 + 96)) ν' H → va_S (An g) s.heap H locs → W p l e room_1 s m #[Value.ref b] below meth c H locs 108 10362 (lw_Z below #[Value.ref b] s) (F0 m 1349 ls [])) : W p l e room_1 s m #[Value.ref b] below meth c H locs 108 10362 (lw_Z below #[Value.ref b] s) (F0 m 1326 ls []) := by
  obtain ⟨hx, hb, hml, hown, hts, hX, hbl, hbase, hK⟩ := id C0
  have hbA : ¬ An g b := fun z => by change g.2.2.1 ≤ b at z; omega
  obtain ⟨r, μ', ν', h1, h2, hSim⟩ := O.2.2.2.2.2.2.2.2.2.2.2.2.2.2.2.2.2.2.2.2.2.2.2.2.2.2.2.2.2.2.2.2 i μ ν (xs (x3 + (1 : Int32)).toNatClampNeg) hSim hi
  refine lv_aload_n hx hb dL_law_1326 rfl (lv_at hl 1 rfl) ?_
  refine lv_aload_n hx hb dL_law_1327 rfl (lv_at hl 0 rfl) ?_
  refine lv_iload_n hx hb dL_law_1328 rfl (lv_at hl 3 rfl) ?_
  refine lv_iconst (v := (1 : Int32)) hx hb dL_law_1329 rfl ?_
  refine lv_iadd hx hb dL_law_1330 ?_
  refine va_sld hx hb hX hbl hbA hS hi1 dL_law_1331 ?_
  refine l_call (Ly := Lx) (B := g.2.2.1) hx hb hml hown hts hK An_x (rest := []) (As := [.int (xs (x3 + (1 : Int32)).toNatClampNeg)]) (q := (RX9, TX9, 9)) (c_X9_found l (gB g g.2.2.1) (xs (x3 + (1 : Int32)).toNatClampNeg) μ h1) q4_127 q4_124 q4_125 q4_126 q1_1 hd_X9_found ⟨rfl, rfl⟩ ⟨Nat.le_of_ble_eq_true rfl, Nat.le_of_ble_eq_true rfl⟩ cx_0 (by decide) rfl hP1 hS hl.1 rfl rfl (Nat.le_of_ble_eq_true rfl) dL_law_1332 ⟨Nat.le_of_ble_eq_true rfl, Nat.le_of_ble_eq_true rfl⟩ (fun H locs hQ hS hk => ?_)
  have hP2 := keep_m hP2 hk
  have hP1 := hQ
  refine lv_aload_n hx hb dL_law_1335 rfl (lv_at hl 2 rfl) ?_
  refine lv_aload_n hx hb dL_law_1336 rfl (lv_at hl 0 rfl) ?_
  refine lv_iload_n hx hb dL_law_1337 rfl (lv_at hl 3 rfl) ?_
  refine lv_iconst (v := (1 : Int32)) hx hb dL_law_1338 rfl ?_
  refine lv_iadd hx hb dL_law_1339 ?_
  refine va_sld hx hb hX hbl hbA hS hi1 dL_law_1340 ?_
  refine l_call (Ly := Lm) (B := (g.2.2.1 + 96)) hx hb hml hown hts hK An_m (rest := [.int r]) (As := [.int (xs (x3 + (1 : Int32)).toNatClampNeg)]) (q := (RX10, TX10, 22)) (c_X10_found l (gB g (g.2.2.1 + 96)) (xs (x3 + (1 : Int32)).toNatClampNeg) ν h2) q6_50 q6_47 q6_48 q6_49 q1_11 hd_X10_found ⟨rfl, rfl⟩ ⟨Nat.le_of_ble_eq_true rfl, Nat.le_of_ble_eq_true rfl⟩ cm_0 (by decide) rfl hP2 hS hl.1 rfl rfl (Nat.le_of_ble_eq_true rfl) dL_law_1341 ⟨Nat.le_of_ble_eq_true rfl, Nat.le_of_ble_eq_true rfl⟩ (fun H locs hQ hS hk => ?_)
  have hP1 := keep_x hP1 hk
  have hP2 := hQ
  refine lv_icmp_eq (tgt := 1349) hx hb dL_law_1344 (by decide) (fun _ => ?_) (fun cc => absurd rfl cc)
  exact kk μ' ν' H locs hSim hP1 hP2 hS
theorem vp_in_add {L i k : Nat} {x3 : Int32} (hL : L ≤ 3072) (h : 6 * i + 6 ≤ L) (hk : k < 6) (ex : x3 = nI (6 * i)) : vp_in (x3 + nI k) L := by
  rw [ex, nI_add]
  exact vp_in_nI (by omega) (by omega)
set_option maxRecDepth 100000 in
set_option maxHeartbeats 4000000 in
theorem law_loop {Sim : Nat → Mem → Mem → Prop} {g : Gx} {p : Program} {l : Launch} {e : Env} {s : State} {m : MethodId} {below : List Frame} {meth : Method} {c : Code} {b L : Nat} {xs : Nat → Int32} (hL : L ≤ 3072) (C0 : LC g p s m c b L xs) (O : OpsOK Sim) (hr : meth.sig.returnType = ret) (hlocks : meth.locks = false) (hlim : ∀ j μ ν, Sim j μ ν → Sim (j + 1) μ ν) (n : Nat) : ∀ (i : Nat) (x3 : Int32), 513 - i < n → i ≤ 512 → x3 = nI (6 * i) → ∀ (μ ν : Mem), Sim i μ ν → ∀ (H : Heap) (locs : List Loc) (ls : Array Slot), Px Lx (gB g g.2.2.1) μ H → Px Lm (gB g (g.2.2.1 + 96)) ν H → va_S (An g) s.heap H locs → lv_has ls 4 [(0, .ref b), (1, .ref (g.2.2.1 + 0)), (2, .ref (g.2.2.1 + 96 + 0)), (3, .int x3)] → W p l e room_1 s m #[Value.ref b] below meth c H locs 108 10362 (lw_Z below #[Value.ref b] s) (F0 m 18 ls []) := by
  obtain ⟨hx, hb, hml, hown, hts, hX, hbl, hbase, hK⟩ := id C0
  have hbA : ¬ An g b := fun z => by change g.2.2.1 ≤ b at z; omega
  induction n with
  | zero => intro i x3 h; omega
  | succ n ih =>
    intro i x3 hn hi ex μ ν hSim H locs ls hP1 hP2 hS hl
    refine lv_iload_n hx hb dL_law_18 rfl (lv_at hl 3 rfl) ?_
    refine lv_aload_n hx hb dL_law_19 rfl (lv_at hl 0 rfl) ?_
    refine va_slen hx hb hX hbl hbA hS dL_law_20 ?_
    refine lv_bipush (v := (6 : Int32)) hx hb dL_law_21 (by decide +kernel) ?_
    refine lv_isub hx hb dL_law_23 ?_
    refine lv_icmp_gt (tgt := 1355) hx hb dL_law_24 (by decide) (fun cc => ?_) (fun cc => ?_)
    · refine lv_iconst (v := (1 : Int32)) hx hb dL_law_1355 rfl ?_
      refine va_forget (fun q hq => by have z : g.2.2.1 ≤ q.base := hS.2.2 q hq; omega) ?_
      refine W.widen (k := 600000) (n := 7302250) (Nat.le_of_ble_eq_true rfl) (Nat.le_of_ble_eq_true rfl) ?_
      exact lw_ret hx hb hr hlocks dL_law_1356
    · have hlen : 6 * i + 6 ≤ L := by
        rw [ex] at cc
        have e6 : (6 : Int32).toInt = 6 := by decide
        have h1 : (Int32.ofNat L - 6).toInt = (L : Int) - 6 := by
          rw [Int32.toInt_sub, show (Int32.ofNat L).toInt = (L : Int) from nI_toInt (by omega), e6]
          exact Int.bmod_eq_of_le (by omega) (by omega)
        have h2 : (nI (6 * i)).toInt = ((6 * i : Nat) : Int) := nI_toInt (by omega)
        rw [Int32.lt_iff_toInt_lt, h1, h2] at cc
        omega
      have hlt : i < 512 := by omega
      have hi0 : vp_in x3 L := by rw [ex]; exact vp_in_nI (by omega) (by omega)
      have hi1 : vp_in (x3 + (1 : Int32)) L := vp_in_add (k := 1) hL hlen (by decide) ex
      have hi2 : vp_in (x3 + (2 : Int32)) L := vp_in_add (k := 2) hL hlen (by decide) ex
      have hi3 : vp_in (x3 + (3 : Int32)) L := vp_in_add (k := 3) hL hlen (by decide) ex
      have hi4 : vp_in (x3 + (4 : Int32)) L := vp_in_add (k := 4) hL hlen (by decide) ex
      have hi5 : vp_in (x3 + (5 : Int32)) L := vp_in_add (k := 5) hL hlen (by decide) ex
      refine lv_aload_n hx hb dL_law_27 rfl (lv_at hl 0 rfl) ?_
      refine lv_iload_n hx hb dL_law_28 rfl (lv_at hl 3 rfl) ?_
      refine va_sld hx hb hX hbl hbA hS hi0 dL_law_29 ?_
      refine lv_bipush (v := (63 : Int32)) hx hb dL_law_30 (by decide +kernel) ?_
      refine lv_iand hx hb dL_law_32 ?_
      refine lv_topi (fun w ew => ?_)
      have kk : ∀ (μ' ν' : Mem) (H : Heap) (locs : List Loc), Sim (i + 1) μ' ν' → Px Lx (gB g g.2.2.1) μ' H → Px Lm (gB g (g.2.2.1 + 96)) ν' H → va_S (An g) s.heap H locs → W p l e room_1 s m #[Value.ref b] below meth c H locs 108 10362 (lw_Z below #[Value.ref b] s) (F0 m 1349 ls []) := by
        intro μ' ν' H locs hSim hP1 hP2 hS
        obtain ⟨x3', ex'⟩ : ∃ y : Int32, y = x3 + 6 := ⟨_, rfl⟩
        refine lv_iinc (v := x3') (lv' := [(3, .int x3'), (0, .ref b), (1, .ref (g.2.2.1 + 0)), (2, .ref (g.2.2.1 + 96 + 0))]) hx hb dL_law_1349 hl (k := 3) rfl (by rw [ex']; rfl) (by decide) rfl (fun ls hl => ?_)
        refine lv_goto (tgt := 18) hx hb dL_law_1352 (by decide) ?_
        exact ih (i + 1) x3' (by omega) (by omega) (by rw [ex', ex]; exact nI_add (6 * i) 6) μ' ν' hSim H locs ls hP1 hP2 hS (lv_sub hl [1, 2, 3, 0] rfl)
      by_cases c0 : w = (0 : Int32)
      · refine lv_tableIn (tgt := 180) (off := 147) hx hb dL_law_33 (by rw [c0]; decide) (by rw [c0]; decide) (by rw [c0]; decide) (by decide) ?_
        exact law_c0 C0 O hlt hi1 hi2 hi3 hi4 hi5 hSim hP1 hP2 hS (lv_sub hl [0, 1, 2, 3] rfl) kk
      have j0 : ¬ w.toInt = 0 := fun q => c0 (Int32.toInt_inj.mp (q.trans (by decide)))
      by_cases c1 : w = (1 : Int32)
      · refine lv_tableIn (tgt := 213) (off := 180) hx hb dL_law_33 (by rw [c1]; decide) (by rw [c1]; decide) (by rw [c1]; decide) (by decide) ?_
        exact law_c1 C0 O hlt hi1 hi2 hi3 hi4 hi5 hSim hP1 hP2 hS (lv_sub hl [0, 1, 2, 3] rfl) kk
      have j1 : ¬ w.toInt = 1 := fun q => c1 (Int32.toInt_inj.mp (q.trans (by decide)))
      by_cases c2 : w = (2 : Int32)
      · refine lv_tableIn (tgt := 246) (off := 213) hx hb dL_law_33 (by rw [c2]; decide) (by rw [c2]; decide) (by rw [c2]; decide) (by decide) ?_
        exact law_c2 C0 O hlt hi1 hi2 hi3 hi4 hi5 hSim hP1 hP2 hS (lv_sub hl [0, 1, 2, 3] rfl) kk
      have j2 : ¬ w.toInt = 2 := fun q => c2 (Int32.toInt_inj.mp (q.trans (by decide)))
      by_cases c3 : w = (3 : Int32)
      · refine lv_tableIn (tgt := 279) (off := 246) hx hb dL_law_33 (by rw [c3]; decide) (by rw [c3]; decide) (by rw [c3]; decide) (by decide) ?_
        exact law_c3 C0 O hlt hi1 hi2 hi3 hi4 hi5 hSim hP1 hP2 hS (lv_sub hl [0, 1, 2, 3] rfl) kk
      have j3 : ¬ w.toInt = 3 := fun q => c3 (Int32.toInt_inj.mp (q.trans (by decide)))
      by_cases c4 : w = (4 : Int32)
      · refine lv_tableIn (tgt := 322) (off := 289) hx hb dL_law_33 (by rw [c4]; decide) (by rw [c4]; decide) (by rw [c4]; decide) (by decide) ?_
        exact law_c4 C0 O hlt hi1 hi2 hi3 hi4 hi5 hSim hP1 hP2 hS (lv_sub hl [0, 1, 2, 3] rfl) kk
      have j4 : ¬ w.toInt = 4 := fun q => c4 (Int32.toInt_inj.mp (q.trans (by decide)))
      by_cases c5 : w = (5 : Int32)
      · refine lv_tableIn (tgt := 355) (off := 322) hx hb dL_law_33 (by rw [c5]; decide) (by rw [c5]; decide) (by rw [c5]; decide) (by decide) ?_
        exact law_c5 C0 O hlt hi1 hi2 hi3 hi4 hi5 hSim hP1 hP2 hS (lv_sub hl [0, 1, 2, 3] rfl) kk
      have j5 : ¬ w.toInt = 5 := fun q => c5 (Int32.toInt_inj.mp (q.trans (by decide)))
      by_cases c6 : w = (6 : Int32)
      · refine lv_tableIn (tgt := 388) (off := 355) hx hb dL_law_33 (by rw [c6]; decide) (by rw [c6]; decide) (by rw [c6]; decide) (by decide) ?_
        exact law_c6 C0 O hlt hi1 hi2 hi3 hi4 hi5 hSim hP1 hP2 hS (lv_sub hl [0, 1, 2, 3] rfl) kk
      have j6 : ¬ w.toInt = 6 := fun q => c6 (Int32.toInt_inj.mp (q.trans (by decide)))
      by_cases c7 : w = (7 : Int32)
      · refine lv_tableIn (tgt := 411) (off := 378) hx hb dL_law_33 (by rw [c7]; decide) (by rw [c7]; decide) (by rw [c7]; decide) (by decide) ?_
        exact law_c7 C0 O hlt hi1 hi2 hi3 hi4 hi5 hSim hP1 hP2 hS (lv_sub hl [0, 1, 2, 3] rfl) kk
      have j7 : ¬ w.toInt = 7 := fun q => c7 (Int32.toInt_inj.mp (q.trans (by decide)))
      by_cases c8 : w = (8 : Int32)
      · refine lv_tableIn (tgt := 434) (off := 401) hx hb dL_law_33 (by rw [c8]; decide) (by rw [c8]; decide) (by rw [c8]; decide) (by decide) ?_
        exact law_c8 C0 O hlt hi1 hi2 hi3 hi4 hi5 hSim hP1 hP2 hS (lv_sub hl [0, 1, 2, 3] rfl) kk
      have j8 : ¬ w.toInt = 8 := fun q => c8 (Int32.toInt_inj.mp (q.trans (by decide)))
      by_cases c9 : w = (9 : Int32)
      · refine lv_tableIn (tgt := 457) (off := 424) hx hb dL_law_33 (by rw [c9]; decide) (by rw [c9]; decide) (by rw [c9]; decide) (by decide) ?_
        exact law_c9 C0 O hlt hi1 hi2 hi3 hi4 hi5 hSim hP1 hP2 hS (lv_sub hl [0, 1, 2, 3] rfl) kk
      have j9 : ¬ w.toInt = 9 := fun q => c9 (Int32.toInt_inj.mp (q.trans (by decide)))
      by_cases c10 : w = (10 : Int32)
      · refine lv_tableIn (tgt := 490) (off := 457) hx hb dL_law_33 (by rw [c10]; decide) (by rw [c10]; decide) (by rw [c10]; decide) (by decide) ?_
        exact law_c10 C0 O hlt hi1 hi2 hi3 hi4 hi5 hSim hP1 hP2 hS (lv_sub hl [0, 1, 2, 3] rfl) kk
      have j10 : ¬ w.toInt = 10 := fun q => c10 (Int32.toInt_inj.mp (q.trans (by decide)))
      by_cases c11 : w = (11 : Int32)
      · refine lv_tableIn (tgt := 523) (off := 490) hx hb dL_law_33 (by rw [c11]; decide) (by rw [c11]; decide) (by rw [c11]; decide) (by decide) ?_
        exact law_c11 C0 O hlt hi1 hi2 hi3 hi4 hi5 hSim hP1 hP2 hS (lv_sub hl [0, 1, 2, 3] rfl) kk
      have j11 : ¬ w.toInt = 11 := fun q => c11 (Int32.toInt_inj.mp (q.trans (by decide)))
      by_cases c12 : w = (12 : Int32)
      · refine lv_tableIn (tgt := 566) (off := 533) hx hb dL_law_33 (by rw [c12]; decide) (by rw [c12]; decide) (by rw [c12]; decide) (by decide) ?_
        exact law_c12 C0 O hlt hi1 hi2 hi3 hi4 hi5 hSim hP1 hP2 hS (lv_sub hl [0, 1, 2, 3] rfl) kk
      have j12 : ¬ w.toInt = 12 := fun q => c12 (Int32.toInt_inj.mp (q.trans (by decide)))
      by_cases c13 : w = (13 : Int32)
      · refine lv_tableIn (tgt := 629) (off := 596) hx hb dL_law_33 (by rw [c13]; decide) (by rw [c13]; decide) (by rw [c13]; decide) (by decide) ?_
        exact law_c13 C0 O hlt hi1 hi2 hi3 hi4 hi5 hSim hP1 hP2 hS (lv_sub hl [0, 1, 2, 3] rfl) kk
      have j13 : ¬ w.toInt = 13 := fun q => c13 (Int32.toInt_inj.mp (q.trans (by decide)))
      by_cases c14 : w = (14 : Int32)
      · refine lv_tableIn (tgt := 662) (off := 629) hx hb dL_law_33 (by rw [c14]; decide) (by rw [c14]; decide) (by rw [c14]; decide) (by decide) ?_
        exact law_c14 C0 O hlt hi1 hi2 hi3 hi4 hi5 hSim hP1 hP2 hS (lv_sub hl [0, 1, 2, 3] rfl) kk
      have j14 : ¬ w.toInt = 14 := fun q => c14 (Int32.toInt_inj.mp (q.trans (by decide)))
      by_cases c15 : w = (15 : Int32)
      · refine lv_tableIn (tgt := 695) (off := 662) hx hb dL_law_33 (by rw [c15]; decide) (by rw [c15]; decide) (by rw [c15]; decide) (by decide) ?_
        exact law_c15 C0 O hlt hi1 hi2 hi3 hi4 hi5 hSim hP1 hP2 hS (lv_sub hl [0, 1, 2, 3] rfl) kk
      have j15 : ¬ w.toInt = 15 := fun q => c15 (Int32.toInt_inj.mp (q.trans (by decide)))
      by_cases c16 : w = (16 : Int32)
      · refine lv_tableIn (tgt := 738) (off := 705) hx hb dL_law_33 (by rw [c16]; decide) (by rw [c16]; decide) (by rw [c16]; decide) (by decide) ?_
        exact law_c16 C0 O hlt hi1 hi2 hi3 hi4 hi5 hSim hP1 hP2 hS (lv_sub hl [0, 1, 2, 3] rfl) kk
      have j16 : ¬ w.toInt = 16 := fun q => c16 (Int32.toInt_inj.mp (q.trans (by decide)))
      by_cases c17 : w = (17 : Int32)
      · refine lv_tableIn (tgt := 771) (off := 738) hx hb dL_law_33 (by rw [c17]; decide) (by rw [c17]; decide) (by rw [c17]; decide) (by decide) ?_
        exact law_c17 C0 O hlt hi1 hi2 hi3 hi4 hi5 hSim hP1 hP2 hS (lv_sub hl [0, 1, 2, 3] rfl) kk
      have j17 : ¬ w.toInt = 17 := fun q => c17 (Int32.toInt_inj.mp (q.trans (by decide)))
      by_cases c18 : w = (18 : Int32)
      · refine lv_tableIn (tgt := 794) (off := 761) hx hb dL_law_33 (by rw [c18]; decide) (by rw [c18]; decide) (by rw [c18]; decide) (by decide) ?_
        exact law_c18 C0 O hlt hi1 hi2 hi3 hi4 hi5 hSim hP1 hP2 hS (lv_sub hl [0, 1, 2, 3] rfl) kk
      have j18 : ¬ w.toInt = 18 := fun q => c18 (Int32.toInt_inj.mp (q.trans (by decide)))
      by_cases c19 : w = (19 : Int32)
      · refine lv_tableIn (tgt := 837) (off := 804) hx hb dL_law_33 (by rw [c19]; decide) (by rw [c19]; decide) (by rw [c19]; decide) (by decide) ?_
        exact law_c19 C0 O hlt hi1 hi2 hi3 hi4 hi5 hSim hP1 hP2 hS (lv_sub hl [0, 1, 2, 3] rfl) kk
      have j19 : ¬ w.toInt = 19 := fun q => c19 (Int32.toInt_inj.mp (q.trans (by decide)))
      by_cases c20 : w = (20 : Int32)
      · refine lv_tableIn (tgt := 890) (off := 857) hx hb dL_law_33 (by rw [c20]; decide) (by rw [c20]; decide) (by rw [c20]; decide) (by decide) ?_
        exact law_c20 C0 O hlt hi1 hi2 hi3 hi4 hi5 hSim hP1 hP2 hS (lv_sub hl [0, 1, 2, 3] rfl) kk
      have j20 : ¬ w.toInt = 20 := fun q => c20 (Int32.toInt_inj.mp (q.trans (by decide)))
      by_cases c21 : w = (21 : Int32)
      · refine lv_tableIn (tgt := 943) (off := 910) hx hb dL_law_33 (by rw [c21]; decide) (by rw [c21]; decide) (by rw [c21]; decide) (by decide) ?_
        exact law_c21 C0 O hlt hi1 hi2 hi3 hi4 hi5 hSim hP1 hP2 hS (lv_sub hl [0, 1, 2, 3] rfl) kk
      have j21 : ¬ w.toInt = 21 := fun q => c21 (Int32.toInt_inj.mp (q.trans (by decide)))
      by_cases c22 : w = (22 : Int32)
      · refine lv_tableIn (tgt := 986) (off := 953) hx hb dL_law_33 (by rw [c22]; decide) (by rw [c22]; decide) (by rw [c22]; decide) (by decide) ?_
        exact law_c22 C0 O hlt hi1 hi2 hi3 hi4 hi5 hSim hP1 hP2 hS (lv_sub hl [0, 1, 2, 3] rfl) kk
      have j22 : ¬ w.toInt = 22 := fun q => c22 (Int32.toInt_inj.mp (q.trans (by decide)))
      by_cases c23 : w = (23 : Int32)
      · refine lv_tableIn (tgt := 1019) (off := 986) hx hb dL_law_33 (by rw [c23]; decide) (by rw [c23]; decide) (by rw [c23]; decide) (by decide) ?_
        exact law_c23 C0 O hlt hi1 hi2 hi3 hi4 hi5 hSim hP1 hP2 hS (lv_sub hl [0, 1, 2, 3] rfl) kk
      have j23 : ¬ w.toInt = 23 := fun q => c23 (Int32.toInt_inj.mp (q.trans (by decide)))
      by_cases c24 : w = (24 : Int32)
      · refine lv_tableIn (tgt := 1062) (off := 1029) hx hb dL_law_33 (by rw [c24]; decide) (by rw [c24]; decide) (by rw [c24]; decide) (by decide) ?_
        exact law_c24 C0 O hlt hi1 hi2 hi3 hi4 hi5 hSim hP1 hP2 hS (lv_sub hl [0, 1, 2, 3] rfl) kk
      have j24 : ¬ w.toInt = 24 := fun q => c24 (Int32.toInt_inj.mp (q.trans (by decide)))
      by_cases c25 : w = (25 : Int32)
      · refine lv_tableIn (tgt := 1105) (off := 1072) hx hb dL_law_33 (by rw [c25]; decide) (by rw [c25]; decide) (by rw [c25]; decide) (by decide) ?_
        exact law_c25 C0 O hlt hi1 hi2 hi3 hi4 hi5 hSim hP1 hP2 hS (lv_sub hl [0, 1, 2, 3] rfl) kk
      have j25 : ¬ w.toInt = 25 := fun q => c25 (Int32.toInt_inj.mp (q.trans (by decide)))
      by_cases c26 : w = (26 : Int32)
      · refine lv_tableIn (tgt := 1128) (off := 1095) hx hb dL_law_33 (by rw [c26]; decide) (by rw [c26]; decide) (by rw [c26]; decide) (by decide) ?_
        exact law_c26 C0 O hlt hi1 hi2 hi3 hi4 hi5 hSim hP1 hP2 hS (lv_sub hl [0, 1, 2, 3] rfl) kk
      have j26 : ¬ w.toInt = 26 := fun q => c26 (Int32.toInt_inj.mp (q.trans (by decide)))
      by_cases c27 : w = (27 : Int32)
      · refine lv_tableIn (tgt := 1171) (off := 1138) hx hb dL_law_33 (by rw [c27]; decide) (by rw [c27]; decide) (by rw [c27]; decide) (by decide) ?_
        exact law_c27 C0 O hlt hi1 hi2 hi3 hi4 hi5 hSim hP1 hP2 hS (lv_sub hl [0, 1, 2, 3] rfl) kk
      have j27 : ¬ w.toInt = 27 := fun q => c27 (Int32.toInt_inj.mp (q.trans (by decide)))
      by_cases c28 : w = (28 : Int32)
      · refine lv_tableIn (tgt := 1214) (off := 1181) hx hb dL_law_33 (by rw [c28]; decide) (by rw [c28]; decide) (by rw [c28]; decide) (by decide) ?_
        exact law_c28 C0 O hlt hi1 hi2 hi3 hi4 hi5 hSim hP1 hP2 hS (lv_sub hl [0, 1, 2, 3] rfl) kk
      have j28 : ¬ w.toInt = 28 := fun q => c28 (Int32.toInt_inj.mp (q.trans (by decide)))
      by_cases c29 : w = (29 : Int32)
      · refine lv_tableIn (tgt := 1277) (off := 1244) hx hb dL_law_33 (by rw [c29]; decide) (by rw [c29]; decide) (by rw [c29]; decide) (by decide) ?_
        exact law_c29 C0 O hlt hi1 hi2 hi3 hi4 hi5 hSim hP1 hP2 hS (lv_sub hl [0, 1, 2, 3] rfl) kk
      have j29 : ¬ w.toInt = 29 := fun q => c29 (Int32.toInt_inj.mp (q.trans (by decide)))
      by_cases c30 : w = (30 : Int32)
      · refine lv_tableIn (tgt := 1290) (off := 1257) hx hb dL_law_33 (by rw [c30]; decide) (by rw [c30]; decide) (by rw [c30]; decide) (by decide) ?_
        exact law_c30 C0 O hlt hi1 hi2 hi3 hi4 hi5 hSim hP1 hP2 hS (lv_sub hl [0, 1, 2, 3] rfl) kk
      have j30 : ¬ w.toInt = 30 := fun q => c30 (Int32.toInt_inj.mp (q.trans (by decide)))
      by_cases c31 : w = (31 : Int32)
      · refine lv_tableIn (tgt := 1303) (off := 1270) hx hb dL_law_33 (by rw [c31]; decide) (by rw [c31]; decide) (by rw [c31]; decide) (by decide) ?_
        exact law_c31 C0 O hlt hi1 hi2 hi3 hi4 hi5 hSim hP1 hP2 hS (lv_sub hl [0, 1, 2, 3] rfl) kk
      have j31 : ¬ w.toInt = 31 := fun q => c31 (Int32.toInt_inj.mp (q.trans (by decide)))
      by_cases c32 : w = (32 : Int32)
      · refine lv_tableIn (tgt := 1326) (off := 1293) hx hb dL_law_33 (by rw [c32]; decide) (by rw [c32]; decide) (by rw [c32]; decide) (by decide) ?_
        exact law_c32 C0 O hlt hi1 hi2 hi3 hi4 hi5 hSim hP1 hP2 hS (lv_sub hl [0, 1, 2, 3] rfl) kk
      have j32 : ¬ w.toInt = 32 := fun q => c32 (Int32.toInt_inj.mp (q.trans (by decide)))
      refine lv_tableOut (tgt := 1349) hx hb dL_law_33 (by omega) (by decide) ?_
      exact kk μ ν H locs (hlim i μ ν hSim) hP1 hP2 hS
