/-! the rows of a walk over the world -/
abbrev Cel (Ly : Lay) (k kind n : Nat) : Prop := k < Ly.2.2 ∧ Ly.1 k = kind ∧ Ly.2.1 k = n
section XR
variable {Ly : Lay} {g : Gx} {p : Program} {l : Launch} {e : Env} {R : Room} {s : State} {m : MethodId} {args : Array Value} {below : List Frame} {meth : Method} {c : Code} {H : Heap} {locs : List Loc} {Q : State → Prop} {cc : ByteArray} {pc : Nat} {ls : Array Slot} {rest : List Value} {μ : Mem} {nL : Nat} {ret : Option FieldType} {own : String}
theorem x_get (C0 : Cx Ly g p s m args meth c cc nL ret own) (hP : Px Ly g μ H) {ref C : String} {T : u_T} {N ci index : Nat} (hin : ∀ w ∈ u_ws C T N, w ∈ UW) {k n0 : Nat} (hk : Cel Ly k ci n0) (hci : ci < 11) (hc : vwCl[ci]? = some (C, T, N)) (j : Nat) (hj : j < N) (hlink : Cond.fieldLink own index ref (T j).2.1 (T j).2.2.1 ∈ UW) (href : (T j).1 = ref) {v : Value} (hv : (Ob g.2.2.1 k ci (μ k))[j]? = some v) (hdg : decode cc pc = .ok (.getfield index, 3))
    (kk : W p l e R s m args below meth c H locs 0 0 Q (F0 m (pc + 3) ls (v :: rest))) : W p l e R s m args below meth c H locs 0 0 Q (F0 m pc ls (.ref (g.2.2.1 + k) :: rest)) := by
  obtain ⟨hx, hb, -, -, hown, hts, -, hK⟩ := C0
  exact va_get hx hb hts hin hown hK.1 hP k ((Ws_get hk.1).trans (by rw [Ex_ob hk.2.1 hci])) hc j hj (hts _ hlink) (fun x h => by rw [← href]; exact h) hv hdg kk
theorem x_put (C0 : Cx Ly g p s m args meth c cc nL ret own) (hP : Px Ly g μ H) (hS : va_S (Ax Ly g) s.heap H locs) {ref C : String} {T : u_T} {N ci index : Nat} (hin : ∀ w ∈ u_ws C T N, w ∈ UW) (ty0 : Nat → FieldType) (hty : ∀ k, k < N → parseFieldDescriptor (T k).2.2.1 = some (ty0 k)) (hnm : ∀ a, a < N → ∀ b, b < N → a ≠ b → (T a).2.1 ≠ (T b).2.1) {k n0 : Nat} (hk : Cel Ly k ci n0) (hci : ci < 11) (hc : vwCl[ci]? = some (C, T, N)) (j : Nat) (hj : j < N) (hlink : Cond.fieldLink own index ref (T j).2.1 (T j).2.2.1 ∈ UW) (href : (T j).1 = ref) (hfin : (T j).2.2.2 = false) {v : Value} {x : Int32} (hn : narrow (ty0 j) v = v) (hfit : fits (ty0 j) v = true) (hl : j < (Ob g.2.2.1 k ci (μ k)).length) (hset : (Ob g.2.2.1 k ci (μ k)).set j v = Ob g.2.2.1 k ci (upd (μ k) j x)) (hdg : decode cc pc = .ok (.putfield index, 3))
    (kk : ∀ (H1 : Heap) (locs1 : List Loc), Px Ly g (st μ k j x) H1 → va_S (Ax Ly g) s.heap H1 locs1 → W p l e R s m args below meth c H1 locs1 0 0 Q (F0 m (pc + 3) ls rest)) : W p l e R s m args below meth c H locs 0 0 Q (F0 m pc ls (v :: .ref (g.2.2.1 + k) :: rest)) := by
  obtain ⟨hx, hb, -, -, hown, hts, -, hK⟩ := C0
  refine va_put hx hb hts hin ty0 hty hnm hown hK.1 hP Ws_D hS k ((Ws_get hk.1).trans (by rw [Ex_ob hk.2.1 hci])) hc j hj (hts _ hlink) (fun x h => by rw [← href]; exact h) hfin (hty j hj) hn hfit hl hdg (fun H1 locs1 hP1 _ hS1 => kk H1 locs1 ?_ hS1)
  unfold Px
  rw [← Ws_set (μ := μ) (k := k) (e := .inr (ci, (Ob g.2.2.1 k ci (μ k)).set j v)) (by rw [Ex_ob hk.2.1 hci, st_same, hset]) (fun a ha => (st_other μ j x ha).symm)]
  exact hP1
theorem x_iald (C0 : Cx Ly g p s m args meth c cc nL ret own) (hP : Px Ly g μ H) {k n : Nat} (hk : Cel Ly k 12 n) {i : Int32} {j : Nat} (hin : inB i n) (hj : i.toNatClampNeg = j) (hdg : decode cc pc = .ok (.iaload, 1))
    (kk : W p l e R s m args below meth c H locs 0 0 Q (F0 m (pc + 1) ls (.int (μ k j) :: rest))) : W p l e R s m args below meth c H locs 0 0 Q (F0 m pc ls (.int i :: .ref (g.2.2.1 + k) :: rest)) := by
  subst hj
  obtain ⟨hx, hb, -, -, hown, hts, -, hK⟩ := C0
  exact va_iald hx hb hK.1 hP k 1 (cA := g.2.1 1) (n := n) ((Ws_get hk.1).trans (by rw [Ex_in hk.2.1, hk.2.2])) rfl (inB_vp hin) hdg kk
theorem x_bald (C0 : Cx Ly g p s m args meth c cc nL ret own) (hP : Px Ly g μ H) {k n : Nat} (hk : Cel Ly k 11 n) {i : Int32} {j : Nat} (hin : inB i n) (hj : i.toNatClampNeg = j) (hdg : decode cc pc = .ok (.baload, 1))
    (kk : W p l e R s m args below meth c H locs 0 0 Q (F0 m (pc + 1) ls (.int (μ k j).toInt8.toInt32 :: rest))) : W p l e R s m args below meth c H locs 0 0 Q (F0 m pc ls (.int i :: .ref (g.2.2.1 + k) :: rest)) := by
  subst hj
  obtain ⟨hx, hb, -, -, hown, hts, -, hK⟩ := C0
  exact va_bald (f := fun j => (μ k j).toInt8.toInt32) hx hb hK.1 hP k 0 (cA := g.2.1 0) (n := n) ((Ws_get hk.1).trans (by rw [Ex_by hk.2.1, hk.2.2])) rfl (inB_vp hin) hdg kk
theorem x_alen (C0 : Cx Ly g p s m args meth c cc nL ret own) (hP : Px Ly g μ H) {k n : Nat} (hk : Cel Ly k 12 n ∨ Cel Ly k 11 n) {v : Int32} (hv : Int32.ofNat n = v) (hdg : decode cc pc = .ok (.arraylength, 1))
    (kk : W p l e R s m args below meth c H locs 0 0 Q (F0 m (pc + 1) ls (.int v :: rest))) : W p l e R s m args below meth c H locs 0 0 Q (F0 m pc ls (.ref (g.2.2.1 + k) :: rest)) := by
  obtain ⟨hx, hb, -, -, hown, hts, -, hK⟩ := C0
  rcases hk with hk | hk
  · exact va_alen hx hb hK.1 hP k 1 (cA := g.2.1 1) (x := (n, .inl (μ k))) ((Ws_get hk.1).trans (by rw [Ex_in hk.2.1, hk.2.2])) (ty := .int) rfl hv hdg kk
  · exact va_alen hx hb hK.1 hP k 0 (cA := g.2.1 0) (x := (n, .inl (fun j => (μ k j).toInt8.toInt32))) ((Ws_get hk.1).trans (by rw [Ex_by hk.2.1, hk.2.2])) (ty := .byte) rfl hv hdg kk
theorem x_maald (C0 : Cx Ly g p s m args meth c cc nL ret own) (hP : Px Ly g μ H) {k n : Nat} (hk : Cel Ly k 13 n) {i : Int32} {j : Nat} (hin : inB i n) (hj : i.toNatClampNeg = j) (hdg : decode cc pc = .ok (.aaload, 1))
    (kk : W p l e R s m args below meth c H locs 0 0 Q (F0 m (pc + 1) ls (.ref (g.2.2.1 + (k + 22 + 2 * j)) :: rest))) : W p l e R s m args below meth c H locs 0 0 Q (F0 m pc ls (.int i :: .ref (g.2.2.1 + k) :: rest)) := by
  subst hj
  obtain ⟨hx, hb, -, -, hown, hts, -, hK⟩ := C0
  exact va_aldq (f := fun j => some (g.2.2.1 + (k + 22 + 2 * j))) hx hb hK.1 hP k 2 (cA := g.2.1 2) (n := n) ((Ws_get hk.1).trans (by rw [Ex_me hk.2.1, hk.2.2])) rfl (inB_vp hin) hdg kk
theorem x_saald (C0 : Cx Ly g p s m args meth c cc nL ret own) (hP : Px Ly g μ H) {k n : Nat} (hk : Cel Ly k 14 n) {i : Int32} {j : Nat} (hin : inB i n) (hj : i.toNatClampNeg = j) (hdg : decode cc pc = .ok (.aaload, 1))
    (kk : W p l e R s m args below meth c H locs 0 0 Q (F0 m (pc + 1) ls (.ref (g.2.2.1 + (k + 3 + 2 * j)) :: rest))) : W p l e R s m args below meth c H locs 0 0 Q (F0 m pc ls (.int i :: .ref (g.2.2.1 + k) :: rest)) := by
  subst hj
  obtain ⟨hx, hb, -, -, hown, hts, -, hK⟩ := C0
  exact va_aldq (f := fun j => some (g.2.2.1 + (k + 3 + 2 * j))) hx hb hK.1 hP k 3 (cA := g.2.1 3) (n := n) ((Ws_get hk.1).trans (by rw [Ex_sh hk.2.1, hk.2.2])) rfl (inB_vp hin) hdg kk
theorem x_iast (C0 : Cx Ly g p s m args meth c cc nL ret own) (hP : Px Ly g μ H) (hS : va_S (Ax Ly g) s.heap H locs) {k n : Nat} (hk : Cel Ly k 12 n) {i x : Int32} {j : Nat} (hin : inB i n) (hj : i.toNatClampNeg = j) (hdg : decode cc pc = .ok (.iastore, 1))
    (kk : ∀ (H1 : Heap) (locs1 : List Loc), Px Ly g (st μ k j x) H1 → va_S (Ax Ly g) s.heap H1 locs1 → W p l e R s m args below meth c H1 locs1 0 0 Q (F0 m (pc + 1) ls rest)) : W p l e R s m args below meth c H locs 0 0 Q (F0 m pc ls (.int x :: .int i :: .ref (g.2.2.1 + k) :: rest)) := by
  subst hj
  obtain ⟨hx, hb, -, -, hown, hts, -, hK⟩ := C0
  refine va_iast hx hb hK.1 hP Ws_D hS k 1 (cA := g.2.1 1) (n := n) ((Ws_get hk.1).trans (by rw [Ex_in hk.2.1, hk.2.2])) rfl (inB_vp hin) hdg (fun H1 locs1 hP1 _ hS1 => kk H1 locs1 ?_ hS1)
  unfold Px
  rw [← Ws_set (μ := μ) (k := k) (e := .inl (g.2.1 1, n, .inl (upd (μ k) i.toNatClampNeg x))) (by rw [Ex_in hk.2.1, st_same, hk.2.2]) (fun a ha => (st_other μ i.toNatClampNeg x ha).symm)]
  exact hP1
theorem x_bast (C0 : Cx Ly g p s m args meth c cc nL ret own) (hP : Px Ly g μ H) (hS : va_S (Ax Ly g) s.heap H locs) {k n : Nat} (hk : Cel Ly k 11 n) {i x : Int32} {j : Nat} (hin : inB i n) (hj : i.toNatClampNeg = j) (hdg : decode cc pc = .ok (.bastore, 1))
    (kk : ∀ (H1 : Heap) (locs1 : List Loc), Px Ly g (st μ k j x) H1 → va_S (Ax Ly g) s.heap H1 locs1 → W p l e R s m args below meth c H1 locs1 0 0 Q (F0 m (pc + 1) ls rest)) : W p l e R s m args below meth c H locs 0 0 Q (F0 m pc ls (.int x :: .int i :: .ref (g.2.2.1 + k) :: rest)) := by
  subst hj
  obtain ⟨hx, hb, -, -, hown, hts, -, hK⟩ := C0
  refine va_bast (f := fun j => (μ k j).toInt8.toInt32) hx hb hK.1 hP Ws_D hS k 0 (cA := g.2.1 0) (n := n) ((Ws_get hk.1).trans (by rw [Ex_by hk.2.1, hk.2.2])) rfl (inB_vp hin) hdg (fun H1 locs1 hP1 _ hS1 => kk H1 locs1 ?_ hS1)
  unfold Px
  rw [← Ws_set (μ := μ) (k := k) (e := .inl (g.2.1 0, n, .inl (upd (fun j => (μ k j).toInt8.toInt32) i.toNatClampNeg (vp_nar .byte x)))) ?_ (fun a ha => (st_other μ i.toNatClampNeg x ha).symm)]
  · exact hP1
  · rw [Ex_by hk.2.1, st_same, hk.2.2]
    congr 4
    funext j
    unfold upd
    by_cases hj : j = i.toNatClampNeg
    · rw [if_pos hj, if_pos hj, vp_nar_byte]
    · rw [if_neg hj, if_neg hj]
theorem x_copyi (C0 : Cx Ly g p s m args meth c cc nL ret own) (hP : Px Ly g μ H) (hS : va_S (Ax Ly g) s.heap H locs) (hsz : ls.size = nL) {k0 k1 n0 n1 index : Nat} (hk0 : Cel Ly k0 12 n0) (hk1 : Cel Ly k1 12 n1) {sp dp n : Int32} (hlink : Cond.methodLink own index arraycopyName ∈ UW) (hnat : Cond.native arraycopyName ∈ UW) (hstat : Cond.static arraycopyName ∈ UW) (hini : Cond.initialized "java/lang/System" ∈ UW) (h1 : 0 ≤ sp.toInt ∧ 0 ≤ dp.toInt ∧ 0 ≤ n.toInt ∧ sp.toInt + n.toInt ≤ (n0 : Int) ∧ dp.toInt + n.toInt ≤ (n1 : Int)) {sp2 dp2 n2 : Nat} (hsp : sp.toNatClampNeg = sp2) (hdp : dp.toNatClampNeg = dp2) (hn2 : n.toNatClampNeg = n2) (hframes : 1 ≤ R.frames) (hlocals : (rest.map fun v => v.category).sum + (nativeFrameWords "java/lang/System" "arraycopy" 5 + 11) ≤ R.locals) (hdg : decode cc pc = .ok (.invokestatic index, 3))
    (kk : ∀ (H1 : Heap) (locs1 : List Loc), Px Ly g (str μ k1 (va_cpy (μ k0) (μ k1) sp2 dp2 n2)) H1 → va_S (Ax Ly g) s.heap H1 locs1 → W p l e R s m args below meth c H1 locs1 0 0 Q (F0 m (pc + 3) ls rest)) : W p l e R s m args below meth c H locs 0 0 Q (F0 m pc ls (.int n :: .int dp :: .ref (g.2.2.1 + k1) :: .int sp :: .ref (g.2.2.1 + k0) :: rest)) := by
  subst hsp
  subst hdp
  subst hn2
  obtain ⟨hx, hb, -, hml, hown, hts, -, hK⟩ := C0
  obtain ⟨a1, a2, a3, a4, a5⟩ := h1
  have z : ∀ x : Int32, 0 ≤ x.toInt → ¬ x < 0 ∧ (x.toNatClampNeg : Int) = x.toInt := fun x h => by
    have e0 : (0 : Int32).toInt = 0 := rfl
    refine ⟨fun q => ?_, ?_⟩
    · rw [Int32.lt_iff_toInt_lt, e0] at q
      omega
    · show (x.toInt.toNat : Int) = x.toInt
      omega
  have b1 := z sp a1
  have b2 := z dp a2
  have b3 := z n a3
  refine va_copyi hx hb (hml.trans hsz.symm) hown (hts _ hlink) (hts _ hnat) (hts _ hstat) (hts _ hini) hK.1 hP Ws_D hS k0 k1 1 1 (c0 := g.2.1 1) (c1 := g.2.1 1) (n0 := n0) (n1 := n1) (ty := .int) ((Ws_get hk0.1).trans (by rw [Ex_in hk0.2.1, hk0.2.2])) ((Ws_get hk1.1).trans (by rw [Ex_in hk1.2.1, hk1.2.2])) rfl rfl rfl b1.1 b2.1 b3.1 (by omega) (by omega) (fun _ _ => rfl) hframes hlocals hdg (fun H1 locs1 hP1 _ hS1 => kk H1 locs1 ?_ hS1)
  unfold Px
  rw [← Ws_set (μ := μ) (k := k1) (e := .inl (g.2.1 1, n1, .inl (va_cpy (μ k0) (μ k1) sp.toNatClampNeg dp.toNatClampNeg n.toNatClampNeg))) (by rw [Ex_in hk1.2.1, str_same, hk1.2.2]) (fun a ha => (str_other μ _ ha).symm)]
  exact hP1
theorem x_fitb (x : Int32) : fits .byte (.int x.toInt8.toInt32) = true := pk_fb x
theorem x_copyb (C0 : Cx Ly g p s m args meth c cc nL ret own) (hP : Px Ly g μ H) (hS : va_S (Ax Ly g) s.heap H locs) (hsz : ls.size = nL) {k0 k1 n0 n1 index : Nat} (hk0 : Cel Ly k0 11 n0) (hk1 : Cel Ly k1 11 n1) {sp dp n : Int32} (hlink : Cond.methodLink own index arraycopyName ∈ UW) (hnat : Cond.native arraycopyName ∈ UW) (hstat : Cond.static arraycopyName ∈ UW) (hini : Cond.initialized "java/lang/System" ∈ UW) (h1 : 0 ≤ sp.toInt ∧ 0 ≤ dp.toInt ∧ 0 ≤ n.toInt ∧ sp.toInt + n.toInt ≤ (n0 : Int) ∧ dp.toInt + n.toInt ≤ (n1 : Int)) {sp2 dp2 n2 : Nat} (hsp : sp.toNatClampNeg = sp2) (hdp : dp.toNatClampNeg = dp2) (hn2 : n.toNatClampNeg = n2) (hframes : 1 ≤ R.frames) (hlocals : (rest.map fun v => v.category).sum + (nativeFrameWords "java/lang/System" "arraycopy" 5 + 11) ≤ R.locals) (hdg : decode cc pc = .ok (.invokestatic index, 3))
    (kk : ∀ (H1 : Heap) (locs1 : List Loc), Px Ly g (str μ k1 (va_cpy (μ k0) (μ k1) sp2 dp2 n2)) H1 → va_S (Ax Ly g) s.heap H1 locs1 → W p l e R s m args below meth c H1 locs1 0 0 Q (F0 m (pc + 3) ls rest)) : W p l e R s m args below meth c H locs 0 0 Q (F0 m pc ls (.int n :: .int dp :: .ref (g.2.2.1 + k1) :: .int sp :: .ref (g.2.2.1 + k0) :: rest)) := by
  subst hsp
  subst hdp
  subst hn2
  obtain ⟨hx, hb, -, hml, hown, hts, -, hK⟩ := C0
  obtain ⟨a1, a2, a3, a4, a5⟩ := h1
  have z : ∀ x : Int32, 0 ≤ x.toInt → ¬ x < 0 ∧ (x.toNatClampNeg : Int) = x.toInt := fun x h => by
    have e0 : (0 : Int32).toInt = 0 := rfl
    refine ⟨fun q => ?_, ?_⟩
    · rw [Int32.lt_iff_toInt_lt, e0] at q
      omega
    · show (x.toInt.toNat : Int) = x.toInt
      omega
  have b1 := z sp a1
  have b2 := z dp a2
  have b3 := z n a3
  refine va_copyi (f := fun j => (μ k0 j).toInt8.toInt32) (g := fun j => (μ k1 j).toInt8.toInt32) hx hb (hml.trans hsz.symm) hown (hts _ hlink) (hts _ hnat) (hts _ hstat) (hts _ hini) hK.1 hP Ws_D hS k0 k1 0 0 (c0 := g.2.1 0) (c1 := g.2.1 0) (n0 := n0) (n1 := n1) (ty := .byte) ((Ws_get hk0.1).trans (by rw [Ex_by hk0.2.1, hk0.2.2])) ((Ws_get hk1.1).trans (by rw [Ex_by hk1.2.1, hk1.2.2])) rfl rfl rfl b1.1 b2.1 b3.1 (by omega) (by omega) (fun _ _ => x_fitb _) hframes hlocals hdg (fun H1 locs1 hP1 _ hS1 => kk H1 locs1 ?_ hS1)
  unfold Px
  rw [← Ws_set (μ := μ) (k := k1) (e := .inl (g.2.1 0, n1, .inl (va_cpy (fun j => (μ k0 j).toInt8.toInt32) (fun j => (μ k1 j).toInt8.toInt32) sp.toNatClampNeg dp.toNatClampNeg n.toNatClampNeg))) ?_ (fun a ha => (str_other μ _ ha).symm)]
  · exact hP1
  · rw [Ex_by hk1.2.1, str_same, hk1.2.2]
    congr 4
    funext j
    unfold va_cpy
    split <;> rfl
/-- static arrays -/
theorem x_kaN (C0 : Cx Ly g p s m args meth c cc nL ret own) (hS : va_S (Ax Ly g) s.heap H locs) {index : Nat} (hn : (own, index) ∈ nestF) (hdg : decode cc pc = .ok (.getstatic index, 3))
    (kk : W p l e R s m args below meth c H locs 0 0 Q (F0 m (pc + 3) ls (.ref (g.2.2.2 0) :: rest))) : W p l e R s m args below meth c H locs 0 0 Q (F0 m pc ls rest) := by
  obtain ⟨hx, hb, -, hml, hown, hts, -, hK⟩ := C0
  exact va_getsN (ref := "CoinMeter") (host := "CoinMeter") hx hb hK.2.2.2.1.1 hS hown (va_Nw.use rfl (hK.2.2.1 _ hn)) (fun _ h => h) hdg kk
theorem x_bo (C0 : Cx Ly g p s m args meth c cc nL ret own) (hS : va_S (Ax Ly g) s.heap H locs) {index : Nat} (hlink : Cond.fieldLink own index "CoinMeter$Voices" "BODIES" "[I" ∈ UW) (hdg : decode cc pc = .ok (.getstatic index, 3))
    (kk : W p l e R s m args below meth c H locs 0 0 Q (F0 m (pc + 3) ls (.ref (g.2.2.2 1) :: rest))) : W p l e R s m args below meth c H locs 0 0 Q (F0 m pc ls rest) := by
  obtain ⟨hx, hb, -, hml, hown, hts, -, hK⟩ := C0
  exact va_gets (ref := "CoinMeter$Voices") hx hb hK.2.2.2.2.1 hS hown (hts _ hlink) (fun _ h => h) hdg kk
theorem x_tald {f : Nat → Int32} {t n : Nat} (C0 : Cx Ly g p s m args meth c cc nL ret own) (hS : va_S (Ax Ly g) s.heap H locs) (hT : va_T .int t n (fun j => .int (f j)) (Ax Ly g) s s.heap) {i : Int32} {j : Nat} (hin : inB i n) (hj : i.toNatClampNeg = j) (hdg : decode cc pc = .ok (.iaload, 1))
    (kk : W p l e R s m args below meth c H locs 0 0 Q (F0 m (pc + 1) ls (.int (f j) :: rest))) : W p l e R s m args below meth c H locs 0 0 Q (F0 m pc ls (.int i :: .ref t :: rest)) := by
  subst hj
  obtain ⟨hx, hb, -, hml, hown, hts, -, hK⟩ := C0
  obtain ⟨cell, h1, h2, h3, h4, h5, h6, h7⟩ := hT
  have hi := inB_vp hin
  have hlt : i.toNatClampNeg < n := Nat.not_le.mp fun q => hi (Or.inr q)
  exact W.iald (v := .int (f i.toNatClampNeg)) hx hb (by rw [hS.2.1 t (Array.getElem?_eq_some_iff.mp h1).1 h7]; exact h1) h2 h3 (fun q => hi (q.imp_right (fun z => Nat.le_trans h4 z))) (h6 _ hlt) rfl rfl hdg kk
/-- calls -/
theorem x_go {v : Option Value} {ν : Mem} {a : Array Value} {st0 : List Value} (hr : va_Run p l e R s m args below meth c H locs 0 0 0 0 (F0 m pc ls st0) rest (Qx Ly g v ν a) (Ax Ly g)) (hS : va_S (Ax Ly g) s.heap H locs)
    (kk : ∀ (H1 : Heap) (locs1 : List Loc), Px Ly g ν H1 → va_S (Ax Ly g) s.heap H1 locs1 → W p l e R s m args below meth c H1 locs1 0 0 Q (F0 m (pc + 3) ls (v.toList ++ rest))) : W p l e R s m args below meth c H locs 0 0 Q (F0 m pc ls st0) := by
  intro T hT X
  obtain ⟨v', st₀, t, T', L, h0, X', hL, e1, e2, ⟨hv, hp, hz, hk⟩, st⟩ := hr T hT X
  cases hv
  rw [h0] at hz hk
  obtain ⟨t2, a1, b1⟩ := kk T'.heap (locs ++ L) (by rw [e1]; exact hp)
    ⟨Nat.le_trans hS.1 (by rw [e1]; exact hz), fun q h1 h2 => by rw [e1, hk q (Nat.lt_of_lt_of_le h1 hS.1) h2]; exact hS.2.1 q h1 h2, fun q hq => by
      rcases List.mem_append.mp hq with h | h
      · exact hS.2.2 q h
      · exact hL q h⟩ T' rfl X'
  exact ⟨t2, st t2 a1, b1⟩
theorem x_callV (C0 : Cx Ly g p s m args meth c cc nL ret own) {y : MethodName} {cc' : ByteArray} {nL' n index ci k n0 : Nat} {ret' : Option FieldType} {rm : Room} {As : List Value} {v : Option Value} {ν : Mem} {q : vw_C} {st0 : List Value} (hM : Ct Ly g l y cc' nL' ret' rm (.ref (g.2.2.1 + k) :: As) μ v ν) (hcode : Cond.code y cc' nL' ret' ∈ UW) (hlink : Cond.methodLink own index y ∈ UW) (hinst : Cond.instanceMethod y ∈ UW) (hsel : Cond.selects q.1 y y ∈ UW) (hini : Cond.initialized q.1 ∈ UW) (hd : y.cls = q.1 ∧ y.cls ≠ "java/lang/invoke/MethodHandle" ∧ y.cls ≠ "java/lang/invoke/VarHandle" ∧ (parseMethodDescriptor y.desc).map (fun d => d.parameters.length) = some n) (hr0 : rm.cells = 0 ∧ rm.slots = 0) (hR : rm.frames + 1 ≤ R.frames ∧ 8 + (nL' + 11) + rm.locals ≤ R.locals) (hk : Cel Ly k ci n0) (hci : ci < 11) (hc : vwCl[ci]? = some q) (hP : Px Ly g μ H) (hS : va_S (Ax Ly g) s.heap H locs) (hsz : ls.size = nL) (hn : As.length = n) (hst : st0 = As.reverse ++ .ref (g.2.2.1 + k) :: rest) (hw : (rest.map fun v => v.category).sum ≤ 8) (hdg : decode cc pc = .ok (.invokevirtual index, 3))
    (kk : ∀ (H1 : Heap) (locs1 : List Loc), Px Ly g ν H1 → va_S (Ax Ly g) s.heap H1 locs1 → W p l e R s m args below meth c H1 locs1 0 0 Q (F0 m (pc + 3) ls (v.toList ++ rest))) : W p l e R s m args below meth c H locs 0 0 Q (F0 m pc ls st0) := by
  obtain ⟨hx, hb, -, hml, hown, hts, -, hK⟩ := C0
  refine x_go (rest := rest) (va_runV (As := As) (b := g.2.2.1 + k) (rest := rest) ⟨hx, hb, hml, hown, hts⟩ hM ⟨callB_of n hts (UGc hcode) rfl hr0.1 hr0.2 (by rw [hd.1]; exact hts _ hini) (hts _ hlink) hd.2 hR, hts _ hinst, hts _ hsel⟩ ⟨Pg_blind, va_recv hK.1 hP hc ((Ws_get hk.1).trans (by rw [Ex_ob hk.2.1 hci])), fun U hU hW => ⟨rfl, by rw [hU]; exact hP, hK.go hS hU hW⟩⟩ rfl hn hsz hst (lv_room hw) hdg ⟨Nat.zero_le _, Nat.zero_le _⟩) hS kk
theorem x_callS (C0 : Cx Ly g p s m args meth c cc nL ret own) {y : MethodName} {cc' : ByteArray} {nL' n index : Nat} {ret' : Option FieldType} {rm : Room} {As : List Value} {v : Option Value} {ν : Mem} {st0 : List Value} (hM : Ct Ly g l y cc' nL' ret' rm As μ v ν) (hcode : Cond.code y cc' nL' ret' ∈ UW) (hlink : Cond.methodLink own index y ∈ UW) (hstat : Cond.static y ∈ UW) (hini : Cond.initialized y.cls ∈ UW) (hd : y.cls ≠ "java/lang/invoke/MethodHandle" ∧ y.cls ≠ "java/lang/invoke/VarHandle" ∧ (parseMethodDescriptor y.desc).map (fun d => d.parameters.length) = some n) (hr0 : rm.cells = 0 ∧ rm.slots = 0) (hR : rm.frames + 1 ≤ R.frames ∧ 8 + (nL' + 11) + rm.locals ≤ R.locals) (hP : Px Ly g μ H) (hS : va_S (Ax Ly g) s.heap H locs) (hsz : ls.size = nL) (hn : As.length = n) (hst : st0 = As.reverse ++ rest) (hw : (rest.map fun v => v.category).sum ≤ 8) (hdg : decode cc pc = .ok (.invokestatic index, 3))
    (kk : ∀ (H1 : Heap) (locs1 : List Loc), Px Ly g ν H1 → va_S (Ax Ly g) s.heap H1 locs1 → W p l e R s m args below meth c H1 locs1 0 0 Q (F0 m (pc + 3) ls (v.toList ++ rest))) : W p l e R s m args below meth c H locs 0 0 Q (F0 m pc ls st0) := by
  obtain ⟨hx, hb, -, hml, hown, hts, -, hK⟩ := C0
  refine x_go (rest := rest) (va_runS (As := As) (rest := rest) ⟨hx, hb, hml, hown, hts⟩ hM ⟨callB_of n hts (UGc hcode) rfl hr0.1 hr0.2 (hts _ hini) (hts _ hlink) hd hR, hts _ hstat⟩ ⟨Pg_blind, fun U hU hW => ⟨rfl, by rw [hU]; exact hP, hK.go hS hU hW⟩⟩ rfl hn hsz hst (lv_room hw) hdg ⟨Nat.zero_le _, Nat.zero_le _⟩) hS kk
theorem x_callSN (C0 : Cx Ly g p s m args meth c cc nL ret own) {y : MethodName} {cc' : ByteArray} {nL' n index : Nat} {ret' : Option FieldType} {rm : Room} {As : List Value} {v : Option Value} {ν : Mem} {st0 : List Value} (hM : Ct Ly g l y cc' nL' ret' rm As μ v ν) (hcode : Cond.code y cc' nL' ret' ∈ UW) (hnest : (own, index, y) ∈ nestM) (hstat : Cond.static y ∈ UW) (hini : Cond.initialized y.cls ∈ UW) (hd : y.cls ≠ "java/lang/invoke/MethodHandle" ∧ y.cls ≠ "java/lang/invoke/VarHandle" ∧ (parseMethodDescriptor y.desc).map (fun d => d.parameters.length) = some n) (hr0 : rm.cells = 0 ∧ rm.slots = 0) (hR : rm.frames + 1 ≤ R.frames ∧ 8 + (nL' + 11) + rm.locals ≤ R.locals) (hP : Px Ly g μ H) (hS : va_S (Ax Ly g) s.heap H locs) (hsz : ls.size = nL) (hn : As.length = n) (hst : st0 = As.reverse ++ rest) (hw : (rest.map fun v => v.category).sum ≤ 8) (hdg : decode cc pc = .ok (.invokestatic index, 3))
    (kk : ∀ (H1 : Heap) (locs1 : List Loc), Px Ly g ν H1 → va_S (Ax Ly g) s.heap H1 locs1 → W p l e R s m args below meth c H1 locs1 0 0 Q (F0 m (pc + 3) ls (v.toList ++ rest))) : W p l e R s m args below meth c H locs 0 0 Q (F0 m pc ls st0) := by
  obtain ⟨hx, hb, -, hml, hown, hts, -, hK⟩ := C0
  refine x_go (rest := rest) (va_runSN (As := As) (rest := rest) ⟨hx, hb, hml, hown, hts⟩ hM ⟨va_cnB n hts (UGc hcode) rfl hr0.1 hr0.2 (hK.2.1 _ hnest) (hts _ hini) hd hR, hts _ hstat, trivial⟩ ⟨Pg_blind, fun U hU hW => ⟨rfl, by rw [hU]; exact hP, hK.go hS hU hW⟩⟩ rfl hn hsz hst (lv_room hw) hdg ⟨Nat.zero_le _, Nat.zero_le _⟩) hS kk
/-- ends -/
theorem x_iret {v : Int32} (C0 : Cx Ly g p s m args meth c cc nL (some .int) own) (hP : Px Ly g μ H) (hS : va_S (Ax Ly g) s.heap H locs) (hdg : decode cc pc = .ok (.ireturn, 1)) : W p l e R s m args below meth c H locs 0 0 (MQ below (Qx Ly g (some (.int v)) μ) args s 0 0 (Ax Ly g)) (F0 m pc ls [.int v]) := by
  obtain ⟨hx, hb, hr, hml, hown, hts, hlocks, hK⟩ := C0
  exact W.iret hx hb hr (fun t ht hW => ⟨rfl, by rw [ht]; exact hP, hS.F ht⟩) hS.2.2 hdg
theorem x_bool {v : Int32} (h : v = 0 ∨ v = 1) : narrow .boolean (.int v) = .int v ∧ fits .boolean (.int v) = true := by
  rcases h with rfl | rfl <;> exact ⟨rfl, rfl⟩
theorem x_zret {v : Int32} (C0 : Cx Ly g p s m args meth c cc nL (some .boolean) own) (hP : Px Ly g μ H) (hS : va_S (Ax Ly g) s.heap H locs) (hv : v = 0 ∨ v = 1) (hdg : decode cc pc = .ok (.ireturn, 1)) : W p l e R s m args below meth c H locs 0 0 (MQ below (Qx Ly g (some (.int v)) μ) args s 0 0 (Ax Ly g)) (F0 m pc ls [.int v]) := by
  obtain ⟨hx, hb, hr, hml, hown, hts, hlocks, hK⟩ := C0
  exact W.zret hx hb hr (x_bool hv).1 (fun t ht hW => ⟨rfl, by rw [ht]; exact hP, hS.F ht⟩) hS.2.2 hdg
theorem x_vret (C0 : Cx Ly g p s m args meth c cc nL none own) (hP : Px Ly g μ H) (hS : va_S (Ax Ly g) s.heap H locs) (hdg : decode cc pc = .ok (.return_, 1)) : W p l e R s m args below meth c H locs 0 0 (MQ below (Qx Ly g none μ) args s 0 0 (Ax Ly g)) (F0 m pc ls []) := by
  obtain ⟨hx, hb, hr, hml, hown, hts, hlocks, hK⟩ := C0
  exact W.vret hx hb hr (fun t ht hW => ⟨rfl, by rw [ht]; exact hP, hS.F ht⟩) hS.2.2 hdg
end XR
/-- a contract out of the walk from the first instruction on -/
theorem x_met {Ly : Lay} {g : Gx} {l : Launch} {y : MethodName} {cc : ByteArray} {nL : Nat} {ret : Option FieldType} {rm : Room} {As : List Value} {μ ν : Mem} {v : Option Value} (hy : plainName y.cls = true) (hfit : (lg_sl As).length ≤ nL) {lv : List (Nat × Value)} (hlv : lv_args 0 As = lv)
    (body : ∀ (p : Program) (e : Env) (s : State) (m : MethodId) (below : List Frame) (meth : Method) (c : Code), Cx Ly g p s m As.toArray meth c cc nL ret y.cls → Px Ly g μ s.heap → ∀ ls : Array Slot, lv_has ls nL lv → W p l e rm s m As.toArray below meth c s.heap [] 0 0 (MQ below (Qx Ly g v ν) As.toArray s 0 0 (Ax Ly g)) (F0 m 0 ls [])) : Ct Ly g l y cc nL ret rm As μ v ν := by
  refine Met.ofW (cc := cc) (maxL := nL) (ret := ret) hy rfl ?_
  intro p e s m args below meth c s₁ B hml hv
  obtain ⟨rfl, hP, hK⟩ := hv
  have hts := atoms_spec (ws := Cond.code y cc nL ret :: UW) B.pre
  have hl := lv_entry As (n := nL) hfit
  rw [lg_entry_eq]
  exact body p e s m below meth c ⟨B.exec, B.bytes, B.returns, hml, findClass_of_methodNamed B.named, fun w h => hts w (List.mem_cons_of_mem _ h), B.notSynchronized, hK⟩ hP _ (hlv ▸ hl)
