def X4_begin_26  : Nat → Nat → Int32 → Mem → Option Mem
  | 0, _, _, _ => none
  | n + 1, a0, x3, μ => (if (24 : Int32) ≤ x3 then some μ else gd (inB x3 24) (lt (st μ (a0 + 1) x3.toNatClampNeg (0 : Int32)) fun μ7 => (X4_begin_26 n) a0 (x3 + (1 : Int32)) μ7))
set_option maxRecDepth 100000 in
set_option maxHeartbeats 4000000 in
theorem w_X4_begin_26 {g : Gx} {p : Program} {l : Launch} {e : Env} {s : State} {m : MethodId} {args : Array Value} {below : List Frame} {meth : Method} {c : Code} (C0 : Cx Lx g p s m args meth c cX4_begin 4 none RX4) {ν : Mem}  (n : Nat) : ∀ (a0 : Nat) (ha0 : Id4 a0) (x3 : Int32) (μ : Mem) (H : Heap) (locs : List Loc) (ls : Array Slot), Px Lx g μ H → va_S (Ax Lx g) s.heap H locs → lv_has ls 4 [(0, .ref (g.2.2.1 + a0)), (3, .int x3)] → X4_begin_26  n a0 x3 μ = some ν → W p l e { frames := 2, cells := 0, slots := 0, locals := 36 } s m args below meth c H locs 0 0 (MQ below (Qx Lx g none ν) args s 0 0 (Ax Lx g)) (F0 m 26 ls []) := by
  obtain ⟨hx, hb, hr, hml, hown, hts, hlocks, hK⟩ := id C0
  induction n with
  | zero =>
    intro a0 ha0 x3 μ H locs ls hP hS hl h
    have h : (none : Option Mem) = some ν := h
    cases h
  | succ n ih =>
    intro a0 ha0 x3 μ H locs ls hP hS hl h
    rw [X4_begin_26.eq_2] at h
    refine lv_iload_n hx hb dX4_begin_26 rfl (lv_at hl 1 rfl) ?_
    refine lv_aload_n hx hb dX4_begin_27 rfl (lv_at hl 0 rfl) ?_
    refine x_get C0 hP inu4 (k := a0) (id4_0 ha0) (by decide) rfl 0 (by decide) q2_68 rfl (v := .ref (g.2.2.1 + (a0 + 1))) rfl dX4_begin_28 ?_
    refine x_alen C0 hP (k := (a0 + 1)) (Or.inl (id4_1 ha0)) (v := (24 : Int32)) rfl dX4_begin_31 ?_
    refine lv_icmp_ge (tgt := 48) hx hb dX4_begin_32 (by decide) (fun c5 => ?_) (fun c5 => ?_)
    · rw [if_pos c5] at h
      obtain rfl := some1 h
      exact x_vret C0 hP hS dX4_begin_48
    · rw [if_neg c5] at h
      refine lv_aload_n hx hb dX4_begin_35 rfl (lv_at hl 0 rfl) ?_
      refine x_get C0 hP inu4 (k := a0) (id4_0 ha0) (by decide) rfl 0 (by decide) q2_68 rfl (v := .ref (g.2.2.1 + (a0 + 1))) rfl dX4_begin_36 ?_
      refine lv_iload_n hx hb dX4_begin_39 rfl (lv_at hl 1 rfl) ?_
      refine lv_iconst (v := (0 : Int32)) hx hb dX4_begin_40 rfl ?_
      obtain ⟨z6, h⟩ := gd_some h
      obtain ⟨μ7, e7, h⟩ := lt_some h
      refine x_iast C0 hP hS (k := (a0 + 1)) (id4_1 ha0) (j := x3.toNatClampNeg) z6 rfl dX4_begin_41 (fun H locs hP hS => ?_)
      rw [← e7] at hP
      refine lv_iinc (v := (x3 + (1 : Int32))) (lv' := [(3, .int (x3 + (1 : Int32))), (0, .ref (g.2.2.1 + a0))]) hx hb dX4_begin_42 hl (k := 1) rfl rfl (by decide) rfl (fun ls hl => ?_)
      refine lv_goto (tgt := 26) hx hb dX4_begin_45 (by decide) ?_
      exact ih a0 ha0 (x3 + (1 : Int32)) μ7 _ _ _ hP hS (lv_sub hl [1, 0] rfl) h
def X4_begin_21  (a0 : Nat) (b0 : Nat) (t1 : Int32) (μ : Mem) : Option Mem :=
  lt (st μ b0 2 t1) fun μ4 => X4_begin_26 FU a0 (0 : Int32) μ4
set_option maxRecDepth 100000 in
set_option maxHeartbeats 4000000 in
theorem w_X4_begin_21 {g : Gx} {p : Program} {l : Launch} {e : Env} {s : State} {m : MethodId} {args : Array Value} {below : List Frame} {meth : Method} {c : Code} (C0 : Cx Lx g p s m args meth c cX4_begin 4 none RX4) {ν : Mem}  (a0 : Nat) (ha0 : Id4 a0) (b0 : Nat) (hb0 : Id4 b0) (t1 : Int32) (μ : Mem) (H : Heap) (locs : List Loc) (ls : Array Slot) (hP : Px Lx g μ H) (hS : va_S (Ax Lx g) s.heap H locs) (hl : lv_has ls 4 [(0, .ref (g.2.2.1 + a0))]) (h : X4_begin_21  a0 b0 t1 μ = some ν) : W p l e { frames := 2, cells := 0, slots := 0, locals := 36 } s m args below meth c H locs 0 0 (MQ below (Qx Lx g none ν) args s 0 0 (Ax Lx g)) (F0 m 21 ls [.int t1, .ref (g.2.2.1 + b0)]) := by
  obtain ⟨hx, hb, hr, hml, hown, hts, hlocks, hK⟩ := id C0
  unfold X4_begin_21 at h
  obtain ⟨μ4, e4, h⟩ := lt_some h
  refine x_put C0 hP hS inu4 tyX4 tyX4_ok nmX4 (k := b0) (id4_0 hb0) (by decide) rfl 2 (by decide) q2_72 rfl rfl (v := .int t1) (x := t1) rfl rfl (Nat.le_of_ble_eq_true rfl) (os_4_2 _ _ _ _) dX4_begin_21 (fun H locs hP hS => ?_)
  rw [← e4] at hP
  refine lv_iconst (v := (0 : Int32)) hx hb dX4_begin_24 rfl ?_
  refine lv_istore_n (lv' := [(3, .int (0 : Int32)), (0, .ref (g.2.2.1 + a0))]) hx hb dX4_begin_25 rfl hl (by decide) rfl (fun ls hl => ?_)
  exact w_X4_begin_26 C0  FU a0 ha0 (0 : Int32) μ4 _ _ _ hP hS (lv_sub hl [1, 0] rfl) h
def X4_begin (a0 : Nat) (x1 : Int32) (x2 : Int32) (μ : Mem) : Option Mem :=
  lt (st μ a0 1 x1) fun μ1 => (if x1 = (0 : Int32) then X4_begin_21 a0 a0 (0 : Int32) μ1 else ob2 (X9_within (0 : Int32) x2 (24 : Int32) μ1) fun r3 μ3 => X4_begin_21 a0 a0 r3 μ3)
set_option maxRecDepth 100000 in
set_option maxHeartbeats 4000000 in
theorem c_X4_begin (l : Launch) (g : Gx) (a0 : Nat) (hi0 : Id4 a0) (x1 : Int32) (x2 : Int32) (μ : Mem) {ν : Mem} (h : X4_begin a0 x1 x2 μ = some ν) : Ct Lx g l yX4_begin cX4_begin 4 none { frames := 2, cells := 0, slots := 0, locals := 36 } [.ref (g.2.2.1 + a0), .int x1, .int x2] μ none ν := by
  refine x_met (lv := [(0, .ref (g.2.2.1 + a0)), (1, .int x1), (2, .int x2)]) rfl (Nat.le_of_ble_eq_true rfl) rfl ?_
  intro p e s m below meth c C0 hP ls hl
  generalize ([.ref (g.2.2.1 + a0), .int x1, .int x2] : List Value).toArray = args at C0 ⊢
  have C0 : Cx Lx g p s m args meth c cX4_begin 4 none RX4 := C0
  have hS : va_S (Ax Lx g) s.heap s.heap [] := va_S.rf
  obtain ⟨hx, hb, hr, hml, hown, hts, hlocks, hK⟩ := id C0
  unfold X4_begin at h
  skip
  refine lv_aload_n hx hb dX4_begin_0 rfl (lv_at hl 0 rfl) ?_
  refine lv_iload_n hx hb dX4_begin_1 rfl (lv_at hl 1 rfl) ?_
  obtain ⟨μ1, e1, h⟩ := lt_some h
  refine x_put C0 hP hS inu4 tyX4 tyX4_ok nmX4 (k := a0) (id4_0 hi0) (by decide) rfl 1 (by decide) q2_70 rfl rfl (v := .int x1) (x := x1) rfl rfl (Nat.le_of_ble_eq_true rfl) (os_4_1 _ _ _ _) dX4_begin_2 (fun H locs hP hS => ?_)
  rw [← e1] at hP
  refine lv_aload_n hx hb dX4_begin_5 rfl (lv_at hl 0 rfl) ?_
  refine lv_iload_n hx hb dX4_begin_6 rfl (lv_at hl 1 rfl) ?_
  refine lv_if_ne (tgt := 14) hx hb dX4_begin_7 (by decide) (fun c2 => ?_) (fun c2 => ?_)
  · rw [if_neg c2] at h
    refine lv_iconst (v := (0 : Int32)) hx hb dX4_begin_14 rfl ?_
    refine lv_iload_n hx hb dX4_begin_15 rfl (lv_at hl 2 rfl) ?_
    refine lv_bipush (v := (24 : Int32)) hx hb dX4_begin_16 (by decide +kernel) ?_
    obtain ⟨r3, μ3, h1, h⟩ := ob2_some h
    refine x_callSN C0 (rest := [.ref (g.2.2.1 + a0)]) (c_X9_within l g (0 : Int32) x2 (24 : Int32) μ1 h1) q3_40 (by decide +kernel) q3_39 q1_1 hd_X9_within ⟨rfl, rfl⟩ ⟨Nat.le_of_ble_eq_true rfl, Nat.le_of_ble_eq_true rfl⟩ hP hS hl.1 rfl rfl (Nat.le_of_ble_eq_true rfl) dX4_begin_18 (fun H locs hP hS => ?_)
    refine W.eq (g2 := F0 m 21 ls [.int r3, .ref (g.2.2.1 + a0)]) rfl ?_
    exact w_X4_begin_21 C0  a0 hi0 a0 hi0 r3 μ3 _ _ _ hP hS (lv_sub hl [0] rfl) h
  · rw [if_pos c2] at h
    refine lv_iconst (v := (0 : Int32)) hx hb dX4_begin_10 rfl ?_
    refine lv_goto (tgt := 21) hx hb dX4_begin_11 (by decide) ?_
    exact w_X4_begin_21 C0  a0 hi0 a0 hi0 (0 : Int32) μ1 _ _ _ hP hS (lv_sub hl [0] rfl) h
def X4_lowest (a0 : Nat) (x1 : Int32) (μ : Mem) : Option (Int32 × Mem) :=
  (if (μ a0 1) = (8 : Int32) then some (x1.toInt8.toInt32, μ) else (if (μ a0 1) = (16 : Int32) then some (x1.toInt16.toInt32, μ) else some (x1, μ)))
set_option maxRecDepth 100000 in
set_option maxHeartbeats 4000000 in
theorem c_X4_lowest (l : Launch) (g : Gx) (a0 : Nat) (hi0 : Id4 a0) (x1 : Int32) (μ : Mem) {r : Int32} {ν : Mem} (h : X4_lowest a0 x1 μ = some (r, ν)) : Ct Lx g l yX4_lowest cX4_lowest 2 (some .int) { frames := 0, cells := 0, slots := 0, locals := 0 } [.ref (g.2.2.1 + a0), .int x1] μ (some (.int r)) ν := by
  refine x_met (lv := [(0, .ref (g.2.2.1 + a0)), (1, .int x1)]) rfl (Nat.le_of_ble_eq_true rfl) rfl ?_
  intro p e s m below meth c C0 hP ls hl
  generalize ([.ref (g.2.2.1 + a0), .int x1] : List Value).toArray = args at C0 ⊢
  have C0 : Cx Lx g p s m args meth c cX4_lowest 2 (some .int) RX4 := C0
  have hS : va_S (Ax Lx g) s.heap s.heap [] := va_S.rf
  obtain ⟨hx, hb, hr, hml, hown, hts, hlocks, hK⟩ := id C0
  unfold X4_lowest at h
  skip
  refine lv_aload_n hx hb dX4_lowest_0 rfl (lv_at hl 0 rfl) ?_
  refine x_get C0 hP inu4 (k := a0) (id4_0 hi0) (by decide) rfl 1 (by decide) q2_70 rfl (v := .int (μ a0 1)) rfl dX4_lowest_1 ?_
  by_cases c1 : (μ a0 1) = (8 : Int32)
  · rw [if_pos c1] at h
    refine lv_lookup (tgt := 32) (off := 28) hx hb dX4_lowest_4 (by decide) (by rw [c1]; decide) (by decide) ?_
    refine lv_iload_n hx hb dX4_lowest_32 rfl (lv_at hl 1 rfl) ?_
    refine lv_i2b (v := x1.toInt8.toInt32) hx hb dX4_lowest_33 rfl ?_
    obtain ⟨rfl, rfl⟩ := some2 h
    exact x_iret C0 hP hS dX4_lowest_34
  rw [if_neg c1] at h
  by_cases c2 : (μ a0 1) = (16 : Int32)
  · rw [if_pos c2] at h
    refine lv_lookup (tgt := 35) (off := 31) hx hb dX4_lowest_4 (by decide) (by rw [c2]; decide) (by decide) ?_
    refine lv_iload_n hx hb dX4_lowest_35 rfl (lv_at hl 1 rfl) ?_
    refine lv_i2s (v := x1.toInt16.toInt32) hx hb dX4_lowest_36 rfl ?_
    obtain ⟨rfl, rfl⟩ := some2 h
    exact x_iret C0 hP hS dX4_lowest_37
  rw [if_neg c2] at h
  have i1 : ¬ (μ a0 1).toInt = 8 := fun q => c1 (Int32.toInt_inj.mp (q.trans (by decide)))
  have i2 : ¬ (μ a0 1).toInt = 16 := fun q => c2 (Int32.toInt_inj.mp (q.trans (by decide)))
  refine lv_lookup (tgt := 38) (off := 34) hx hb dX4_lowest_4 (by decide) (by simp [Op.lookupswitch.offset, Ne.symm i1, Ne.symm i2]) (by decide) ?_
  refine lv_iload_n hx hb dX4_lowest_38 rfl (lv_at hl 1 rfl) ?_
  obtain ⟨rfl, rfl⟩ := some2 h
  exact x_iret C0 hP hS dX4_lowest_39
def X4_write (a0 : Nat) (x1 : Int32) (x2 : Int32) (μ : Mem) : Option Mem :=
  (if x1 < (0 : Int32) then some μ else (if (μ a0 2) ≤ x1 then some μ else ob2 (X4_lowest a0 x2 μ) fun r3 μ3 => gd (inB x1 24) (lt (st μ3 (a0 + 1) x1.toNatClampNeg r3) fun μ5 => some μ5)))
set_option maxRecDepth 100000 in
set_option maxHeartbeats 4000000 in
theorem c_X4_write (l : Launch) (g : Gx) (a0 : Nat) (hi0 : Id4 a0) (x1 : Int32) (x2 : Int32) (μ : Mem) {ν : Mem} (h : X4_write a0 x1 x2 μ = some ν) : Ct Lx g l yX4_write cX4_write 3 none { frames := 1, cells := 0, slots := 0, locals := 21 } [.ref (g.2.2.1 + a0), .int x1, .int x2] μ none ν := by
  refine x_met (lv := [(0, .ref (g.2.2.1 + a0)), (1, .int x1), (2, .int x2)]) rfl (Nat.le_of_ble_eq_true rfl) rfl ?_
  intro p e s m below meth c C0 hP ls hl
  generalize ([.ref (g.2.2.1 + a0), .int x1, .int x2] : List Value).toArray = args at C0 ⊢
  have C0 : Cx Lx g p s m args meth c cX4_write 3 none RX4 := C0
  have hS : va_S (Ax Lx g) s.heap s.heap [] := va_S.rf
  obtain ⟨hx, hb, hr, hml, hown, hts, hlocks, hK⟩ := id C0
  unfold X4_write at h
  skip
  refine lv_iload_n hx hb dX4_write_0 rfl (lv_at hl 1 rfl) ?_
  refine lv_if_lt (tgt := 23) hx hb dX4_write_1 (by decide) (fun c1 => ?_) (fun c1 => ?_)
  · rw [if_pos c1] at h
    obtain rfl := some1 h
    exact x_vret C0 hP hS dX4_write_23
  · rw [if_neg c1] at h
    refine lv_iload_n hx hb dX4_write_4 rfl (lv_at hl 1 rfl) ?_
    refine lv_aload_n hx hb dX4_write_5 rfl (lv_at hl 0 rfl) ?_
    refine x_get C0 hP inu4 (k := a0) (id4_0 hi0) (by decide) rfl 2 (by decide) q2_72 rfl (v := .int (μ a0 2)) rfl dX4_write_6 ?_
    refine lv_icmp_ge (tgt := 23) hx hb dX4_write_9 (by decide) (fun c2 => ?_) (fun c2 => ?_)
    · rw [if_pos c2] at h
      obtain rfl := some1 h
      exact x_vret C0 hP hS dX4_write_23
    · rw [if_neg c2] at h
      refine lv_aload_n hx hb dX4_write_12 rfl (lv_at hl 0 rfl) ?_
      refine x_get C0 hP inu4 (k := a0) (id4_0 hi0) (by decide) rfl 0 (by decide) q2_68 rfl (v := .ref (g.2.2.1 + (a0 + 1))) rfl dX4_write_13 ?_
      refine lv_iload_n hx hb dX4_write_16 rfl (lv_at hl 1 rfl) ?_
      refine lv_aload_n hx hb dX4_write_17 rfl (lv_at hl 0 rfl) ?_
      refine lv_iload_n hx hb dX4_write_18 rfl (lv_at hl 2 rfl) ?_
      obtain ⟨r3, μ3, h1, h⟩ := ob2_some h
      refine x_callV C0 (rest := [.int x1, .ref (g.2.2.1 + (a0 + 1))]) (q := (RX4, TX4, 3)) (c_X4_lowest l g a0 hi0 x2 μ h1) q4_69 q4_66 q4_68 r2_4 q1_10 hd_X4_lowest ⟨rfl, rfl⟩ ⟨Nat.le_of_ble_eq_true rfl, Nat.le_of_ble_eq_true rfl⟩ (id4_0 hi0) (by decide) rfl hP hS hl.1 rfl rfl (Nat.le_of_ble_eq_true rfl) dX4_write_19 (fun H locs hP hS => ?_)
      refine W.eq (g2 := F0 m 22 ls [.int r3, .int x1, .ref (g.2.2.1 + (a0 + 1))]) rfl ?_
      obtain ⟨z4, h⟩ := gd_some h
      obtain ⟨μ5, e5, h⟩ := lt_some h
      refine x_iast C0 hP hS (k := (a0 + 1)) (id4_1 hi0) (j := x1.toNatClampNeg) z4 rfl dX4_write_22 (fun H locs hP hS => ?_)
      rw [← e5] at hP
      obtain rfl := some1 h
      exact x_vret C0 hP hS dX4_write_23
def X4_numberAt (a0 : Nat) (x1 : Int32) (μ : Mem) : Option (Int32 × Mem) :=
  (if x1 < (0 : Int32) then some ((0 : Int32), μ) else (if (μ a0 2) ≤ x1 then some ((0 : Int32), μ) else gd (inB x1 24) (some ((μ (a0 + 1) x1.toNatClampNeg), μ))))
set_option maxRecDepth 100000 in
set_option maxHeartbeats 4000000 in
theorem c_X4_numberAt (l : Launch) (g : Gx) (a0 : Nat) (hi0 : Id4 a0) (x1 : Int32) (μ : Mem) {r : Int32} {ν : Mem} (h : X4_numberAt a0 x1 μ = some (r, ν)) : Ct Lx g l yX4_numberAt cX4_numberAt 2 (some .int) { frames := 0, cells := 0, slots := 0, locals := 0 } [.ref (g.2.2.1 + a0), .int x1] μ (some (.int r)) ν := by
  refine x_met (lv := [(0, .ref (g.2.2.1 + a0)), (1, .int x1)]) rfl (Nat.le_of_ble_eq_true rfl) rfl ?_
  intro p e s m below meth c C0 hP ls hl
  generalize ([.ref (g.2.2.1 + a0), .int x1] : List Value).toArray = args at C0 ⊢
  have C0 : Cx Lx g p s m args meth c cX4_numberAt 2 (some .int) RX4 := C0
  have hS : va_S (Ax Lx g) s.heap s.heap [] := va_S.rf
  obtain ⟨hx, hb, hr, hml, hown, hts, hlocks, hK⟩ := id C0
  unfold X4_numberAt at h
  skip
  refine lv_iload_n hx hb dX4_numberAt_0 rfl (lv_at hl 1 rfl) ?_
  refine lv_if_lt (tgt := 21) hx hb dX4_numberAt_1 (by decide) (fun c1 => ?_) (fun c1 => ?_)
  · rw [if_pos c1] at h
    refine lv_iconst (v := (0 : Int32)) hx hb dX4_numberAt_21 rfl ?_
    obtain ⟨rfl, rfl⟩ := some2 h
    exact x_iret C0 hP hS dX4_numberAt_22
  · rw [if_neg c1] at h
    refine lv_iload_n hx hb dX4_numberAt_4 rfl (lv_at hl 1 rfl) ?_
    refine lv_aload_n hx hb dX4_numberAt_5 rfl (lv_at hl 0 rfl) ?_
    refine x_get C0 hP inu4 (k := a0) (id4_0 hi0) (by decide) rfl 2 (by decide) q2_72 rfl (v := .int (μ a0 2)) rfl dX4_numberAt_6 ?_
    refine lv_icmp_ge (tgt := 21) hx hb dX4_numberAt_9 (by decide) (fun c2 => ?_) (fun c2 => ?_)
    · rw [if_pos c2] at h
      refine lv_iconst (v := (0 : Int32)) hx hb dX4_numberAt_21 rfl ?_
      obtain ⟨rfl, rfl⟩ := some2 h
      exact x_iret C0 hP hS dX4_numberAt_22
    · rw [if_neg c2] at h
      refine lv_aload_n hx hb dX4_numberAt_12 rfl (lv_at hl 0 rfl) ?_
      refine x_get C0 hP inu4 (k := a0) (id4_0 hi0) (by decide) rfl 0 (by decide) q2_68 rfl (v := .ref (g.2.2.1 + (a0 + 1))) rfl dX4_numberAt_13 ?_
      refine lv_iload_n hx hb dX4_numberAt_16 rfl (lv_at hl 1 rfl) ?_
      obtain ⟨z3, h⟩ := gd_some h
      refine x_iald C0 hP (k := (a0 + 1)) (id4_1 hi0) (j := x1.toNatClampNeg) z3 rfl dX4_numberAt_17 ?_
      refine lv_goto (tgt := 22) hx hb dX4_numberAt_18 (by decide) ?_
      obtain ⟨rfl, rfl⟩ := some2 h
      exact x_iret C0 hP hS dX4_numberAt_22
def X4_holds (a0 : Nat) (x1 : Int32) (x2 : Int32) (μ : Mem) : Option (Int32 × Mem) :=
  (if x1 < (0 : Int32) then some ((0 : Int32), μ) else (if x2 < (0 : Int32) then some ((0 : Int32), μ) else (if (μ a0 2) < x1 then some ((0 : Int32), μ) else (if ((μ a0 2) - x1) < x2 then some ((0 : Int32), μ) else some ((1 : Int32), μ)))))
set_option maxRecDepth 100000 in
set_option maxHeartbeats 4000000 in
theorem c_X4_holds (l : Launch) (g : Gx) (a0 : Nat) (hi0 : Id4 a0) (x1 : Int32) (x2 : Int32) (μ : Mem) {r : Int32} {ν : Mem} (h : X4_holds a0 x1 x2 μ = some (r, ν)) : Ct Lx g l yX4_holds cX4_holds 3 (some .boolean) { frames := 0, cells := 0, slots := 0, locals := 0 } [.ref (g.2.2.1 + a0), .int x1, .int x2] μ (some (.int r)) ν := by
  refine x_met (lv := [(0, .ref (g.2.2.1 + a0)), (1, .int x1), (2, .int x2)]) rfl (Nat.le_of_ble_eq_true rfl) rfl ?_
  intro p e s m below meth c C0 hP ls hl
  generalize ([.ref (g.2.2.1 + a0), .int x1, .int x2] : List Value).toArray = args at C0 ⊢
  have C0 : Cx Lx g p s m args meth c cX4_holds 3 (some .boolean) RX4 := C0
  have hS : va_S (Ax Lx g) s.heap s.heap [] := va_S.rf
  obtain ⟨hx, hb, hr, hml, hown, hts, hlocks, hK⟩ := id C0
  unfold X4_holds at h
  skip
  refine lv_iload_n hx hb dX4_holds_0 rfl (lv_at hl 1 rfl) ?_
  refine lv_if_lt (tgt := 30) hx hb dX4_holds_1 (by decide) (fun c1 => ?_) (fun c1 => ?_)
  · rw [if_pos c1] at h
    refine lv_iconst (v := (0 : Int32)) hx hb dX4_holds_30 rfl ?_
    obtain ⟨rfl, rfl⟩ := some2 h
    exact x_zret C0 hP hS (by decide) dX4_holds_31
  · rw [if_neg c1] at h
    refine lv_iload_n hx hb dX4_holds_4 rfl (lv_at hl 2 rfl) ?_
    refine lv_if_lt (tgt := 30) hx hb dX4_holds_5 (by decide) (fun c2 => ?_) (fun c2 => ?_)
    · rw [if_pos c2] at h
      refine lv_iconst (v := (0 : Int32)) hx hb dX4_holds_30 rfl ?_
      obtain ⟨rfl, rfl⟩ := some2 h
      exact x_zret C0 hP hS (by decide) dX4_holds_31
    · rw [if_neg c2] at h
      refine lv_iload_n hx hb dX4_holds_8 rfl (lv_at hl 1 rfl) ?_
      refine lv_aload_n hx hb dX4_holds_9 rfl (lv_at hl 0 rfl) ?_
      refine x_get C0 hP inu4 (k := a0) (id4_0 hi0) (by decide) rfl 2 (by decide) q2_72 rfl (v := .int (μ a0 2)) rfl dX4_holds_10 ?_
      refine lv_icmp_gt (tgt := 30) hx hb dX4_holds_13 (by decide) (fun c3 => ?_) (fun c3 => ?_)
      · rw [if_pos c3] at h
        refine lv_iconst (v := (0 : Int32)) hx hb dX4_holds_30 rfl ?_
        obtain ⟨rfl, rfl⟩ := some2 h
        exact x_zret C0 hP hS (by decide) dX4_holds_31
      · rw [if_neg c3] at h
        refine lv_iload_n hx hb dX4_holds_16 rfl (lv_at hl 2 rfl) ?_
        refine lv_aload_n hx hb dX4_holds_17 rfl (lv_at hl 0 rfl) ?_
        refine x_get C0 hP inu4 (k := a0) (id4_0 hi0) (by decide) rfl 2 (by decide) q2_72 rfl (v := .int (μ a0 2)) rfl dX4_holds_18 ?_
        refine lv_iload_n hx hb dX4_holds_21 rfl (lv_at hl 1 rfl) ?_
        refine lv_isub hx hb dX4_holds_22 ?_
        refine lv_icmp_gt (tgt := 30) hx hb dX4_holds_23 (by decide) (fun c4 => ?_) (fun c4 => ?_)
        · rw [if_pos c4] at h
          refine lv_iconst (v := (0 : Int32)) hx hb dX4_holds_30 rfl ?_
          obtain ⟨rfl, rfl⟩ := some2 h
          exact x_zret C0 hP hS (by decide) dX4_holds_31
        · rw [if_neg c4] at h
          refine lv_iconst (v := (1 : Int32)) hx hb dX4_holds_26 rfl ?_
          refine lv_goto (tgt := 31) hx hb dX4_holds_27 (by decide) ?_
          obtain ⟨rfl, rfl⟩ := some2 h
          exact x_zret C0 hP hS (by decide) dX4_holds_31
def X5_has (x1 : Int32) (μ : Mem) : Option (Int32 × Mem) :=
  (if x1 < (0 : Int32) then some ((0 : Int32), μ) else (if (μ 3 4) ≤ x1 then some ((0 : Int32), μ) else some ((1 : Int32), μ)))
set_option maxRecDepth 100000 in
set_option maxHeartbeats 4000000 in
theorem c_X5_has (l : Launch) (g : Gx) (x1 : Int32) (μ : Mem) {r : Int32} {ν : Mem} (h : X5_has x1 μ = some (r, ν)) : Ct Lx g l yX5_has cX5_has 2 (some .boolean) { frames := 0, cells := 0, slots := 0, locals := 0 } [.ref (g.2.2.1 + 3), .int x1] μ (some (.int r)) ν := by
  refine x_met (lv := [(0, .ref (g.2.2.1 + 3)), (1, .int x1)]) rfl (Nat.le_of_ble_eq_true rfl) rfl ?_
  intro p e s m below meth c C0 hP ls hl
  generalize ([.ref (g.2.2.1 + 3), .int x1] : List Value).toArray = args at C0 ⊢
  have C0 : Cx Lx g p s m args meth c cX5_has 2 (some .boolean) RX5 := C0
  have hS : va_S (Ax Lx g) s.heap s.heap [] := va_S.rf
  obtain ⟨hx, hb, hr, hml, hown, hts, hlocks, hK⟩ := id C0
  unfold X5_has at h
  skip
  refine lv_iload_n hx hb dX5_has_0 rfl (lv_at hl 1 rfl) ?_
  refine lv_if_lt (tgt := 16) hx hb dX5_has_1 (by decide) (fun c1 => ?_) (fun c1 => ?_)
  · rw [if_pos c1] at h
    refine lv_iconst (v := (0 : Int32)) hx hb dX5_has_16 rfl ?_
    obtain ⟨rfl, rfl⟩ := some2 h
    exact x_zret C0 hP hS (by decide) dX5_has_17
  · rw [if_neg c1] at h
    refine lv_iload_n hx hb dX5_has_4 rfl (lv_at hl 1 rfl) ?_
    refine lv_aload_n hx hb dX5_has_5 rfl (lv_at hl 0 rfl) ?_
    refine x_get C0 hP inu5 (k := 3) cx_3 (by decide) rfl 4 (by decide) q1_41 rfl (v := .int (μ 3 4)) rfl dX5_has_6 ?_
    refine lv_icmp_ge (tgt := 16) hx hb dX5_has_9 (by decide) (fun c2 => ?_) (fun c2 => ?_)
    · rw [if_pos c2] at h
      refine lv_iconst (v := (0 : Int32)) hx hb dX5_has_16 rfl ?_
      obtain ⟨rfl, rfl⟩ := some2 h
      exact x_zret C0 hP hS (by decide) dX5_has_17
    · rw [if_neg c2] at h
      refine lv_iconst (v := (1 : Int32)) hx hb dX5_has_12 rfl ?_
      refine lv_goto (tgt := 17) hx hb dX5_has_13 (by decide) ?_
      obtain ⟨rfl, rfl⟩ := some2 h
      exact x_zret C0 hP hS (by decide) dX5_has_17
def X5_add (x1 : Int32) (x2 : Int32) (μ : Mem) : Option (Int32 × Mem) :=
  (if (μ 3 4) < (8 : Int32) then gd (inB (μ 3 4) 8) (lt (st μ 4 (μ 3 4).toNatClampNeg (x1 / (100 : Int32))) fun μ3 => gd (inB (μ3 3 4) 8) (lt (st μ3 5 (μ3 3 4).toNatClampNeg (x1 - x1 / (100 : Int32) * (100 : Int32))) fun μ5 => gd (inB (μ5 3 4) 8) (lt (st μ5 6 (μ5 3 4).toNatClampNeg (x2 / (100 : Int32))) fun μ7 => gd (inB (μ7 3 4) 8) (lt (st μ7 7 (μ7 3 4).toNatClampNeg (x2 - x2 / (100 : Int32) * (100 : Int32))) fun μ9 => lt (st μ9 3 4 ((μ9 3 4) + (1 : Int32))) fun μ10 => some (((μ10 3 4) - (1 : Int32)), μ10))))) else some ((-1 : Int32), μ))
set_option maxRecDepth 100000 in
set_option maxHeartbeats 4000000 in
theorem c_X5_add (l : Launch) (g : Gx) (x1 : Int32) (x2 : Int32) (μ : Mem) {r : Int32} {ν : Mem} (h : X5_add x1 x2 μ = some (r, ν)) : Ct Lx g l yX5_add cX5_add 3 (some .int) { frames := 0, cells := 0, slots := 0, locals := 0 } [.ref (g.2.2.1 + 3), .int x1, .int x2] μ (some (.int r)) ν := by
  refine x_met (lv := [(0, .ref (g.2.2.1 + 3)), (1, .int x1), (2, .int x2)]) rfl (Nat.le_of_ble_eq_true rfl) rfl ?_
  intro p e s m below meth c C0 hP ls hl
  generalize ([.ref (g.2.2.1 + 3), .int x1, .int x2] : List Value).toArray = args at C0 ⊢
  have C0 : Cx Lx g p s m args meth c cX5_add 3 (some .int) RX5 := C0
  have hS : va_S (Ax Lx g) s.heap s.heap [] := va_S.rf
  obtain ⟨hx, hb, hr, hml, hown, hts, hlocks, hK⟩ := id C0
  unfold X5_add at h
  skip
  refine lv_aload_n hx hb dX5_add_0 rfl (lv_at hl 0 rfl) ?_
  refine x_get C0 hP inu5 (k := 3) cx_3 (by decide) rfl 4 (by decide) q1_41 rfl (v := .int (μ 3 4)) rfl dX5_add_1 ?_
  refine lv_bipush (v := (8 : Int32)) hx hb dX5_add_4 (by decide +kernel) ?_
  refine lv_icmp_lt (tgt := 11) hx hb dX5_add_6 (by decide) (fun c1 => ?_) (fun c1 => ?_)
  · rw [if_pos c1] at h
    refine lv_aload_n hx hb dX5_add_11 rfl (lv_at hl 0 rfl) ?_
    refine x_get C0 hP inu5 (k := 3) cx_3 (by decide) rfl 0 (by decide) q1_37 rfl (v := .ref (g.2.2.1 + 4)) rfl dX5_add_12 ?_
    refine lv_aload_n hx hb dX5_add_15 rfl (lv_at hl 0 rfl) ?_
    refine x_get C0 hP inu5 (k := 3) cx_3 (by decide) rfl 4 (by decide) q1_41 rfl (v := .int (μ 3 4)) rfl dX5_add_16 ?_
    refine lv_iload_n hx hb dX5_add_19 rfl (lv_at hl 1 rfl) ?_
    refine lv_bipush (v := (100 : Int32)) hx hb dX5_add_20 (by decide +kernel) ?_
    refine lv_idiv hx hb dX5_add_22 (by decide) ?_
    obtain ⟨z2, h⟩ := gd_some h
    obtain ⟨μ3, e3, h⟩ := lt_some h
    refine x_iast C0 hP hS (k := 4) cx_4 (j := (μ 3 4).toNatClampNeg) z2 rfl dX5_add_23 (fun H locs hP hS => ?_)
    rw [← e3] at hP
    refine lv_aload_n hx hb dX5_add_24 rfl (lv_at hl 0 rfl) ?_
    refine x_get C0 hP inu5 (k := 3) cx_3 (by decide) rfl 1 (by decide) q1_38 rfl (v := .ref (g.2.2.1 + 5)) rfl dX5_add_25 ?_
    refine lv_aload_n hx hb dX5_add_28 rfl (lv_at hl 0 rfl) ?_
    refine x_get C0 hP inu5 (k := 3) cx_3 (by decide) rfl 4 (by decide) q1_41 rfl (v := .int (μ3 3 4)) rfl dX5_add_29 ?_
    refine lv_iload_n hx hb dX5_add_32 rfl (lv_at hl 1 rfl) ?_
    refine lv_bipush (v := (100 : Int32)) hx hb dX5_add_33 (by decide +kernel) ?_
    refine lv_irem hx hb dX5_add_35 (by decide) ?_
    obtain ⟨z4, h⟩ := gd_some h
    obtain ⟨μ5, e5, h⟩ := lt_some h
    refine x_iast C0 hP hS (k := 5) cx_5 (j := (μ3 3 4).toNatClampNeg) z4 rfl dX5_add_36 (fun H locs hP hS => ?_)
    rw [← e5] at hP
    refine lv_aload_n hx hb dX5_add_37 rfl (lv_at hl 0 rfl) ?_
    refine x_get C0 hP inu5 (k := 3) cx_3 (by decide) rfl 2 (by decide) q1_39 rfl (v := .ref (g.2.2.1 + 6)) rfl dX5_add_38 ?_
    refine lv_aload_n hx hb dX5_add_41 rfl (lv_at hl 0 rfl) ?_
    refine x_get C0 hP inu5 (k := 3) cx_3 (by decide) rfl 4 (by decide) q1_41 rfl (v := .int (μ5 3 4)) rfl dX5_add_42 ?_
    refine lv_iload_n hx hb dX5_add_45 rfl (lv_at hl 2 rfl) ?_
    refine lv_bipush (v := (100 : Int32)) hx hb dX5_add_46 (by decide +kernel) ?_
    refine lv_idiv hx hb dX5_add_48 (by decide) ?_
    obtain ⟨z6, h⟩ := gd_some h
    obtain ⟨μ7, e7, h⟩ := lt_some h
    refine x_iast C0 hP hS (k := 6) cx_6 (j := (μ5 3 4).toNatClampNeg) z6 rfl dX5_add_49 (fun H locs hP hS => ?_)
    rw [← e7] at hP
    refine lv_aload_n hx hb dX5_add_50 rfl (lv_at hl 0 rfl) ?_
    refine x_get C0 hP inu5 (k := 3) cx_3 (by decide) rfl 3 (by decide) q1_40 rfl (v := .ref (g.2.2.1 + 7)) rfl dX5_add_51 ?_
    refine lv_aload_n hx hb dX5_add_54 rfl (lv_at hl 0 rfl) ?_
    refine x_get C0 hP inu5 (k := 3) cx_3 (by decide) rfl 4 (by decide) q1_41 rfl (v := .int (μ7 3 4)) rfl dX5_add_55 ?_
    refine lv_iload_n hx hb dX5_add_58 rfl (lv_at hl 2 rfl) ?_
    refine lv_bipush (v := (100 : Int32)) hx hb dX5_add_59 (by decide +kernel) ?_
    refine lv_irem hx hb dX5_add_61 (by decide) ?_
    obtain ⟨z8, h⟩ := gd_some h
    obtain ⟨μ9, e9, h⟩ := lt_some h
    refine x_iast C0 hP hS (k := 7) cx_7 (j := (μ7 3 4).toNatClampNeg) z8 rfl dX5_add_62 (fun H locs hP hS => ?_)
    rw [← e9] at hP
    refine lv_aload_n hx hb dX5_add_63 rfl (lv_at hl 0 rfl) ?_
    refine lv_dup hx hb dX5_add_64 rfl ?_
    refine x_get C0 hP inu5 (k := 3) cx_3 (by decide) rfl 4 (by decide) q1_41 rfl (v := .int (μ9 3 4)) rfl dX5_add_65 ?_
    refine lv_iconst (v := (1 : Int32)) hx hb dX5_add_68 rfl ?_
    refine lv_iadd hx hb dX5_add_69 ?_
    obtain ⟨μ10, e10, h⟩ := lt_some h
    refine x_put C0 hP hS inu5 tyX5 tyX5_ok nmX5 (k := 3) cx_3 (by decide) rfl 4 (by decide) q1_41 rfl rfl (v := .int ((μ9 3 4) + (1 : Int32))) (x := ((μ9 3 4) + (1 : Int32))) rfl rfl (Nat.le_of_ble_eq_true rfl) (os_5_4 _ _ _ _) dX5_add_70 (fun H locs hP hS => ?_)
    rw [← e10] at hP
    refine lv_aload_n hx hb dX5_add_73 rfl (lv_at hl 0 rfl) ?_
    refine x_get C0 hP inu5 (k := 3) cx_3 (by decide) rfl 4 (by decide) q1_41 rfl (v := .int (μ10 3 4)) rfl dX5_add_74 ?_
    refine lv_iconst (v := (1 : Int32)) hx hb dX5_add_77 rfl ?_
    refine lv_isub hx hb dX5_add_78 ?_
    obtain ⟨rfl, rfl⟩ := some2 h
    exact x_iret C0 hP hS dX5_add_79
  · rw [if_neg c1] at h
    refine lv_iconst (v := (-1 : Int32)) hx hb dX5_add_9 rfl ?_
    obtain ⟨rfl, rfl⟩ := some2 h
    exact x_iret C0 hP hS dX5_add_10
def X5_isOpen (x1 : Int32) (x2 : Int32) (μ : Mem) : Option (Int32 × Mem) :=
  ob2 (X5_has x1 μ) fun r1 μ1 => (if r1 = (0 : Int32) then some ((0 : Int32), μ1) else gd (inB x1 8) ((if x2 < (μ1 6 x1.toNatClampNeg) then some ((0 : Int32), μ1) else gd (inB x1 8) ((if (μ1 7 x1.toNatClampNeg) ≤ x2 then some ((0 : Int32), μ1) else some ((1 : Int32), μ1))))))
set_option maxRecDepth 100000 in
set_option maxHeartbeats 4000000 in
theorem c_X5_isOpen (l : Launch) (g : Gx) (x1 : Int32) (x2 : Int32) (μ : Mem) {r : Int32} {ν : Mem} (h : X5_isOpen x1 x2 μ = some (r, ν)) : Ct Lx g l yX5_isOpen cX5_isOpen 3 (some .boolean) { frames := 1, cells := 0, slots := 0, locals := 21 } [.ref (g.2.2.1 + 3), .int x1, .int x2] μ (some (.int r)) ν := by
  refine x_met (lv := [(0, .ref (g.2.2.1 + 3)), (1, .int x1), (2, .int x2)]) rfl (Nat.le_of_ble_eq_true rfl) rfl ?_
  intro p e s m below meth c C0 hP ls hl
  generalize ([.ref (g.2.2.1 + 3), .int x1, .int x2] : List Value).toArray = args at C0 ⊢
  have C0 : Cx Lx g p s m args meth c cX5_isOpen 3 (some .boolean) RX5 := C0
  have hS : va_S (Ax Lx g) s.heap s.heap [] := va_S.rf
  obtain ⟨hx, hb, hr, hml, hown, hts, hlocks, hK⟩ := id C0
  unfold X5_isOpen at h
  skip
  refine lv_aload_n hx hb dX5_isOpen_0 rfl (lv_at hl 0 rfl) ?_
  refine lv_iload_n hx hb dX5_isOpen_1 rfl (lv_at hl 1 rfl) ?_
  obtain ⟨r1, μ1, h1, h⟩ := ob2_some h
  refine x_callV C0 (rest := []) (q := (RX5, TX5, 5)) (c_X5_has l g x1 μ h1) q3_15 q3_12 q3_13 q3_14 q1_3 hd_X5_has ⟨rfl, rfl⟩ ⟨Nat.le_of_ble_eq_true rfl, Nat.le_of_ble_eq_true rfl⟩ cx_3 (by decide) rfl hP hS hl.1 rfl rfl (Nat.le_of_ble_eq_true rfl) dX5_isOpen_2 (fun H locs hP hS => ?_)
  refine W.eq (g2 := F0 m 5 ls [.int r1]) rfl ?_
  refine lv_if_eq (tgt := 32) hx hb dX5_isOpen_5 (by decide) (fun c2 => ?_) (fun c2 => ?_)
  · rw [if_pos c2] at h
    refine lv_iconst (v := (0 : Int32)) hx hb dX5_isOpen_32 rfl ?_
    obtain ⟨rfl, rfl⟩ := some2 h
    exact x_zret C0 hP hS (by decide) dX5_isOpen_33
  · rw [if_neg c2] at h
    refine lv_iload_n hx hb dX5_isOpen_8 rfl (lv_at hl 2 rfl) ?_
    refine lv_aload_n hx hb dX5_isOpen_9 rfl (lv_at hl 0 rfl) ?_
    refine x_get C0 hP inu5 (k := 3) cx_3 (by decide) rfl 2 (by decide) q1_39 rfl (v := .ref (g.2.2.1 + 6)) rfl dX5_isOpen_10 ?_
    refine lv_iload_n hx hb dX5_isOpen_13 rfl (lv_at hl 1 rfl) ?_
    obtain ⟨z3, h⟩ := gd_some h
    refine x_iald C0 hP (k := 6) cx_6 (j := x1.toNatClampNeg) z3 rfl dX5_isOpen_14 ?_
    refine lv_icmp_lt (tgt := 32) hx hb dX5_isOpen_15 (by decide) (fun c4 => ?_) (fun c4 => ?_)
    · rw [if_pos c4] at h
      refine lv_iconst (v := (0 : Int32)) hx hb dX5_isOpen_32 rfl ?_
      obtain ⟨rfl, rfl⟩ := some2 h
      exact x_zret C0 hP hS (by decide) dX5_isOpen_33
    · rw [if_neg c4] at h
      refine lv_iload_n hx hb dX5_isOpen_18 rfl (lv_at hl 2 rfl) ?_
      refine lv_aload_n hx hb dX5_isOpen_19 rfl (lv_at hl 0 rfl) ?_
      refine x_get C0 hP inu5 (k := 3) cx_3 (by decide) rfl 3 (by decide) q1_40 rfl (v := .ref (g.2.2.1 + 7)) rfl dX5_isOpen_20 ?_
      refine lv_iload_n hx hb dX5_isOpen_23 rfl (lv_at hl 1 rfl) ?_
      obtain ⟨z5, h⟩ := gd_some h
      refine x_iald C0 hP (k := 7) cx_7 (j := x1.toNatClampNeg) z5 rfl dX5_isOpen_24 ?_
      refine lv_icmp_ge (tgt := 32) hx hb dX5_isOpen_25 (by decide) (fun c6 => ?_) (fun c6 => ?_)
      · rw [if_pos c6] at h
        refine lv_iconst (v := (0 : Int32)) hx hb dX5_isOpen_32 rfl ?_
        obtain ⟨rfl, rfl⟩ := some2 h
        exact x_zret C0 hP hS (by decide) dX5_isOpen_33
      · rw [if_neg c6] at h
        refine lv_iconst (v := (1 : Int32)) hx hb dX5_isOpen_28 rfl ?_
        refine lv_goto (tgt := 33) hx hb dX5_isOpen_29 (by decide) ?_
        obtain ⟨rfl, rfl⟩ := some2 h
        exact x_zret C0 hP hS (by decide) dX5_isOpen_33
def X5_farFrom (x1 : Int32) (a2 : Nat) (μ : Mem) : Option (Int32 × Mem) :=
  ob2 (X5_has x1 μ) fun r1 μ1 => (if r1 = (0 : Int32) then some ((9000 : Int32), μ1) else gd (inB x1 8) (gd (inB x1 8) (some (((if 0 ≤ ((μ1 4 x1.toNatClampNeg) - (μ1 a2 3)) then ((μ1 4 x1.toNatClampNeg) - (μ1 a2 3)) else 0 - ((μ1 4 x1.toNatClampNeg) - (μ1 a2 3))) + (if 0 ≤ ((μ1 5 x1.toNatClampNeg) - (μ1 a2 4)) then ((μ1 5 x1.toNatClampNeg) - (μ1 a2 4)) else 0 - ((μ1 5 x1.toNatClampNeg) - (μ1 a2 4)))), μ1))))
set_option maxRecDepth 100000 in
set_option maxHeartbeats 4000000 in
theorem c_X5_farFrom (l : Launch) (g : Gx) (x1 : Int32) (a2 : Nat) (hi2 : Id2 a2) (μ : Mem) {r : Int32} {ν : Mem} (h : X5_farFrom x1 a2 μ = some (r, ν)) : Ct Lx g l yX5_farFrom cX5_farFrom 3 (some .int) { frames := 1, cells := 0, slots := 0, locals := 21 } [.ref (g.2.2.1 + 3), .int x1, .ref (g.2.2.1 + a2)] μ (some (.int r)) ν := by
  refine x_met (lv := [(0, .ref (g.2.2.1 + 3)), (1, .int x1), (2, .ref (g.2.2.1 + a2))]) rfl (Nat.le_of_ble_eq_true rfl) rfl ?_
  intro p e s m below meth c C0 hP ls hl
  generalize ([.ref (g.2.2.1 + 3), .int x1, .ref (g.2.2.1 + a2)] : List Value).toArray = args at C0 ⊢
  have C0 : Cx Lx g p s m args meth c cX5_farFrom 3 (some .int) RX5 := C0
  have hS : va_S (Ax Lx g) s.heap s.heap [] := va_S.rf
  obtain ⟨hx, hb, hr, hml, hown, hts, hlocks, hK⟩ := id C0
  unfold X5_farFrom at h
  skip
  refine lv_aload_n hx hb dX5_farFrom_0 rfl (lv_at hl 0 rfl) ?_
  refine lv_iload_n hx hb dX5_farFrom_1 rfl (lv_at hl 1 rfl) ?_
  obtain ⟨r1, μ1, h1, h⟩ := ob2_some h
  refine x_callV C0 (rest := []) (q := (RX5, TX5, 5)) (c_X5_has l g x1 μ h1) q3_15 q3_12 q3_13 q3_14 q1_3 hd_X5_has ⟨rfl, rfl⟩ ⟨Nat.le_of_ble_eq_true rfl, Nat.le_of_ble_eq_true rfl⟩ cx_3 (by decide) rfl hP hS hl.1 rfl rfl (Nat.le_of_ble_eq_true rfl) dX5_farFrom_2 (fun H locs hP hS => ?_)
  refine W.eq (g2 := F0 m 5 ls [.int r1]) rfl ?_
  refine lv_if_eq (tgt := 40) hx hb dX5_farFrom_5 (by decide) (fun c2 => ?_) (fun c2 => ?_)
  · rw [if_pos c2] at h
    refine lv_sipush (v := (9000 : Int32)) hx hb dX5_farFrom_40 (by decide +kernel) ?_
    obtain ⟨rfl, rfl⟩ := some2 h
    exact x_iret C0 hP hS dX5_farFrom_43
  · rw [if_neg c2] at h
    refine lv_aload_n hx hb dX5_farFrom_8 rfl (lv_at hl 0 rfl) ?_
    refine x_get C0 hP inu5 (k := 3) cx_3 (by decide) rfl 0 (by decide) q1_37 rfl (v := .ref (g.2.2.1 + 4)) rfl dX5_farFrom_9 ?_
    refine lv_iload_n hx hb dX5_farFrom_12 rfl (lv_at hl 1 rfl) ?_
    obtain ⟨z3, h⟩ := gd_some h
    refine x_iald C0 hP (k := 4) cx_4 (j := x1.toNatClampNeg) z3 rfl dX5_farFrom_13 ?_
    refine lv_aload_n hx hb dX5_farFrom_14 rfl (lv_at hl 2 rfl) ?_
    refine x_get C0 hP inu2 (k := a2) (id2_0 hi2) (by decide) rfl 3 (by decide) q1_152 rfl (v := .int (μ1 a2 3)) rfl dX5_farFrom_15 ?_
    refine lv_isub hx hb dX5_farFrom_18 ?_
    refine va_mabs hx hb (hml.trans hl.1.symm) hown (hts _ q3_20) (hts _ q3_21) (hts _ q1_12) (hts _ q3_22) (Nat.le_of_ble_eq_true rfl) (Nat.le_of_ble_eq_true rfl) (Nat.zero_le _) (Nat.zero_le _) dX5_farFrom_19 ?_
    refine lv_aload_n hx hb dX5_farFrom_22 rfl (lv_at hl 0 rfl) ?_
    refine x_get C0 hP inu5 (k := 3) cx_3 (by decide) rfl 1 (by decide) q1_38 rfl (v := .ref (g.2.2.1 + 5)) rfl dX5_farFrom_23 ?_
    refine lv_iload_n hx hb dX5_farFrom_26 rfl (lv_at hl 1 rfl) ?_
    obtain ⟨z4, h⟩ := gd_some h
    refine x_iald C0 hP (k := 5) cx_5 (j := x1.toNatClampNeg) z4 rfl dX5_farFrom_27 ?_
    refine lv_aload_n hx hb dX5_farFrom_28 rfl (lv_at hl 2 rfl) ?_
    refine x_get C0 hP inu2 (k := a2) (id2_0 hi2) (by decide) rfl 4 (by decide) q1_155 rfl (v := .int (μ1 a2 4)) rfl dX5_farFrom_29 ?_
    refine lv_isub hx hb dX5_farFrom_32 ?_
    refine va_mabs hx hb (hml.trans hl.1.symm) hown (hts _ q3_20) (hts _ q3_21) (hts _ q1_12) (hts _ q3_22) (Nat.le_of_ble_eq_true rfl) (Nat.le_of_ble_eq_true rfl) (Nat.zero_le _) (Nat.zero_le _) dX5_farFrom_33 ?_
    refine lv_iadd hx hb dX5_farFrom_36 ?_
    refine lv_goto (tgt := 43) hx hb dX5_farFrom_37 (by decide) ?_
    obtain ⟨rfl, rfl⟩ := some2 h
    exact x_iret C0 hP hS dX5_farFrom_43
def X5_leastFar_47 (K5 : Nat → Int32 → Int32 → Int32 → Mem → Option (Int32 × Mem)) (a1 : Nat) (x2 : Int32) (x3 : Int32) (x4 : Int32) (μ : Mem) : Option (Int32 × Mem) :=
  K5 a1 x2 x3 (x4 + (1 : Int32)) μ
set_option maxRecDepth 100000 in
set_option maxHeartbeats 4000000 in
theorem w_X5_leastFar_47 {g : Gx} {p : Program} {l : Launch} {e : Env} {s : State} {m : MethodId} {args : Array Value} {below : List Frame} {meth : Method} {c : Code} (C0 : Cx Lx g p s m args meth c cX5_leastFar 5 (some .int) RX5) {r : Int32} {ν : Mem} (K5 : Nat → Int32 → Int32 → Int32 → Mem → Option (Int32 × Mem)) (hK5 : ∀ (a1 : Nat) (ha1 : Id2 a1) (x2 : Int32) (x3 : Int32) (x4 : Int32) (μ : Mem) (H : Heap) (locs : List Loc) (ls : Array Slot), Px Lx g μ H → va_S (Ax Lx g) s.heap H locs → lv_has ls 5 [(0, .ref (g.2.2.1 + 3)), (1, .ref (g.2.2.1 + a1)), (2, .int x2), (3, .int x3), (4, .int x4)] → K5 a1 x2 x3 x4 μ = some (r, ν) → W p l e { frames := 2, cells := 0, slots := 0, locals := 43 } s m args below meth c H locs 0 0 (MQ below (Qx Lx g (some (.int r)) ν) args s 0 0 (Ax Lx g)) (F0 m 5 ls [])) (a1 : Nat) (ha1 : Id2 a1) (x2 : Int32) (x3 : Int32) (x4 : Int32) (μ : Mem) (H : Heap) (locs : List Loc) (ls : Array Slot) (hP : Px Lx g μ H) (hS : va_S (Ax Lx g) s.heap H locs) (hl : lv_has ls 5 [(0, .ref (g.2.2.1 + 3)), (1, .ref (g.2.2.1 + a1)), (2, .int x2), (3, .int x3), (4, .int x4)]) (h : X5_leastFar_47 K5 a1 x2 x3 x4 μ = some (r, ν)) : W p l e { frames := 2, cells := 0, slots := 0, locals := 43 } s m args below meth c H locs 0 0 (MQ below (Qx Lx g (some (.int r)) ν) args s 0 0 (Ax Lx g)) (F0 m 47 ls []) := by
  obtain ⟨hx, hb, hr, hml, hown, hts, hlocks, hK⟩ := id C0
  unfold X5_leastFar_47 at h
  refine lv_iinc (v := (x4 + (1 : Int32))) (lv' := [(4, .int (x4 + (1 : Int32))), (0, .ref (g.2.2.1 + 3)), (1, .ref (g.2.2.1 + a1)), (2, .int x2), (3, .int x3)]) hx hb dX5_leastFar_47 hl (k := 4) rfl rfl (by decide) rfl (fun ls hl => ?_)
  refine lv_goto (tgt := 5) hx hb dX5_leastFar_50 (by decide) ?_
  exact hK5 a1 ha1 x2 x3 (x4 + (1 : Int32)) μ _ _ _ hP hS (lv_sub hl [1, 2, 3, 4, 0] rfl) h
def X5_leastFar_44 (K5 : Nat → Int32 → Int32 → Int32 → Mem → Option (Int32 × Mem)) (a1 : Nat) (x2 : Int32) (x4 : Int32) (μ : Mem) : Option (Int32 × Mem) :=
  X5_leastFar_47 K5 a1 x2 x4 x4 μ
set_option maxRecDepth 100000 in
set_option maxHeartbeats 4000000 in
theorem w_X5_leastFar_44 {g : Gx} {p : Program} {l : Launch} {e : Env} {s : State} {m : MethodId} {args : Array Value} {below : List Frame} {meth : Method} {c : Code} (C0 : Cx Lx g p s m args meth c cX5_leastFar 5 (some .int) RX5) {r : Int32} {ν : Mem} (K5 : Nat → Int32 → Int32 → Int32 → Mem → Option (Int32 × Mem)) (hK5 : ∀ (a1 : Nat) (ha1 : Id2 a1) (x2 : Int32) (x3 : Int32) (x4 : Int32) (μ : Mem) (H : Heap) (locs : List Loc) (ls : Array Slot), Px Lx g μ H → va_S (Ax Lx g) s.heap H locs → lv_has ls 5 [(0, .ref (g.2.2.1 + 3)), (1, .ref (g.2.2.1 + a1)), (2, .int x2), (3, .int x3), (4, .int x4)] → K5 a1 x2 x3 x4 μ = some (r, ν) → W p l e { frames := 2, cells := 0, slots := 0, locals := 43 } s m args below meth c H locs 0 0 (MQ below (Qx Lx g (some (.int r)) ν) args s 0 0 (Ax Lx g)) (F0 m 5 ls [])) (a1 : Nat) (ha1 : Id2 a1) (x2 : Int32) (x4 : Int32) (μ : Mem) (H : Heap) (locs : List Loc) (ls : Array Slot) (hP : Px Lx g μ H) (hS : va_S (Ax Lx g) s.heap H locs) (hl : lv_has ls 5 [(0, .ref (g.2.2.1 + 3)), (1, .ref (g.2.2.1 + a1)), (2, .int x2), (4, .int x4)]) (h : X5_leastFar_44 K5 a1 x2 x4 μ = some (r, ν)) : W p l e { frames := 2, cells := 0, slots := 0, locals := 43 } s m args below meth c H locs 0 0 (MQ below (Qx Lx g (some (.int r)) ν) args s 0 0 (Ax Lx g)) (F0 m 44 ls []) := by
  obtain ⟨hx, hb, hr, hml, hown, hts, hlocks, hK⟩ := id C0
  unfold X5_leastFar_44 at h
  refine lv_iload hx hb dX5_leastFar_44 (lv_at hl 3 rfl) ?_
  refine lv_istore_n (lv' := [(3, .int x4), (0, .ref (g.2.2.1 + 3)), (1, .ref (g.2.2.1 + a1)), (2, .int x2), (4, .int x4)]) hx hb dX5_leastFar_46 rfl hl (by decide) rfl (fun ls hl => ?_)
  exact w_X5_leastFar_47 C0 K5 hK5 a1 ha1 x2 x4 x4 μ _ _ _ hP hS (lv_sub hl [1, 2, 3, 0, 4] rfl) h
def X5_leastFar_5  : Nat → Nat → Int32 → Int32 → Int32 → Mem → Option (Int32 × Mem)
  | 0, _, _, _, _, _ => none
  | n + 1, a1, x2, x3, x4, μ => (if (μ 3 4) ≤ x4 then some (x3, μ) else ob2 (X5_isOpen x4 x2 μ) fun r2 μ2 => (if r2 = (0 : Int32) then X5_leastFar_47 (X5_leastFar_5 n) a1 x2 x3 x4 μ2 else (if x3 < (0 : Int32) then X5_leastFar_44 (X5_leastFar_5 n) a1 x2 x4 μ2 else ob2 (X5_farFrom x4 a1 μ2) fun r5 μ5 => ob2 (X5_farFrom x3 a1 μ5) fun r6 μ6 => (if r6 ≤ r5 then X5_leastFar_47 (X5_leastFar_5 n) a1 x2 x3 x4 μ6 else X5_leastFar_44 (X5_leastFar_5 n) a1 x2 x4 μ6))))
set_option maxRecDepth 100000 in
set_option maxHeartbeats 4000000 in
theorem w_X5_leastFar_5 {g : Gx} {p : Program} {l : Launch} {e : Env} {s : State} {m : MethodId} {args : Array Value} {below : List Frame} {meth : Method} {c : Code} (C0 : Cx Lx g p s m args meth c cX5_leastFar 5 (some .int) RX5) {r : Int32} {ν : Mem}  (n : Nat) : ∀ (a1 : Nat) (ha1 : Id2 a1) (x2 : Int32) (x3 : Int32) (x4 : Int32) (μ : Mem) (H : Heap) (locs : List Loc) (ls : Array Slot), Px Lx g μ H → va_S (Ax Lx g) s.heap H locs → lv_has ls 5 [(0, .ref (g.2.2.1 + 3)), (1, .ref (g.2.2.1 + a1)), (2, .int x2), (3, .int x3), (4, .int x4)] → X5_leastFar_5  n a1 x2 x3 x4 μ = some (r, ν) → W p l e { frames := 2, cells := 0, slots := 0, locals := 43 } s m args below meth c H locs 0 0 (MQ below (Qx Lx g (some (.int r)) ν) args s 0 0 (Ax Lx g)) (F0 m 5 ls []) := by
  obtain ⟨hx, hb, hr, hml, hown, hts, hlocks, hK⟩ := id C0
  induction n with
  | zero =>
    intro a1 ha1 x2 x3 x4 μ H locs ls hP hS hl h
    have h : (none : Option (Int32 × Mem)) = some (r, ν) := h
    cases h
  | succ n ih =>
    intro a1 ha1 x2 x3 x4 μ H locs ls hP hS hl h
    rw [X5_leastFar_5.eq_2] at h
    refine lv_iload hx hb dX5_leastFar_5 (lv_at hl 4 rfl) ?_
    refine lv_aload_n hx hb dX5_leastFar_7 rfl (lv_at hl 0 rfl) ?_
    refine x_get C0 hP inu5 (k := 3) cx_3 (by decide) rfl 4 (by decide) q1_41 rfl (v := .int (μ 3 4)) rfl dX5_leastFar_8 ?_
    refine lv_icmp_ge (tgt := 53) hx hb dX5_leastFar_11 (by decide) (fun c1 => ?_) (fun c1 => ?_)
    · rw [if_pos c1] at h
      refine lv_iload_n hx hb dX5_leastFar_53 rfl (lv_at hl 3 rfl) ?_
      obtain ⟨rfl, rfl⟩ := some2 h
      exact x_iret C0 hP hS dX5_leastFar_54
    · rw [if_neg c1] at h
      refine lv_aload_n hx hb dX5_leastFar_14 rfl (lv_at hl 0 rfl) ?_
      refine lv_iload hx hb dX5_leastFar_15 (lv_at hl 4 rfl) ?_
      refine lv_iload_n hx hb dX5_leastFar_17 rfl (lv_at hl 2 rfl) ?_
      obtain ⟨r2, μ2, h1, h⟩ := ob2_some h
      refine x_callV C0 (rest := []) (q := (RX5, TX5, 5)) (c_X5_isOpen l g x4 x2 μ h1) q3_11 q3_8 q3_9 q3_10 q1_3 hd_X5_isOpen ⟨rfl, rfl⟩ ⟨Nat.le_of_ble_eq_true rfl, Nat.le_of_ble_eq_true rfl⟩ cx_3 (by decide) rfl hP hS hl.1 rfl rfl (Nat.le_of_ble_eq_true rfl) dX5_leastFar_18 (fun H locs hP hS => ?_)
      refine W.eq (g2 := F0 m 21 ls [.int r2]) rfl ?_
      refine lv_if_eq (tgt := 47) hx hb dX5_leastFar_21 (by decide) (fun c3 => ?_) (fun c3 => ?_)
      · rw [if_pos c3] at h
        exact w_X5_leastFar_47 C0 (X5_leastFar_5  n) ih a1 ha1 x2 x3 x4 μ2 _ _ _ hP hS (lv_sub hl [0, 1, 2, 3, 4] rfl) h
      · rw [if_neg c3] at h
        refine lv_iload_n hx hb dX5_leastFar_24 rfl (lv_at hl 3 rfl) ?_
        refine lv_if_lt (tgt := 44) hx hb dX5_leastFar_25 (by decide) (fun c4 => ?_) (fun c4 => ?_)
        · rw [if_pos c4] at h
          exact w_X5_leastFar_44 C0 (X5_leastFar_5  n) ih a1 ha1 x2 x4 μ2 _ _ _ hP hS (lv_sub hl [0, 1, 2, 4] rfl) h
        · rw [if_neg c4] at h
          refine lv_aload_n hx hb dX5_leastFar_28 rfl (lv_at hl 0 rfl) ?_
          refine lv_iload hx hb dX5_leastFar_29 (lv_at hl 4 rfl) ?_
          refine lv_aload_n hx hb dX5_leastFar_31 rfl (lv_at hl 1 rfl) ?_
          obtain ⟨r5, μ5, h1, h⟩ := ob2_some h
          refine x_callV C0 (rest := []) (q := (RX5, TX5, 5)) (c_X5_farFrom l g x4 a1 ha1 μ2 h1) q3_19 q3_16 q3_17 q3_18 q1_3 hd_X5_farFrom ⟨rfl, rfl⟩ ⟨Nat.le_of_ble_eq_true rfl, Nat.le_of_ble_eq_true rfl⟩ cx_3 (by decide) rfl hP hS hl.1 rfl rfl (Nat.le_of_ble_eq_true rfl) dX5_leastFar_32 (fun H locs hP hS => ?_)
          refine W.eq (g2 := F0 m 35 ls [.int r5]) rfl ?_
          refine lv_aload_n hx hb dX5_leastFar_35 rfl (lv_at hl 0 rfl) ?_
          refine lv_iload_n hx hb dX5_leastFar_36 rfl (lv_at hl 3 rfl) ?_
          refine lv_aload_n hx hb dX5_leastFar_37 rfl (lv_at hl 1 rfl) ?_
          obtain ⟨r6, μ6, h1, h⟩ := ob2_some h
          refine x_callV C0 (rest := [.int r5]) (q := (RX5, TX5, 5)) (c_X5_farFrom l g x3 a1 ha1 μ5 h1) q3_19 q3_16 q3_17 q3_18 q1_3 hd_X5_farFrom ⟨rfl, rfl⟩ ⟨Nat.le_of_ble_eq_true rfl, Nat.le_of_ble_eq_true rfl⟩ cx_3 (by decide) rfl hP hS hl.1 rfl rfl (Nat.le_of_ble_eq_true rfl) dX5_leastFar_38 (fun H locs hP hS => ?_)
          refine W.eq (g2 := F0 m 41 ls [.int r6, .int r5]) rfl ?_
          refine lv_icmp_ge (tgt := 47) hx hb dX5_leastFar_41 (by decide) (fun c7 => ?_) (fun c7 => ?_)
          · rw [if_pos c7] at h
            exact w_X5_leastFar_47 C0 (X5_leastFar_5  n) ih a1 ha1 x2 x3 x4 μ6 _ _ _ hP hS (lv_sub hl [0, 1, 2, 3, 4] rfl) h
          · rw [if_neg c7] at h
            exact w_X5_leastFar_44 C0 (X5_leastFar_5  n) ih a1 ha1 x2 x4 μ6 _ _ _ hP hS (lv_sub hl [0, 1, 2, 4] rfl) h
def X5_leastFar (a1 : Nat) (x2 : Int32) (μ : Mem) : Option (Int32 × Mem) :=
  X5_leastFar_5 FU a1 x2 (-1 : Int32) (0 : Int32) μ
set_option maxRecDepth 100000 in
set_option maxHeartbeats 4000000 in
theorem c_X5_leastFar (l : Launch) (g : Gx) (a1 : Nat) (hi1 : Id2 a1) (x2 : Int32) (μ : Mem) {r : Int32} {ν : Mem} (h : X5_leastFar a1 x2 μ = some (r, ν)) : Ct Lx g l yX5_leastFar cX5_leastFar 5 (some .int) { frames := 2, cells := 0, slots := 0, locals := 43 } [.ref (g.2.2.1 + 3), .ref (g.2.2.1 + a1), .int x2] μ (some (.int r)) ν := by
  refine x_met (lv := [(0, .ref (g.2.2.1 + 3)), (1, .ref (g.2.2.1 + a1)), (2, .int x2)]) rfl (Nat.le_of_ble_eq_true rfl) rfl ?_
  intro p e s m below meth c C0 hP ls hl
  generalize ([.ref (g.2.2.1 + 3), .ref (g.2.2.1 + a1), .int x2] : List Value).toArray = args at C0 ⊢
  have C0 : Cx Lx g p s m args meth c cX5_leastFar 5 (some .int) RX5 := C0
  have hS : va_S (Ax Lx g) s.heap s.heap [] := va_S.rf
  obtain ⟨hx, hb, hr, hml, hown, hts, hlocks, hK⟩ := id C0
  unfold X5_leastFar at h
  skip
  refine lv_iconst (v := (-1 : Int32)) hx hb dX5_leastFar_0 rfl ?_
  refine lv_istore_n (lv' := [(3, .int (-1 : Int32)), (0, .ref (g.2.2.1 + 3)), (1, .ref (g.2.2.1 + a1)), (2, .int x2)]) hx hb dX5_leastFar_1 rfl hl (by decide) rfl (fun ls hl => ?_)
  refine lv_iconst (v := (0 : Int32)) hx hb dX5_leastFar_2 rfl ?_
  refine lv_istore (lv' := [(4, .int (0 : Int32)), (3, .int (-1 : Int32)), (0, .ref (g.2.2.1 + 3)), (1, .ref (g.2.2.1 + a1)), (2, .int x2)]) hx hb dX5_leastFar_3 hl (by decide) rfl (fun ls hl => ?_)
  exact w_X5_leastFar_5 C0  FU a1 hi1 x2 (-1 : Int32) (0 : Int32) μ _ _ _ hP hS (lv_sub hl [2, 3, 4, 1, 0] rfl) h
def X5_openWithin_45 (K6 : Nat → Int32 → Int32 → Int32 → Int32 → Mem → Option (Int32 × Mem)) (a1 : Nat) (x2 : Int32) (x3 : Int32) (x4 : Int32) (x5 : Int32) (μ : Mem) : Option (Int32 × Mem) :=
  K6 a1 x2 x3 x4 (x5 + (1 : Int32)) μ
set_option maxRecDepth 100000 in
set_option maxHeartbeats 4000000 in
theorem w_X5_openWithin_45 {g : Gx} {p : Program} {l : Launch} {e : Env} {s : State} {m : MethodId} {args : Array Value} {below : List Frame} {meth : Method} {c : Code} (C0 : Cx Lx g p s m args meth c cX5_openWithin 6 (some .int) RX5) {r : Int32} {ν : Mem} (K6 : Nat → Int32 → Int32 → Int32 → Int32 → Mem → Option (Int32 × Mem)) (hK6 : ∀ (a1 : Nat) (ha1 : Id2 a1) (x2 : Int32) (x3 : Int32) (x4 : Int32) (x5 : Int32) (μ : Mem) (H : Heap) (locs : List Loc) (ls : Array Slot), Px Lx g μ H → va_S (Ax Lx g) s.heap H locs → lv_has ls 6 [(0, .ref (g.2.2.1 + 3)), (1, .ref (g.2.2.1 + a1)), (2, .int x2), (3, .int x3), (4, .int x4), (5, .int x5)] → K6 a1 x2 x3 x4 x5 μ = some (r, ν) → W p l e { frames := 2, cells := 0, slots := 0, locals := 43 } s m args below meth c H locs 0 0 (MQ below (Qx Lx g (some (.int r)) ν) args s 0 0 (Ax Lx g)) (F0 m 6 ls [])) (a1 : Nat) (ha1 : Id2 a1) (x2 : Int32) (x3 : Int32) (x4 : Int32) (x5 : Int32) (μ : Mem) (H : Heap) (locs : List Loc) (ls : Array Slot) (hP : Px Lx g μ H) (hS : va_S (Ax Lx g) s.heap H locs) (hl : lv_has ls 6 [(0, .ref (g.2.2.1 + 3)), (1, .ref (g.2.2.1 + a1)), (2, .int x2), (3, .int x3), (4, .int x4), (5, .int x5)]) (h : X5_openWithin_45 K6 a1 x2 x3 x4 x5 μ = some (r, ν)) : W p l e { frames := 2, cells := 0, slots := 0, locals := 43 } s m args below meth c H locs 0 0 (MQ below (Qx Lx g (some (.int r)) ν) args s 0 0 (Ax Lx g)) (F0 m 45 ls []) := by
  obtain ⟨hx, hb, hr, hml, hown, hts, hlocks, hK⟩ := id C0
  unfold X5_openWithin_45 at h
  refine lv_iinc (v := (x5 + (1 : Int32))) (lv' := [(5, .int (x5 + (1 : Int32))), (0, .ref (g.2.2.1 + 3)), (1, .ref (g.2.2.1 + a1)), (2, .int x2), (3, .int x3), (4, .int x4)]) hx hb dX5_openWithin_45 hl (k := 5) rfl rfl (by decide) rfl (fun ls hl => ?_)
  refine lv_goto (tgt := 6) hx hb dX5_openWithin_48 (by decide) ?_
  exact hK6 a1 ha1 x2 x3 x4 (x5 + (1 : Int32)) μ _ _ _ hP hS (lv_sub hl [1, 2, 3, 4, 5, 0] rfl) h
def X5_openWithin_6  : Nat → Nat → Int32 → Int32 → Int32 → Int32 → Mem → Option (Int32 × Mem)
  | 0, _, _, _, _, _, _ => none
  | n + 1, a1, x2, x3, x4, x5, μ => (if (μ 3 4) ≤ x5 then some (x4, μ) else ob2 (X5_isOpen x5 x3 μ) fun r2 μ2 => (if r2 = (0 : Int32) then X5_openWithin_45 (X5_openWithin_6 n) a1 x2 x3 x4 x5 μ2 else ob2 (X5_farFrom x5 a1 μ2) fun r4 μ4 => (if x2 < r4 then X5_openWithin_45 (X5_openWithin_6 n) a1 x2 x3 x4 x5 μ4 else X5_openWithin_45 (X5_openWithin_6 n) a1 x2 x3 (x4 ||| ((1 : Int32) <<< (x5 &&& 31))) x5 μ4)))
set_option maxRecDepth 100000 in
set_option maxHeartbeats 4000000 in
theorem w_X5_openWithin_6 {g : Gx} {p : Program} {l : Launch} {e : Env} {s : State} {m : MethodId} {args : Array Value} {below : List Frame} {meth : Method} {c : Code} (C0 : Cx Lx g p s m args meth c cX5_openWithin 6 (some .int) RX5) {r : Int32} {ν : Mem}  (n : Nat) : ∀ (a1 : Nat) (ha1 : Id2 a1) (x2 : Int32) (x3 : Int32) (x4 : Int32) (x5 : Int32) (μ : Mem) (H : Heap) (locs : List Loc) (ls : Array Slot), Px Lx g μ H → va_S (Ax Lx g) s.heap H locs → lv_has ls 6 [(0, .ref (g.2.2.1 + 3)), (1, .ref (g.2.2.1 + a1)), (2, .int x2), (3, .int x3), (4, .int x4), (5, .int x5)] → X5_openWithin_6  n a1 x2 x3 x4 x5 μ = some (r, ν) → W p l e { frames := 2, cells := 0, slots := 0, locals := 43 } s m args below meth c H locs 0 0 (MQ below (Qx Lx g (some (.int r)) ν) args s 0 0 (Ax Lx g)) (F0 m 6 ls []) := by
  obtain ⟨hx, hb, hr, hml, hown, hts, hlocks, hK⟩ := id C0
  induction n with
  | zero =>
    intro a1 ha1 x2 x3 x4 x5 μ H locs ls hP hS hl h
    have h : (none : Option (Int32 × Mem)) = some (r, ν) := h
    cases h
  | succ n ih =>
    intro a1 ha1 x2 x3 x4 x5 μ H locs ls hP hS hl h
    rw [X5_openWithin_6.eq_2] at h
    refine lv_iload hx hb dX5_openWithin_6 (lv_at hl 5 rfl) ?_
    refine lv_aload_n hx hb dX5_openWithin_8 rfl (lv_at hl 0 rfl) ?_
    refine x_get C0 hP inu5 (k := 3) cx_3 (by decide) rfl 4 (by decide) q1_41 rfl (v := .int (μ 3 4)) rfl dX5_openWithin_9 ?_
    refine lv_icmp_ge (tgt := 51) hx hb dX5_openWithin_12 (by decide) (fun c1 => ?_) (fun c1 => ?_)
    · rw [if_pos c1] at h
      refine lv_iload hx hb dX5_openWithin_51 (lv_at hl 4 rfl) ?_
      obtain ⟨rfl, rfl⟩ := some2 h
      exact x_iret C0 hP hS dX5_openWithin_53
    · rw [if_neg c1] at h
      refine lv_aload_n hx hb dX5_openWithin_15 rfl (lv_at hl 0 rfl) ?_
      refine lv_iload hx hb dX5_openWithin_16 (lv_at hl 5 rfl) ?_
      refine lv_iload_n hx hb dX5_openWithin_18 rfl (lv_at hl 3 rfl) ?_
      obtain ⟨r2, μ2, h1, h⟩ := ob2_some h
      refine x_callV C0 (rest := []) (q := (RX5, TX5, 5)) (c_X5_isOpen l g x5 x3 μ h1) q3_11 q3_8 q3_9 q3_10 q1_3 hd_X5_isOpen ⟨rfl, rfl⟩ ⟨Nat.le_of_ble_eq_true rfl, Nat.le_of_ble_eq_true rfl⟩ cx_3 (by decide) rfl hP hS hl.1 rfl rfl (Nat.le_of_ble_eq_true rfl) dX5_openWithin_19 (fun H locs hP hS => ?_)
      refine W.eq (g2 := F0 m 22 ls [.int r2]) rfl ?_
      refine lv_if_eq (tgt := 45) hx hb dX5_openWithin_22 (by decide) (fun c3 => ?_) (fun c3 => ?_)
      · rw [if_pos c3] at h
        exact w_X5_openWithin_45 C0 (X5_openWithin_6  n) ih a1 ha1 x2 x3 x4 x5 μ2 _ _ _ hP hS (lv_sub hl [0, 1, 2, 3, 4, 5] rfl) h
      · rw [if_neg c3] at h
        refine lv_aload_n hx hb dX5_openWithin_25 rfl (lv_at hl 0 rfl) ?_
        refine lv_iload hx hb dX5_openWithin_26 (lv_at hl 5 rfl) ?_
        refine lv_aload_n hx hb dX5_openWithin_28 rfl (lv_at hl 1 rfl) ?_
        obtain ⟨r4, μ4, h1, h⟩ := ob2_some h
        refine x_callV C0 (rest := []) (q := (RX5, TX5, 5)) (c_X5_farFrom l g x5 a1 ha1 μ2 h1) q3_19 q3_16 q3_17 q3_18 q1_3 hd_X5_farFrom ⟨rfl, rfl⟩ ⟨Nat.le_of_ble_eq_true rfl, Nat.le_of_ble_eq_true rfl⟩ cx_3 (by decide) rfl hP hS hl.1 rfl rfl (Nat.le_of_ble_eq_true rfl) dX5_openWithin_29 (fun H locs hP hS => ?_)
        refine W.eq (g2 := F0 m 32 ls [.int r4]) rfl ?_
        refine lv_iload_n hx hb dX5_openWithin_32 rfl (lv_at hl 2 rfl) ?_
        refine lv_icmp_gt (tgt := 45) hx hb dX5_openWithin_33 (by decide) (fun c5 => ?_) (fun c5 => ?_)
        · rw [if_pos c5] at h
          exact w_X5_openWithin_45 C0 (X5_openWithin_6  n) ih a1 ha1 x2 x3 x4 x5 μ4 _ _ _ hP hS (lv_sub hl [0, 1, 2, 3, 4, 5] rfl) h
        · rw [if_neg c5] at h
          refine lv_iload hx hb dX5_openWithin_36 (lv_at hl 4 rfl) ?_
          refine lv_iconst (v := (1 : Int32)) hx hb dX5_openWithin_38 rfl ?_
          refine lv_iload hx hb dX5_openWithin_39 (lv_at hl 5 rfl) ?_
          refine lv_ishl hx hb dX5_openWithin_41 ?_
          refine lv_ior hx hb dX5_openWithin_42 ?_
          refine lv_istore (lv' := [(4, .int (x4 ||| ((1 : Int32) <<< (x5 &&& 31)))), (0, .ref (g.2.2.1 + 3)), (1, .ref (g.2.2.1 + a1)), (2, .int x2), (3, .int x3), (5, .int x5)]) hx hb dX5_openWithin_43 hl (by decide) rfl (fun ls hl => ?_)
          exact w_X5_openWithin_45 C0 (X5_openWithin_6  n) ih a1 ha1 x2 x3 (x4 ||| ((1 : Int32) <<< (x5 &&& 31))) x5 μ4 _ _ _ hP hS (lv_sub hl [1, 2, 3, 4, 0, 5] rfl) h
def X5_openWithin (a1 : Nat) (x2 : Int32) (x3 : Int32) (μ : Mem) : Option (Int32 × Mem) :=
  X5_openWithin_6 FU a1 x2 x3 (0 : Int32) (0 : Int32) μ
set_option maxRecDepth 100000 in
set_option maxHeartbeats 4000000 in
theorem c_X5_openWithin (l : Launch) (g : Gx) (a1 : Nat) (hi1 : Id2 a1) (x2 : Int32) (x3 : Int32) (μ : Mem) {r : Int32} {ν : Mem} (h : X5_openWithin a1 x2 x3 μ = some (r, ν)) : Ct Lx g l yX5_openWithin cX5_openWithin 6 (some .int) { frames := 2, cells := 0, slots := 0, locals := 43 } [.ref (g.2.2.1 + 3), .ref (g.2.2.1 + a1), .int x2, .int x3] μ (some (.int r)) ν := by
  refine x_met (lv := [(0, .ref (g.2.2.1 + 3)), (1, .ref (g.2.2.1 + a1)), (2, .int x2), (3, .int x3)]) rfl (Nat.le_of_ble_eq_true rfl) rfl ?_
  intro p e s m below meth c C0 hP ls hl
  generalize ([.ref (g.2.2.1 + 3), .ref (g.2.2.1 + a1), .int x2, .int x3] : List Value).toArray = args at C0 ⊢
  have C0 : Cx Lx g p s m args meth c cX5_openWithin 6 (some .int) RX5 := C0
  have hS : va_S (Ax Lx g) s.heap s.heap [] := va_S.rf
  obtain ⟨hx, hb, hr, hml, hown, hts, hlocks, hK⟩ := id C0
  unfold X5_openWithin at h
  skip
  refine lv_iconst (v := (0 : Int32)) hx hb dX5_openWithin_0 rfl ?_
  refine lv_istore (lv' := [(4, .int (0 : Int32)), (0, .ref (g.2.2.1 + 3)), (1, .ref (g.2.2.1 + a1)), (2, .int x2), (3, .int x3)]) hx hb dX5_openWithin_1 hl (by decide) rfl (fun ls hl => ?_)
  refine lv_iconst (v := (0 : Int32)) hx hb dX5_openWithin_3 rfl ?_
  refine lv_istore (lv' := [(5, .int (0 : Int32)), (4, .int (0 : Int32)), (0, .ref (g.2.2.1 + 3)), (1, .ref (g.2.2.1 + a1)), (2, .int x2), (3, .int x3)]) hx hb dX5_openWithin_4 hl (by decide) rfl (fun ls hl => ?_)
  exact w_X5_openWithin_6 C0  FU a1 hi1 x2 x3 (0 : Int32) (0 : Int32) μ _ _ _ hP hS (lv_sub hl [2, 3, 4, 5, 1, 0] rfl) h
def X5_copyFrom (a0 : Nat) (a1 : Nat) (μ : Mem) : Option Mem :=
  lt (st μ a0 4 (μ a1 4)) fun μ1 => lt (str μ1 (a0 + 1) (va_cpy (μ1 (a1 + 1)) (μ1 (a0 + 1)) 0 0 8)) fun μ2 => lt (str μ2 (a0 + 2) (va_cpy (μ2 (a1 + 2)) (μ2 (a0 + 2)) 0 0 8)) fun μ3 => lt (str μ3 (a0 + 3) (va_cpy (μ3 (a1 + 3)) (μ3 (a0 + 3)) 0 0 8)) fun μ4 => lt (str μ4 (a0 + 4) (va_cpy (μ4 (a1 + 4)) (μ4 (a0 + 4)) 0 0 8)) fun μ5 => some μ5
set_option maxRecDepth 100000 in
set_option maxHeartbeats 4000000 in
theorem c_X5_copyFrom (l : Launch) (g : Gx) (a0 : Nat) (hi0 : Id5 a0) (a1 : Nat) (hi1 : Id5 a1) (μ : Mem) {ν : Mem} (h : X5_copyFrom a0 a1 μ = some ν) : Ct Lx g l yX5_copyFrom cX5_copyFrom 2 none { frames := 1, cells := 0, slots := 0, locals := 18 } [.ref (g.2.2.1 + a0), .ref (g.2.2.1 + a1)] μ none ν := by
  refine x_met (lv := [(0, .ref (g.2.2.1 + a0)), (1, .ref (g.2.2.1 + a1))]) rfl (Nat.le_of_ble_eq_true rfl) rfl ?_
  intro p e s m below meth c C0 hP ls hl
  generalize ([.ref (g.2.2.1 + a0), .ref (g.2.2.1 + a1)] : List Value).toArray = args at C0 ⊢
  have C0 : Cx Lx g p s m args meth c cX5_copyFrom 2 none RX5 := C0
  have hS : va_S (Ax Lx g) s.heap s.heap [] := va_S.rf
  obtain ⟨hx, hb, hr, hml, hown, hts, hlocks, hK⟩ := id C0
  unfold X5_copyFrom at h
  skip
  refine lv_aload_n hx hb dX5_copyFrom_0 rfl (lv_at hl 0 rfl) ?_
  refine lv_aload_n hx hb dX5_copyFrom_1 rfl (lv_at hl 1 rfl) ?_
  refine x_get C0 hP inu5 (k := a1) (id5_0 hi1) (by decide) rfl 4 (by decide) q1_41 rfl (v := .int (μ a1 4)) rfl dX5_copyFrom_2 ?_
  obtain ⟨μ1, e1, h⟩ := lt_some h
  refine x_put C0 hP hS inu5 tyX5 tyX5_ok nmX5 (k := a0) (id5_0 hi0) (by decide) rfl 4 (by decide) q1_41 rfl rfl (v := .int (μ a1 4)) (x := (μ a1 4)) rfl rfl (Nat.le_of_ble_eq_true rfl) (os_5_4 _ _ _ _) dX5_copyFrom_5 (fun H locs hP hS => ?_)
  rw [← e1] at hP
  refine lv_aload_n hx hb dX5_copyFrom_8 rfl (lv_at hl 1 rfl) ?_
  refine x_get C0 hP inu5 (k := a1) (id5_0 hi1) (by decide) rfl 0 (by decide) q1_37 rfl (v := .ref (g.2.2.1 + (a1 + 1))) rfl dX5_copyFrom_9 ?_
  refine lv_iconst (v := (0 : Int32)) hx hb dX5_copyFrom_12 rfl ?_
  refine lv_aload_n hx hb dX5_copyFrom_13 rfl (lv_at hl 0 rfl) ?_
  refine x_get C0 hP inu5 (k := a0) (id5_0 hi0) (by decide) rfl 0 (by decide) q1_37 rfl (v := .ref (g.2.2.1 + (a0 + 1))) rfl dX5_copyFrom_14 ?_
  refine lv_iconst (v := (0 : Int32)) hx hb dX5_copyFrom_17 rfl ?_
  refine lv_bipush (v := (8 : Int32)) hx hb dX5_copyFrom_18 (by decide +kernel) ?_
  obtain ⟨μ2, e2, h⟩ := lt_some h
  refine x_copyi C0 hP hS hl.1 (k0 := (a1 + 1)) (k1 := (a0 + 1)) (id5_1 hi1) (id5_1 hi0) q4_92 q3_124 q3_123 q1_13 (by decide) (sp2 := 0) (dp2 := 0) (n2 := 8) rfl rfl rfl (Nat.le_of_ble_eq_true rfl) (Nat.le_of_ble_eq_true rfl) dX5_copyFrom_20 (fun H locs hP hS => ?_)
  rw [← e2] at hP
  refine lv_aload_n hx hb dX5_copyFrom_23 rfl (lv_at hl 1 rfl) ?_
  refine x_get C0 hP inu5 (k := a1) (id5_0 hi1) (by decide) rfl 1 (by decide) q1_38 rfl (v := .ref (g.2.2.1 + (a1 + 2))) rfl dX5_copyFrom_24 ?_
  refine lv_iconst (v := (0 : Int32)) hx hb dX5_copyFrom_27 rfl ?_
  refine lv_aload_n hx hb dX5_copyFrom_28 rfl (lv_at hl 0 rfl) ?_
  refine x_get C0 hP inu5 (k := a0) (id5_0 hi0) (by decide) rfl 1 (by decide) q1_38 rfl (v := .ref (g.2.2.1 + (a0 + 2))) rfl dX5_copyFrom_29 ?_
  refine lv_iconst (v := (0 : Int32)) hx hb dX5_copyFrom_32 rfl ?_
  refine lv_bipush (v := (8 : Int32)) hx hb dX5_copyFrom_33 (by decide +kernel) ?_
  obtain ⟨μ3, e3, h⟩ := lt_some h
  refine x_copyi C0 hP hS hl.1 (k0 := (a1 + 2)) (k1 := (a0 + 2)) (id5_2 hi1) (id5_2 hi0) q4_92 q3_124 q3_123 q1_13 (by decide) (sp2 := 0) (dp2 := 0) (n2 := 8) rfl rfl rfl (Nat.le_of_ble_eq_true rfl) (Nat.le_of_ble_eq_true rfl) dX5_copyFrom_35 (fun H locs hP hS => ?_)
  rw [← e3] at hP
  refine lv_aload_n hx hb dX5_copyFrom_38 rfl (lv_at hl 1 rfl) ?_
  refine x_get C0 hP inu5 (k := a1) (id5_0 hi1) (by decide) rfl 2 (by decide) q1_39 rfl (v := .ref (g.2.2.1 + (a1 + 3))) rfl dX5_copyFrom_39 ?_
  refine lv_iconst (v := (0 : Int32)) hx hb dX5_copyFrom_42 rfl ?_
  refine lv_aload_n hx hb dX5_copyFrom_43 rfl (lv_at hl 0 rfl) ?_
  refine x_get C0 hP inu5 (k := a0) (id5_0 hi0) (by decide) rfl 2 (by decide) q1_39 rfl (v := .ref (g.2.2.1 + (a0 + 3))) rfl dX5_copyFrom_44 ?_
  refine lv_iconst (v := (0 : Int32)) hx hb dX5_copyFrom_47 rfl ?_
  refine lv_bipush (v := (8 : Int32)) hx hb dX5_copyFrom_48 (by decide +kernel) ?_
  obtain ⟨μ4, e4, h⟩ := lt_some h
  refine x_copyi C0 hP hS hl.1 (k0 := (a1 + 3)) (k1 := (a0 + 3)) (id5_3 hi1) (id5_3 hi0) q4_92 q3_124 q3_123 q1_13 (by decide) (sp2 := 0) (dp2 := 0) (n2 := 8) rfl rfl rfl (Nat.le_of_ble_eq_true rfl) (Nat.le_of_ble_eq_true rfl) dX5_copyFrom_50 (fun H locs hP hS => ?_)
  rw [← e4] at hP
  refine lv_aload_n hx hb dX5_copyFrom_53 rfl (lv_at hl 1 rfl) ?_
  refine x_get C0 hP inu5 (k := a1) (id5_0 hi1) (by decide) rfl 3 (by decide) q1_40 rfl (v := .ref (g.2.2.1 + (a1 + 4))) rfl dX5_copyFrom_54 ?_
  refine lv_iconst (v := (0 : Int32)) hx hb dX5_copyFrom_57 rfl ?_
  refine lv_aload_n hx hb dX5_copyFrom_58 rfl (lv_at hl 0 rfl) ?_
  refine x_get C0 hP inu5 (k := a0) (id5_0 hi0) (by decide) rfl 3 (by decide) q1_40 rfl (v := .ref (g.2.2.1 + (a0 + 4))) rfl dX5_copyFrom_59 ?_
  refine lv_iconst (v := (0 : Int32)) hx hb dX5_copyFrom_62 rfl ?_
  refine lv_bipush (v := (8 : Int32)) hx hb dX5_copyFrom_63 (by decide +kernel) ?_
  obtain ⟨μ5, e5, h⟩ := lt_some h
  refine x_copyi C0 hP hS hl.1 (k0 := (a1 + 4)) (k1 := (a0 + 4)) (id5_4 hi1) (id5_4 hi0) q4_92 q3_124 q3_123 q1_13 (by decide) (sp2 := 0) (dp2 := 0) (n2 := 8) rfl rfl rfl (Nat.le_of_ble_eq_true rfl) (Nat.le_of_ble_eq_true rfl) dX5_copyFrom_65 (fun H locs hP hS => ?_)
  rw [← e5] at hP
  obtain rfl := some1 h
  exact x_vret C0 hP hS dX5_copyFrom_68
def X6_add (x1 : Int32) (x2 : Int32) (x3 : Int32) (x4 : Int32) (μ : Mem) : Option Mem :=
  lt (st μ 19 4 ((μ 19 4) + x3)) fun μ1 => lt (st μ1 19 5 ((μ1 19 5) + x4)) fun μ2 => (if (200 : Int32) ≤ (μ2 19 3) then some μ2 else gd (inB (μ2 19 3) 200) (lt (st μ2 20 (μ2 19 3).toNatClampNeg x1) fun μ5 => gd (inB (μ5 19 3) 200) (lt (st μ5 21 (μ5 19 3).toNatClampNeg x2) fun μ7 => gd (inB (μ7 19 3) 200) (lt (st μ7 22 (μ7 19 3).toNatClampNeg (x3 - x4)) fun μ9 => lt (st μ9 19 3 ((μ9 19 3) + (1 : Int32))) fun μ10 => some μ10))))
set_option maxRecDepth 100000 in
set_option maxHeartbeats 4000000 in
theorem c_X6_add (l : Launch) (g : Gx) (x1 : Int32) (x2 : Int32) (x3 : Int32) (x4 : Int32) (μ : Mem) {ν : Mem} (h : X6_add x1 x2 x3 x4 μ = some ν) : Ct Lx g l yX6_add cX6_add 5 none { frames := 0, cells := 0, slots := 0, locals := 0 } [.ref (g.2.2.1 + 19), .int x1, .int x2, .int x3, .int x4] μ none ν := by
  refine x_met (lv := [(0, .ref (g.2.2.1 + 19)), (1, .int x1), (2, .int x2), (3, .int x3), (4, .int x4)]) rfl (Nat.le_of_ble_eq_true rfl) rfl ?_
  intro p e s m below meth c C0 hP ls hl
  generalize ([.ref (g.2.2.1 + 19), .int x1, .int x2, .int x3, .int x4] : List Value).toArray = args at C0 ⊢
  have C0 : Cx Lx g p s m args meth c cX6_add 5 none RX6 := C0
  have hS : va_S (Ax Lx g) s.heap s.heap [] := va_S.rf
  obtain ⟨hx, hb, hr, hml, hown, hts, hlocks, hK⟩ := id C0
  unfold X6_add at h
  skip
  refine lv_aload_n hx hb dX6_add_0 rfl (lv_at hl 0 rfl) ?_
  refine lv_dup hx hb dX6_add_1 rfl ?_
  refine x_get C0 hP inu6 (k := 19) cx_19 (by decide) rfl 4 (by decide) q1_117 rfl (v := .int (μ 19 4)) rfl dX6_add_2 ?_
  refine lv_iload_n hx hb dX6_add_5 rfl (lv_at hl 3 rfl) ?_
  refine lv_iadd hx hb dX6_add_6 ?_
  obtain ⟨μ1, e1, h⟩ := lt_some h
  refine x_put C0 hP hS inu6 tyX6 tyX6_ok nmX6 (k := 19) cx_19 (by decide) rfl 4 (by decide) q1_117 rfl rfl (v := .int ((μ 19 4) + x3)) (x := ((μ 19 4) + x3)) rfl rfl (Nat.le_of_ble_eq_true rfl) (os_6_4 _ _ _ _) dX6_add_7 (fun H locs hP hS => ?_)
  rw [← e1] at hP
  refine lv_aload_n hx hb dX6_add_10 rfl (lv_at hl 0 rfl) ?_
  refine lv_dup hx hb dX6_add_11 rfl ?_
  refine x_get C0 hP inu6 (k := 19) cx_19 (by decide) rfl 5 (by decide) q1_119 rfl (v := .int (μ1 19 5)) rfl dX6_add_12 ?_
  refine lv_iload hx hb dX6_add_15 (lv_at hl 4 rfl) ?_
  refine lv_iadd hx hb dX6_add_17 ?_
  obtain ⟨μ2, e2, h⟩ := lt_some h
  refine x_put C0 hP hS inu6 tyX6 tyX6_ok nmX6 (k := 19) cx_19 (by decide) rfl 5 (by decide) q1_119 rfl rfl (v := .int ((μ1 19 5) + x4)) (x := ((μ1 19 5) + x4)) rfl rfl (Nat.le_of_ble_eq_true rfl) (os_6_5 _ _ _ _) dX6_add_18 (fun H locs hP hS => ?_)
  rw [← e2] at hP
  refine lv_aload_n hx hb dX6_add_21 rfl (lv_at hl 0 rfl) ?_
  refine x_get C0 hP inu6 (k := 19) cx_19 (by decide) rfl 3 (by decide) q1_115 rfl (v := .int (μ2 19 3)) rfl dX6_add_22 ?_
  refine lv_sipush (v := (200 : Int32)) hx hb dX6_add_25 (by decide +kernel) ?_
  refine lv_icmp_ge (tgt := 74) hx hb dX6_add_28 (by decide) (fun c3 => ?_) (fun c3 => ?_)
  · rw [if_pos c3] at h
    obtain rfl := some1 h
    exact x_vret C0 hP hS dX6_add_74
  · rw [if_neg c3] at h
    refine lv_aload_n hx hb dX6_add_31 rfl (lv_at hl 0 rfl) ?_
    refine x_get C0 hP inu6 (k := 19) cx_19 (by decide) rfl 0 (by decide) q1_112 rfl (v := .ref (g.2.2.1 + 20)) rfl dX6_add_32 ?_
    refine lv_aload_n hx hb dX6_add_35 rfl (lv_at hl 0 rfl) ?_
    refine x_get C0 hP inu6 (k := 19) cx_19 (by decide) rfl 3 (by decide) q1_115 rfl (v := .int (μ2 19 3)) rfl dX6_add_36 ?_
    refine lv_iload_n hx hb dX6_add_39 rfl (lv_at hl 1 rfl) ?_
    obtain ⟨z4, h⟩ := gd_some h
    obtain ⟨μ5, e5, h⟩ := lt_some h
    refine x_iast C0 hP hS (k := 20) cx_20 (j := (μ2 19 3).toNatClampNeg) z4 rfl dX6_add_40 (fun H locs hP hS => ?_)
    rw [← e5] at hP
    refine lv_aload_n hx hb dX6_add_41 rfl (lv_at hl 0 rfl) ?_
    refine x_get C0 hP inu6 (k := 19) cx_19 (by decide) rfl 1 (by decide) q1_113 rfl (v := .ref (g.2.2.1 + 21)) rfl dX6_add_42 ?_
    refine lv_aload_n hx hb dX6_add_45 rfl (lv_at hl 0 rfl) ?_
    refine x_get C0 hP inu6 (k := 19) cx_19 (by decide) rfl 3 (by decide) q1_115 rfl (v := .int (μ5 19 3)) rfl dX6_add_46 ?_
    refine lv_iload_n hx hb dX6_add_49 rfl (lv_at hl 2 rfl) ?_
    obtain ⟨z6, h⟩ := gd_some h
    obtain ⟨μ7, e7, h⟩ := lt_some h
    refine x_iast C0 hP hS (k := 21) cx_21 (j := (μ5 19 3).toNatClampNeg) z6 rfl dX6_add_50 (fun H locs hP hS => ?_)
    rw [← e7] at hP
    refine lv_aload_n hx hb dX6_add_51 rfl (lv_at hl 0 rfl) ?_
    refine x_get C0 hP inu6 (k := 19) cx_19 (by decide) rfl 2 (by decide) q1_114 rfl (v := .ref (g.2.2.1 + 22)) rfl dX6_add_52 ?_
    refine lv_aload_n hx hb dX6_add_55 rfl (lv_at hl 0 rfl) ?_
    refine x_get C0 hP inu6 (k := 19) cx_19 (by decide) rfl 3 (by decide) q1_115 rfl (v := .int (μ7 19 3)) rfl dX6_add_56 ?_
    refine lv_iload_n hx hb dX6_add_59 rfl (lv_at hl 3 rfl) ?_
    refine lv_iload hx hb dX6_add_60 (lv_at hl 4 rfl) ?_
    refine lv_isub hx hb dX6_add_62 ?_
    obtain ⟨z8, h⟩ := gd_some h
    obtain ⟨μ9, e9, h⟩ := lt_some h
    refine x_iast C0 hP hS (k := 22) cx_22 (j := (μ7 19 3).toNatClampNeg) z8 rfl dX6_add_63 (fun H locs hP hS => ?_)
    rw [← e9] at hP
    refine lv_aload_n hx hb dX6_add_64 rfl (lv_at hl 0 rfl) ?_
    refine lv_dup hx hb dX6_add_65 rfl ?_
    refine x_get C0 hP inu6 (k := 19) cx_19 (by decide) rfl 3 (by decide) q1_115 rfl (v := .int (μ9 19 3)) rfl dX6_add_66 ?_
    refine lv_iconst (v := (1 : Int32)) hx hb dX6_add_69 rfl ?_
    refine lv_iadd hx hb dX6_add_70 ?_
    obtain ⟨μ10, e10, h⟩ := lt_some h
    refine x_put C0 hP hS inu6 tyX6 tyX6_ok nmX6 (k := 19) cx_19 (by decide) rfl 3 (by decide) q1_115 rfl rfl (v := .int ((μ9 19 3) + (1 : Int32))) (x := ((μ9 19 3) + (1 : Int32))) rfl rfl (Nat.le_of_ble_eq_true rfl) (os_6_3 _ _ _ _) dX6_add_71 (fun H locs hP hS => ?_)
    rw [← e10] at hP
    obtain rfl := some1 h
    exact x_vret C0 hP hS dX6_add_74
def X6_restBetween_60 (K6 : Int32 → Int32 → Int32 → Int32 → Int32 → Mem → Option (Int32 × Mem)) (x1 : Int32) (x2 : Int32) (x3 : Int32) (x4 : Int32) (x5 : Int32) (μ : Mem) : Option (Int32 × Mem) :=
  K6 x1 x2 x3 x4 (x5 + (1 : Int32)) μ
set_option maxRecDepth 100000 in
set_option maxHeartbeats 4000000 in
theorem w_X6_restBetween_60 {g : Gx} {p : Program} {l : Launch} {e : Env} {s : State} {m : MethodId} {args : Array Value} {below : List Frame} {meth : Method} {c : Code} (C0 : Cx Lx g p s m args meth c cX6_restBetween 6 (some .int) RX6) {r : Int32} {ν : Mem} (K6 : Int32 → Int32 → Int32 → Int32 → Int32 → Mem → Option (Int32 × Mem)) (hK6 : ∀ (x1 : Int32) (x2 : Int32) (x3 : Int32) (x4 : Int32) (x5 : Int32) (μ : Mem) (H : Heap) (locs : List Loc) (ls : Array Slot), Px Lx g μ H → va_S (Ax Lx g) s.heap H locs → lv_has ls 6 [(0, .ref (g.2.2.1 + 19)), (1, .int x1), (2, .int x2), (3, .int x3), (4, .int x4), (5, .int x5)] → K6 x1 x2 x3 x4 x5 μ = some (r, ν) → W p l e { frames := 0, cells := 0, slots := 0, locals := 0 } s m args below meth c H locs 0 0 (MQ below (Qx Lx g (some (.int r)) ν) args s 0 0 (Ax Lx g)) (F0 m 6 ls [])) (x1 : Int32) (x2 : Int32) (x3 : Int32) (x4 : Int32) (x5 : Int32) (μ : Mem) (H : Heap) (locs : List Loc) (ls : Array Slot) (hP : Px Lx g μ H) (hS : va_S (Ax Lx g) s.heap H locs) (hl : lv_has ls 6 [(0, .ref (g.2.2.1 + 19)), (1, .int x1), (2, .int x2), (3, .int x3), (4, .int x4), (5, .int x5)]) (h : X6_restBetween_60 K6 x1 x2 x3 x4 x5 μ = some (r, ν)) : W p l e { frames := 0, cells := 0, slots := 0, locals := 0 } s m args below meth c H locs 0 0 (MQ below (Qx Lx g (some (.int r)) ν) args s 0 0 (Ax Lx g)) (F0 m 60 ls []) := by
  obtain ⟨hx, hb, hr, hml, hown, hts, hlocks, hK⟩ := id C0
  unfold X6_restBetween_60 at h
  refine lv_iinc (v := (x5 + (1 : Int32))) (lv' := [(5, .int (x5 + (1 : Int32))), (0, .ref (g.2.2.1 + 19)), (1, .int x1), (2, .int x2), (3, .int x3), (4, .int x4)]) hx hb dX6_restBetween_60 hl (k := 5) rfl rfl (by decide) rfl (fun ls hl => ?_)
  refine lv_goto (tgt := 6) hx hb dX6_restBetween_63 (by decide) ?_
  exact hK6 x1 x2 x3 x4 (x5 + (1 : Int32)) μ _ _ _ hP hS (lv_sub hl [1, 2, 3, 4, 5, 0] rfl) h
def X6_restBetween_6  : Nat → Int32 → Int32 → Int32 → Int32 → Int32 → Mem → Option (Int32 × Mem)
  | 0, _, _, _, _, _, _ => none
  | n + 1, x1, x2, x3, x4, x5, μ => (if (μ 19 3) ≤ x5 then some (x4, μ) else gd (inB x5 200) ((if (μ 20 x5.toNatClampNeg) = x1 then gd (inB x5 200) ((if (μ 21 x5.toNatClampNeg) < x2 then X6_restBetween_60 (X6_restBetween_6 n) x1 x2 x3 x4 x5 μ else gd (inB x5 200) ((if x3 ≤ (μ 21 x5.toNatClampNeg) then X6_restBetween_60 (X6_restBetween_6 n) x1 x2 x3 x4 x5 μ else gd (inB x5 200) (X6_restBetween_60 (X6_restBetween_6 n) x1 x2 x3 (x4 + (μ 22 x5.toNatClampNeg)) x5 μ))))) else X6_restBetween_60 (X6_restBetween_6 n) x1 x2 x3 x4 x5 μ)))
set_option maxRecDepth 100000 in
set_option maxHeartbeats 4000000 in
theorem w_X6_restBetween_6 {g : Gx} {p : Program} {l : Launch} {e : Env} {s : State} {m : MethodId} {args : Array Value} {below : List Frame} {meth : Method} {c : Code} (C0 : Cx Lx g p s m args meth c cX6_restBetween 6 (some .int) RX6) {r : Int32} {ν : Mem}  (n : Nat) : ∀ (x1 : Int32) (x2 : Int32) (x3 : Int32) (x4 : Int32) (x5 : Int32) (μ : Mem) (H : Heap) (locs : List Loc) (ls : Array Slot), Px Lx g μ H → va_S (Ax Lx g) s.heap H locs → lv_has ls 6 [(0, .ref (g.2.2.1 + 19)), (1, .int x1), (2, .int x2), (3, .int x3), (4, .int x4), (5, .int x5)] → X6_restBetween_6  n x1 x2 x3 x4 x5 μ = some (r, ν) → W p l e { frames := 0, cells := 0, slots := 0, locals := 0 } s m args below meth c H locs 0 0 (MQ below (Qx Lx g (some (.int r)) ν) args s 0 0 (Ax Lx g)) (F0 m 6 ls []) := by
  obtain ⟨hx, hb, hr, hml, hown, hts, hlocks, hK⟩ := id C0
  induction n with
  | zero =>
    intro x1 x2 x3 x4 x5 μ H locs ls hP hS hl h
    have h : (none : Option (Int32 × Mem)) = some (r, ν) := h
    cases h
  | succ n ih =>
    intro x1 x2 x3 x4 x5 μ H locs ls hP hS hl h
    rw [X6_restBetween_6.eq_2] at h
    refine lv_iload hx hb dX6_restBetween_6 (lv_at hl 5 rfl) ?_
    refine lv_aload_n hx hb dX6_restBetween_8 rfl (lv_at hl 0 rfl) ?_
    refine x_get C0 hP inu6 (k := 19) cx_19 (by decide) rfl 3 (by decide) q1_115 rfl (v := .int (μ 19 3)) rfl dX6_restBetween_9 ?_
    refine lv_icmp_ge (tgt := 66) hx hb dX6_restBetween_12 (by decide) (fun c1 => ?_) (fun c1 => ?_)
    · rw [if_pos c1] at h
      refine lv_iload hx hb dX6_restBetween_66 (lv_at hl 4 rfl) ?_
      obtain ⟨rfl, rfl⟩ := some2 h
      exact x_iret C0 hP hS dX6_restBetween_68
    · rw [if_neg c1] at h
      refine lv_aload_n hx hb dX6_restBetween_15 rfl (lv_at hl 0 rfl) ?_
      refine x_get C0 hP inu6 (k := 19) cx_19 (by decide) rfl 0 (by decide) q1_112 rfl (v := .ref (g.2.2.1 + 20)) rfl dX6_restBetween_16 ?_
      refine lv_iload hx hb dX6_restBetween_19 (lv_at hl 5 rfl) ?_
      obtain ⟨z2, h⟩ := gd_some h
      refine x_iald C0 hP (k := 20) cx_20 (j := x5.toNatClampNeg) z2 rfl dX6_restBetween_21 ?_
      refine lv_iload_n hx hb dX6_restBetween_22 rfl (lv_at hl 1 rfl) ?_
      refine lv_icmp_ne (tgt := 60) hx hb dX6_restBetween_23 (by decide) (fun c3 => ?_) (fun c3 => ?_)
      · rw [if_neg c3] at h
        exact w_X6_restBetween_60 C0 (X6_restBetween_6  n) ih x1 x2 x3 x4 x5 μ _ _ _ hP hS (lv_sub hl [0, 1, 2, 3, 4, 5] rfl) h
      · rw [if_pos c3] at h
        refine lv_aload_n hx hb dX6_restBetween_26 rfl (lv_at hl 0 rfl) ?_
        refine x_get C0 hP inu6 (k := 19) cx_19 (by decide) rfl 1 (by decide) q1_113 rfl (v := .ref (g.2.2.1 + 21)) rfl dX6_restBetween_27 ?_
        refine lv_iload hx hb dX6_restBetween_30 (lv_at hl 5 rfl) ?_
        obtain ⟨z4, h⟩ := gd_some h
        refine x_iald C0 hP (k := 21) cx_21 (j := x5.toNatClampNeg) z4 rfl dX6_restBetween_32 ?_
        refine lv_iload_n hx hb dX6_restBetween_33 rfl (lv_at hl 2 rfl) ?_
        refine lv_icmp_lt (tgt := 60) hx hb dX6_restBetween_34 (by decide) (fun c5 => ?_) (fun c5 => ?_)
        · rw [if_pos c5] at h
          exact w_X6_restBetween_60 C0 (X6_restBetween_6  n) ih x1 x2 x3 x4 x5 μ _ _ _ hP hS (lv_sub hl [0, 1, 2, 3, 4, 5] rfl) h
        · rw [if_neg c5] at h
          refine lv_aload_n hx hb dX6_restBetween_37 rfl (lv_at hl 0 rfl) ?_
          refine x_get C0 hP inu6 (k := 19) cx_19 (by decide) rfl 1 (by decide) q1_113 rfl (v := .ref (g.2.2.1 + 21)) rfl dX6_restBetween_38 ?_
          refine lv_iload hx hb dX6_restBetween_41 (lv_at hl 5 rfl) ?_
          obtain ⟨z6, h⟩ := gd_some h
          refine x_iald C0 hP (k := 21) cx_21 (j := x5.toNatClampNeg) z6 rfl dX6_restBetween_43 ?_
          refine lv_iload_n hx hb dX6_restBetween_44 rfl (lv_at hl 3 rfl) ?_
          refine lv_icmp_ge (tgt := 60) hx hb dX6_restBetween_45 (by decide) (fun c7 => ?_) (fun c7 => ?_)
          · rw [if_pos c7] at h
            exact w_X6_restBetween_60 C0 (X6_restBetween_6  n) ih x1 x2 x3 x4 x5 μ _ _ _ hP hS (lv_sub hl [0, 1, 2, 3, 4, 5] rfl) h
          · rw [if_neg c7] at h
            refine lv_iload hx hb dX6_restBetween_48 (lv_at hl 4 rfl) ?_
            refine lv_aload_n hx hb dX6_restBetween_50 rfl (lv_at hl 0 rfl) ?_
            refine x_get C0 hP inu6 (k := 19) cx_19 (by decide) rfl 2 (by decide) q1_114 rfl (v := .ref (g.2.2.1 + 22)) rfl dX6_restBetween_51 ?_
            refine lv_iload hx hb dX6_restBetween_54 (lv_at hl 5 rfl) ?_
            obtain ⟨z8, h⟩ := gd_some h
            refine x_iald C0 hP (k := 22) cx_22 (j := x5.toNatClampNeg) z8 rfl dX6_restBetween_56 ?_
            refine lv_iadd hx hb dX6_restBetween_57 ?_
            refine lv_istore (lv' := [(4, .int (x4 + (μ 22 x5.toNatClampNeg))), (0, .ref (g.2.2.1 + 19)), (1, .int x1), (2, .int x2), (3, .int x3), (5, .int x5)]) hx hb dX6_restBetween_58 hl (by decide) rfl (fun ls hl => ?_)
            exact w_X6_restBetween_60 C0 (X6_restBetween_6  n) ih x1 x2 x3 (x4 + (μ 22 x5.toNatClampNeg)) x5 μ _ _ _ hP hS (lv_sub hl [1, 2, 3, 4, 0, 5] rfl) h
def X6_restBetween (x1 : Int32) (x2 : Int32) (x3 : Int32) (μ : Mem) : Option (Int32 × Mem) :=
  X6_restBetween_6 FU x1 x2 x3 (0 : Int32) (0 : Int32) μ
set_option maxRecDepth 100000 in
set_option maxHeartbeats 4000000 in
theorem c_X6_restBetween (l : Launch) (g : Gx) (x1 : Int32) (x2 : Int32) (x3 : Int32) (μ : Mem) {r : Int32} {ν : Mem} (h : X6_restBetween x1 x2 x3 μ = some (r, ν)) : Ct Lx g l yX6_restBetween cX6_restBetween 6 (some .int) { frames := 0, cells := 0, slots := 0, locals := 0 } [.ref (g.2.2.1 + 19), .int x1, .int x2, .int x3] μ (some (.int r)) ν := by
  refine x_met (lv := [(0, .ref (g.2.2.1 + 19)), (1, .int x1), (2, .int x2), (3, .int x3)]) rfl (Nat.le_of_ble_eq_true rfl) rfl ?_
  intro p e s m below meth c C0 hP ls hl
  generalize ([.ref (g.2.2.1 + 19), .int x1, .int x2, .int x3] : List Value).toArray = args at C0 ⊢
  have C0 : Cx Lx g p s m args meth c cX6_restBetween 6 (some .int) RX6 := C0
  have hS : va_S (Ax Lx g) s.heap s.heap [] := va_S.rf
  obtain ⟨hx, hb, hr, hml, hown, hts, hlocks, hK⟩ := id C0
  unfold X6_restBetween at h
  skip
  refine lv_iconst (v := (0 : Int32)) hx hb dX6_restBetween_0 rfl ?_
  refine lv_istore (lv' := [(4, .int (0 : Int32)), (0, .ref (g.2.2.1 + 19)), (1, .int x1), (2, .int x2), (3, .int x3)]) hx hb dX6_restBetween_1 hl (by decide) rfl (fun ls hl => ?_)
  refine lv_iconst (v := (0 : Int32)) hx hb dX6_restBetween_3 rfl ?_
  refine lv_istore (lv' := [(5, .int (0 : Int32)), (4, .int (0 : Int32)), (0, .ref (g.2.2.1 + 19)), (1, .int x1), (2, .int x2), (3, .int x3)]) hx hb dX6_restBetween_4 hl (by decide) rfl (fun ls hl => ?_)
  exact w_X6_restBetween_6 C0  FU x1 x2 x3 (0 : Int32) (0 : Int32) μ _ _ _ hP hS (lv_sub hl [2, 3, 4, 5, 1, 0] rfl) h
def X6_copyFrom (a0 : Nat) (a1 : Nat) (μ : Mem) : Option Mem :=
  lt (st μ a0 3 (μ a1 3)) fun μ1 => lt (st μ1 a0 4 (μ1 a1 4)) fun μ2 => lt (st μ2 a0 5 (μ2 a1 5)) fun μ3 => lt (str μ3 (a0 + 1) (va_cpy (μ3 (a1 + 1)) (μ3 (a0 + 1)) 0 0 200)) fun μ4 => lt (str μ4 (a0 + 2) (va_cpy (μ4 (a1 + 2)) (μ4 (a0 + 2)) 0 0 200)) fun μ5 => lt (str μ5 (a0 + 3) (va_cpy (μ5 (a1 + 3)) (μ5 (a0 + 3)) 0 0 200)) fun μ6 => some μ6
set_option maxRecDepth 100000 in
set_option maxHeartbeats 4000000 in
theorem c_X6_copyFrom (l : Launch) (g : Gx) (a0 : Nat) (hi0 : Id6 a0) (a1 : Nat) (hi1 : Id6 a1) (μ : Mem) {ν : Mem} (h : X6_copyFrom a0 a1 μ = some ν) : Ct Lx g l yX6_copyFrom cX6_copyFrom 2 none { frames := 1, cells := 0, slots := 0, locals := 18 } [.ref (g.2.2.1 + a0), .ref (g.2.2.1 + a1)] μ none ν := by
  refine x_met (lv := [(0, .ref (g.2.2.1 + a0)), (1, .ref (g.2.2.1 + a1))]) rfl (Nat.le_of_ble_eq_true rfl) rfl ?_
  intro p e s m below meth c C0 hP ls hl
  generalize ([.ref (g.2.2.1 + a0), .ref (g.2.2.1 + a1)] : List Value).toArray = args at C0 ⊢
  have C0 : Cx Lx g p s m args meth c cX6_copyFrom 2 none RX6 := C0
  have hS : va_S (Ax Lx g) s.heap s.heap [] := va_S.rf
  obtain ⟨hx, hb, hr, hml, hown, hts, hlocks, hK⟩ := id C0
  unfold X6_copyFrom at h
  skip
  refine lv_aload_n hx hb dX6_copyFrom_0 rfl (lv_at hl 0 rfl) ?_
  refine lv_aload_n hx hb dX6_copyFrom_1 rfl (lv_at hl 1 rfl) ?_
  refine x_get C0 hP inu6 (k := a1) (id6_0 hi1) (by decide) rfl 3 (by decide) q1_115 rfl (v := .int (μ a1 3)) rfl dX6_copyFrom_2 ?_
  obtain ⟨μ1, e1, h⟩ := lt_some h
  refine x_put C0 hP hS inu6 tyX6 tyX6_ok nmX6 (k := a0) (id6_0 hi0) (by decide) rfl 3 (by decide) q1_115 rfl rfl (v := .int (μ a1 3)) (x := (μ a1 3)) rfl rfl (Nat.le_of_ble_eq_true rfl) (os_6_3 _ _ _ _) dX6_copyFrom_5 (fun H locs hP hS => ?_)
  rw [← e1] at hP
  refine lv_aload_n hx hb dX6_copyFrom_8 rfl (lv_at hl 0 rfl) ?_
  refine lv_aload_n hx hb dX6_copyFrom_9 rfl (lv_at hl 1 rfl) ?_
  refine x_get C0 hP inu6 (k := a1) (id6_0 hi1) (by decide) rfl 4 (by decide) q1_117 rfl (v := .int (μ1 a1 4)) rfl dX6_copyFrom_10 ?_
  obtain ⟨μ2, e2, h⟩ := lt_some h
  refine x_put C0 hP hS inu6 tyX6 tyX6_ok nmX6 (k := a0) (id6_0 hi0) (by decide) rfl 4 (by decide) q1_117 rfl rfl (v := .int (μ1 a1 4)) (x := (μ1 a1 4)) rfl rfl (Nat.le_of_ble_eq_true rfl) (os_6_4 _ _ _ _) dX6_copyFrom_13 (fun H locs hP hS => ?_)
  rw [← e2] at hP
  refine lv_aload_n hx hb dX6_copyFrom_16 rfl (lv_at hl 0 rfl) ?_
  refine lv_aload_n hx hb dX6_copyFrom_17 rfl (lv_at hl 1 rfl) ?_
  refine x_get C0 hP inu6 (k := a1) (id6_0 hi1) (by decide) rfl 5 (by decide) q1_119 rfl (v := .int (μ2 a1 5)) rfl dX6_copyFrom_18 ?_
  obtain ⟨μ3, e3, h⟩ := lt_some h
  refine x_put C0 hP hS inu6 tyX6 tyX6_ok nmX6 (k := a0) (id6_0 hi0) (by decide) rfl 5 (by decide) q1_119 rfl rfl (v := .int (μ2 a1 5)) (x := (μ2 a1 5)) rfl rfl (Nat.le_of_ble_eq_true rfl) (os_6_5 _ _ _ _) dX6_copyFrom_21 (fun H locs hP hS => ?_)
  rw [← e3] at hP
  refine lv_aload_n hx hb dX6_copyFrom_24 rfl (lv_at hl 1 rfl) ?_
  refine x_get C0 hP inu6 (k := a1) (id6_0 hi1) (by decide) rfl 0 (by decide) q1_112 rfl (v := .ref (g.2.2.1 + (a1 + 1))) rfl dX6_copyFrom_25 ?_
  refine lv_iconst (v := (0 : Int32)) hx hb dX6_copyFrom_28 rfl ?_
  refine lv_aload_n hx hb dX6_copyFrom_29 rfl (lv_at hl 0 rfl) ?_
  refine x_get C0 hP inu6 (k := a0) (id6_0 hi0) (by decide) rfl 0 (by decide) q1_112 rfl (v := .ref (g.2.2.1 + (a0 + 1))) rfl dX6_copyFrom_30 ?_
  refine lv_iconst (v := (0 : Int32)) hx hb dX6_copyFrom_33 rfl ?_
  refine lv_sipush (v := (200 : Int32)) hx hb dX6_copyFrom_34 (by decide +kernel) ?_
  obtain ⟨μ4, e4, h⟩ := lt_some h
  refine x_copyi C0 hP hS hl.1 (k0 := (a1 + 1)) (k1 := (a0 + 1)) (id6_1 hi1) (id6_1 hi0) q4_106 q3_124 q3_123 q1_13 (by decide) (sp2 := 0) (dp2 := 0) (n2 := 200) rfl rfl rfl (Nat.le_of_ble_eq_true rfl) (Nat.le_of_ble_eq_true rfl) dX6_copyFrom_37 (fun H locs hP hS => ?_)
  rw [← e4] at hP
  refine lv_aload_n hx hb dX6_copyFrom_40 rfl (lv_at hl 1 rfl) ?_
  refine x_get C0 hP inu6 (k := a1) (id6_0 hi1) (by decide) rfl 1 (by decide) q1_113 rfl (v := .ref (g.2.2.1 + (a1 + 2))) rfl dX6_copyFrom_41 ?_
  refine lv_iconst (v := (0 : Int32)) hx hb dX6_copyFrom_44 rfl ?_
  refine lv_aload_n hx hb dX6_copyFrom_45 rfl (lv_at hl 0 rfl) ?_
  refine x_get C0 hP inu6 (k := a0) (id6_0 hi0) (by decide) rfl 1 (by decide) q1_113 rfl (v := .ref (g.2.2.1 + (a0 + 2))) rfl dX6_copyFrom_46 ?_
  refine lv_iconst (v := (0 : Int32)) hx hb dX6_copyFrom_49 rfl ?_
  refine lv_sipush (v := (200 : Int32)) hx hb dX6_copyFrom_50 (by decide +kernel) ?_
  obtain ⟨μ5, e5, h⟩ := lt_some h
  refine x_copyi C0 hP hS hl.1 (k0 := (a1 + 2)) (k1 := (a0 + 2)) (id6_2 hi1) (id6_2 hi0) q4_106 q3_124 q3_123 q1_13 (by decide) (sp2 := 0) (dp2 := 0) (n2 := 200) rfl rfl rfl (Nat.le_of_ble_eq_true rfl) (Nat.le_of_ble_eq_true rfl) dX6_copyFrom_53 (fun H locs hP hS => ?_)
  rw [← e5] at hP
  refine lv_aload_n hx hb dX6_copyFrom_56 rfl (lv_at hl 1 rfl) ?_
  refine x_get C0 hP inu6 (k := a1) (id6_0 hi1) (by decide) rfl 2 (by decide) q1_114 rfl (v := .ref (g.2.2.1 + (a1 + 3))) rfl dX6_copyFrom_57 ?_
  refine lv_iconst (v := (0 : Int32)) hx hb dX6_copyFrom_60 rfl ?_
  refine lv_aload_n hx hb dX6_copyFrom_61 rfl (lv_at hl 0 rfl) ?_
  refine x_get C0 hP inu6 (k := a0) (id6_0 hi0) (by decide) rfl 2 (by decide) q1_114 rfl (v := .ref (g.2.2.1 + (a0 + 3))) rfl dX6_copyFrom_62 ?_
  refine lv_iconst (v := (0 : Int32)) hx hb dX6_copyFrom_65 rfl ?_
  refine lv_sipush (v := (200 : Int32)) hx hb dX6_copyFrom_66 (by decide +kernel) ?_
  obtain ⟨μ6, e6, h⟩ := lt_some h
  refine x_copyi C0 hP hS hl.1 (k0 := (a1 + 3)) (k1 := (a0 + 3)) (id6_3 hi1) (id6_3 hi0) q4_106 q3_124 q3_123 q1_13 (by decide) (sp2 := 0) (dp2 := 0) (n2 := 200) rfl rfl rfl (Nat.le_of_ble_eq_true rfl) (Nat.le_of_ble_eq_true rfl) dX6_copyFrom_69 (fun H locs hP hS => ?_)
  rw [← e6] at hP
  obtain rfl := some1 h
  exact x_vret C0 hP hS dX6_copyFrom_72
def X7_hasMeter (x1 : Int32) (μ : Mem) : Option (Int32 × Mem) :=
  (if x1 < (0 : Int32) then some ((0 : Int32), μ) else (if (μ 1 6) ≤ x1 then some ((0 : Int32), μ) else some ((1 : Int32), μ)))
set_option maxRecDepth 100000 in
set_option maxHeartbeats 4000000 in
theorem c_X7_hasMeter (l : Launch) (g : Gx) (x1 : Int32) (μ : Mem) {r : Int32} {ν : Mem} (h : X7_hasMeter x1 μ = some (r, ν)) : Ct Lx g l yX7_hasMeter cX7_hasMeter 2 (some .boolean) { frames := 0, cells := 0, slots := 0, locals := 0 } [.ref (g.2.2.1 + 1), .int x1] μ (some (.int r)) ν := by
  refine x_met (lv := [(0, .ref (g.2.2.1 + 1)), (1, .int x1)]) rfl (Nat.le_of_ble_eq_true rfl) rfl ?_
  intro p e s m below meth c C0 hP ls hl
  generalize ([.ref (g.2.2.1 + 1), .int x1] : List Value).toArray = args at C0 ⊢
  have C0 : Cx Lx g p s m args meth c cX7_hasMeter 2 (some .boolean) RX7 := C0
  have hS : va_S (Ax Lx g) s.heap s.heap [] := va_S.rf
  obtain ⟨hx, hb, hr, hml, hown, hts, hlocks, hK⟩ := id C0
  unfold X7_hasMeter at h
  skip
  refine lv_iload_n hx hb dX7_hasMeter_0 rfl (lv_at hl 1 rfl) ?_
  refine lv_if_lt (tgt := 16) hx hb dX7_hasMeter_1 (by decide) (fun c1 => ?_) (fun c1 => ?_)
  · rw [if_pos c1] at h
    refine lv_iconst (v := (0 : Int32)) hx hb dX7_hasMeter_16 rfl ?_
    obtain ⟨rfl, rfl⟩ := some2 h
    exact x_zret C0 hP hS (by decide) dX7_hasMeter_17
  · rw [if_neg c1] at h
    refine lv_iload_n hx hb dX7_hasMeter_4 rfl (lv_at hl 1 rfl) ?_
    refine lv_aload_n hx hb dX7_hasMeter_5 rfl (lv_at hl 0 rfl) ?_
    refine x_get C0 hP inu7 (k := 1) cx_1 (by decide) rfl 6 (by decide) q1_232 rfl (v := .int (μ 1 6)) rfl dX7_hasMeter_6 ?_
    refine lv_icmp_ge (tgt := 16) hx hb dX7_hasMeter_9 (by decide) (fun c2 => ?_) (fun c2 => ?_)
    · rw [if_pos c2] at h
      refine lv_iconst (v := (0 : Int32)) hx hb dX7_hasMeter_16 rfl ?_
      obtain ⟨rfl, rfl⟩ := some2 h
      exact x_zret C0 hP hS (by decide) dX7_hasMeter_17
    · rw [if_neg c2] at h
      refine lv_iconst (v := (1 : Int32)) hx hb dX7_hasMeter_12 rfl ?_
      refine lv_goto (tgt := 17) hx hb dX7_hasMeter_13 (by decide) ?_
      obtain ⟨rfl, rfl⟩ := some2 h
      exact x_zret C0 hP hS (by decide) dX7_hasMeter_17
def X7_addMeter (x1 : Int32) (x2 : Int32) (μ : Mem) : Option (Int32 × Mem) :=
  (if (μ 1 6) < (8 : Int32) then gd (inB (μ 1 6) 8) (ob (X2_begin (24 + 2 * (μ 1 6).toNatClampNeg) (μ 1 6) x1 x2 μ) fun μ3 => ob2 (X1_ruling (0 : Int32) (μ3 1 8) μ3) fun r4 μ4 => lt (st μ4 (24 + 2 * (μ 1 6).toNatClampNeg) 14 r4) fun μ5 => lt (st μ5 1 6 ((μ5 1 6) + (1 : Int32))) fun μ6 => some ((μ6 (24 + 2 * (μ 1 6).toNatClampNeg) 1), μ6)) else some ((-1 : Int32), μ))
set_option maxRecDepth 100000 in
set_option maxHeartbeats 4000000 in
theorem c_X7_addMeter (l : Launch) (g : Gx) (x1 : Int32) (x2 : Int32) (μ : Mem) {r : Int32} {ν : Mem} (h : X7_addMeter x1 x2 μ = some (r, ν)) : Ct Lx g l yX7_addMeter cX7_addMeter 4 (some .int) { frames := 1, cells := 0, slots := 0, locals := 24 } [.ref (g.2.2.1 + 1), .int x1, .int x2] μ (some (.int r)) ν := by
  refine x_met (lv := [(0, .ref (g.2.2.1 + 1)), (1, .int x1), (2, .int x2)]) rfl (Nat.le_of_ble_eq_true rfl) rfl ?_
  intro p e s m below meth c C0 hP ls hl
  generalize ([.ref (g.2.2.1 + 1), .int x1, .int x2] : List Value).toArray = args at C0 ⊢
  have C0 : Cx Lx g p s m args meth c cX7_addMeter 4 (some .int) RX7 := C0
  have hS : va_S (Ax Lx g) s.heap s.heap [] := va_S.rf
  obtain ⟨hx, hb, hr, hml, hown, hts, hlocks, hK⟩ := id C0
  unfold X7_addMeter at h
  skip
  refine lv_aload_n hx hb dX7_addMeter_0 rfl (lv_at hl 0 rfl) ?_
  refine x_get C0 hP inu7 (k := 1) cx_1 (by decide) rfl 6 (by decide) q1_232 rfl (v := .int (μ 1 6)) rfl dX7_addMeter_1 ?_
  refine lv_bipush (v := (8 : Int32)) hx hb dX7_addMeter_4 (by decide +kernel) ?_
  refine lv_icmp_lt (tgt := 11) hx hb dX7_addMeter_6 (by decide) (fun c1 => ?_) (fun c1 => ?_)
  · rw [if_pos c1] at h
    refine lv_aload_n hx hb dX7_addMeter_11 rfl (lv_at hl 0 rfl) ?_
    refine x_get C0 hP inu7 (k := 1) cx_1 (by decide) rfl 0 (by decide) q1_220 rfl (v := .ref (g.2.2.1 + 2)) rfl dX7_addMeter_12 ?_
    refine lv_aload_n hx hb dX7_addMeter_15 rfl (lv_at hl 0 rfl) ?_
    refine x_get C0 hP inu7 (k := 1) cx_1 (by decide) rfl 6 (by decide) q1_232 rfl (v := .int (μ 1 6)) rfl dX7_addMeter_16 ?_
    obtain ⟨z2, h⟩ := gd_some h
    refine x_maald C0 hP (k := 2) cx_2 (j := (μ 1 6).toNatClampNeg) z2 rfl dX7_addMeter_19 ?_
    refine W.eq (g2 := F0 m 20 ls [.ref (g.2.2.1 + (24 + 2 * (μ 1 6).toNatClampNeg))]) rfl ?_
    refine lv_astore_n (lv' := [(3, .ref (g.2.2.1 + (24 + 2 * (μ 1 6).toNatClampNeg))), (0, .ref (g.2.2.1 + 1)), (1, .int x1), (2, .int x2)]) hx hb dX7_addMeter_20 rfl hl (by decide) rfl (fun ls hl => ?_)
    refine lv_aload_n hx hb dX7_addMeter_21 rfl (lv_at hl 0 rfl) ?_
    refine lv_aload_n hx hb dX7_addMeter_22 rfl (lv_at hl 1 rfl) ?_
    refine x_get C0 hP inu7 (k := 1) cx_1 (by decide) rfl 6 (by decide) q1_232 rfl (v := .int (μ 1 6)) rfl dX7_addMeter_23 ?_
    refine lv_iload_n hx hb dX7_addMeter_26 rfl (lv_at hl 2 rfl) ?_
    refine lv_iload_n hx hb dX7_addMeter_27 rfl (lv_at hl 3 rfl) ?_
    obtain ⟨μ3, h1, h⟩ := ob_some h
    refine x_callV C0 (rest := []) (q := (RX2, TX2, 15)) (c_X2_begin l g (24 + 2 * (μ 1 6).toNatClampNeg) (met_i z2) (μ 1 6) x1 x2 μ h1) q2_131 q2_128 q2_129 q2_130 q1_7 hd_X2_begin ⟨rfl, rfl⟩ ⟨Nat.le_of_ble_eq_true rfl, Nat.le_of_ble_eq_true rfl⟩ (id2_0 (met_i z2)) (by decide) rfl hP hS hl.1 rfl rfl (Nat.le_of_ble_eq_true rfl) dX7_addMeter_28 (fun H locs hP hS => ?_)
    refine W.eq (g2 := F0 m 31 ls []) rfl ?_
    refine lv_aload_n hx hb dX7_addMeter_31 rfl (lv_at hl 0 rfl) ?_
    refine lv_aload_n hx hb dX7_addMeter_32 rfl (lv_at hl 1 rfl) ?_
    refine x_get C0 hP inu7 (k := 1) cx_1 (by decide) rfl 2 (by decide) q1_224 rfl (v := .ref (g.2.2.1 + 8)) rfl dX7_addMeter_33 ?_
    refine lv_iconst (v := (0 : Int32)) hx hb dX7_addMeter_36 rfl ?_
    refine lv_aload_n hx hb dX7_addMeter_37 rfl (lv_at hl 1 rfl) ?_
    refine x_get C0 hP inu7 (k := 1) cx_1 (by decide) rfl 8 (by decide) q1_236 rfl (v := .int (μ3 1 8)) rfl dX7_addMeter_38 ?_
    obtain ⟨r4, μ4, h1, h⟩ := ob2_some h
    refine x_callV C0 (rest := [.ref (g.2.2.1 + (24 + 2 * (μ 1 6).toNatClampNeg))]) (q := (RX1, TX1, 6)) (c_X1_ruling l g (0 : Int32) (μ3 1 8) μ3 h1) q2_135 q2_132 q2_133 q2_134 q1_4 hd_X1_ruling ⟨rfl, rfl⟩ ⟨Nat.le_of_ble_eq_true rfl, Nat.le_of_ble_eq_true rfl⟩ cx_8 (by decide) rfl hP hS hl.1 rfl rfl (Nat.le_of_ble_eq_true rfl) dX7_addMeter_41 (fun H locs hP hS => ?_)
    refine W.eq (g2 := F0 m 44 ls [.int r4, .ref (g.2.2.1 + (24 + 2 * (μ 1 6).toNatClampNeg))]) rfl ?_
    obtain ⟨μ5, e5, h⟩ := lt_some h
    refine x_put C0 hP hS inu2 tyX2 tyX2_ok nmX2 (k := (24 + 2 * (μ 1 6).toNatClampNeg)) (id2_0 (met_i z2)) (by decide) rfl 14 (by decide) q1_187 rfl rfl (v := .int r4) (x := r4) rfl rfl (Nat.le_of_ble_eq_true rfl) (os_2_14 _ _ _ _) dX7_addMeter_44 (fun H locs hP hS => ?_)
    rw [← e5] at hP
    refine lv_aload_n hx hb dX7_addMeter_47 rfl (lv_at hl 1 rfl) ?_
    refine lv_dup hx hb dX7_addMeter_48 rfl ?_
    refine x_get C0 hP inu7 (k := 1) cx_1 (by decide) rfl 6 (by decide) q1_232 rfl (v := .int (μ5 1 6)) rfl dX7_addMeter_49 ?_
    refine lv_iconst (v := (1 : Int32)) hx hb dX7_addMeter_52 rfl ?_
    refine lv_iadd hx hb dX7_addMeter_53 ?_
    obtain ⟨μ6, e6, h⟩ := lt_some h
    refine x_put C0 hP hS inu7 tyX7 tyX7_ok nmX7 (k := 1) cx_1 (by decide) rfl 6 (by decide) q1_232 rfl rfl (v := .int ((μ5 1 6) + (1 : Int32))) (x := ((μ5 1 6) + (1 : Int32))) rfl rfl (Nat.le_of_ble_eq_true rfl) (os_7_6 _ _ _ _) dX7_addMeter_54 (fun H locs hP hS => ?_)
    rw [← e6] at hP
    refine lv_aload_n hx hb dX7_addMeter_57 rfl (lv_at hl 0 rfl) ?_
    refine x_get C0 hP inu2 (k := (24 + 2 * (μ 1 6).toNatClampNeg)) (id2_0 (met_i z2)) (by decide) rfl 1 (by decide) q1_143 rfl (v := .int (μ6 (24 + 2 * (μ 1 6).toNatClampNeg) 1)) rfl dX7_addMeter_58 ?_
    obtain ⟨rfl, rfl⟩ := some2 h
    exact x_iret C0 hP hS dX7_addMeter_61
  · rw [if_neg c1] at h
    refine lv_iconst (v := (-1 : Int32)) hx hb dX7_addMeter_9 rfl ?_
    obtain ⟨rfl, rfl⟩ := some2 h
    exact x_iret C0 hP hS dX7_addMeter_10
