def X9_part_18   (μ : Mem) : Option (Int32 × Mem) :=
  ob2 (X9_finding (1 : Int32) μ) fun r3 μ3 => some (r3, μ3)
set_option maxRecDepth 100000 in
set_option maxHeartbeats 4000000 in
theorem w_X9_part_18 {g : Gx} {p : Program} {l : Launch} {e : Env} {s : State} {m : MethodId} {args : Array Value} {below : List Frame} {meth : Method} {c : Code} (C0 : Cx Lx g p s m args meth c cX9_part 5 (some .int) RX9) {r : Int32} {ν : Mem}   (μ : Mem) (H : Heap) (locs : List Loc) (ls : Array Slot) (hP : Px Lx g μ H) (hS : va_S (Ax Lx g) s.heap H locs) (hl : lv_has ls 5 [(0, .ref (g.2.2.1 + 0))]) (h : X9_part_18   μ = some (r, ν)) : W p l e { frames := 1, cells := 0, slots := 0, locals := 21 } s m args below meth c H locs 0 0 (MQ below (Qx Lx g (some (.int r)) ν) args s 0 0 (Ax Lx g)) (F0 m 18 ls []) := by
  obtain ⟨hx, hb, hr, hml, hown, hts, hlocks, hK⟩ := id C0
  unfold X9_part_18 at h
  refine lv_aload_n hx hb dX9_part_18 rfl (lv_at hl 0 rfl) ?_
  refine lv_iconst (v := (1 : Int32)) hx hb dX9_part_19 rfl ?_
  obtain ⟨r3, μ3, h1, h⟩ := ob2_some h
  refine x_callV C0 (rest := []) (q := (RX9, TX9, 9)) (c_X9_finding l g (1 : Int32) μ h1) q2_122 q2_119 q2_121 r1_0 q1_1 hd_X9_finding ⟨rfl, rfl⟩ ⟨Nat.le_of_ble_eq_true rfl, Nat.le_of_ble_eq_true rfl⟩ cx_0 (by decide) rfl hP hS hl.1 rfl rfl (Nat.le_of_ble_eq_true rfl) dX9_part_20 (fun H locs hP hS => ?_)
  refine W.eq (g2 := F0 m 23 ls [.int r3]) rfl ?_
  obtain ⟨rfl, rfl⟩ := some2 h
  exact x_iret C0 hP hS dX9_part_23
def X9_part (x1 : Int32) (x2 : Int32) (μ : Mem) : Option (Int32 × Mem) :=
  ob2 (X7_hasMeter x1 μ) fun r1 μ1 => (if r1 = (0 : Int32) then X9_part_18 μ1 else ob2 (X9_isPart x2 μ1) fun r4 μ4 => (if r4 = (0 : Int32) then X9_part_18 μ4 else gd (inB x1 8) (lt (st μ4 (24 + 2 * x1.toNatClampNeg) 7 x2) fun μ7 => some ((μ4 (24 + 2 * x1.toNatClampNeg) 7), μ7))))
set_option maxRecDepth 100000 in
set_option maxHeartbeats 4000000 in
theorem c_X9_part (l : Launch) (g : Gx) (x1 : Int32) (x2 : Int32) (μ : Mem) {r : Int32} {ν : Mem} (h : X9_part x1 x2 μ = some (r, ν)) : Ct Lx g l yX9_part cX9_part 5 (some .int) { frames := 1, cells := 0, slots := 0, locals := 21 } [.ref (g.2.2.1 + 0), .int x1, .int x2] μ (some (.int r)) ν := by
  refine x_met (lv := [(0, .ref (g.2.2.1 + 0)), (1, .int x1), (2, .int x2)]) rfl (Nat.le_of_ble_eq_true rfl) rfl ?_
  intro p e s m below meth c C0 hP ls hl
  generalize ([.ref (g.2.2.1 + 0), .int x1, .int x2] : List Value).toArray = args at C0 ⊢
  have C0 : Cx Lx g p s m args meth c cX9_part 5 (some .int) RX9 := C0
  have hS : va_S (Ax Lx g) s.heap s.heap [] := va_S.rf
  obtain ⟨hx, hb, hr, hml, hown, hts, hlocks, hK⟩ := id C0
  unfold X9_part at h
  skip
  refine lv_aload_n hx hb dX9_part_0 rfl (lv_at hl 0 rfl) ?_
  refine x_get C0 hP inu9 (k := 0) cx_0 (by decide) rfl 0 (by decide) q2_81 rfl (v := .ref (g.2.2.1 + 1)) rfl dX9_part_1 ?_
  refine lv_iload_n hx hb dX9_part_4 rfl (lv_at hl 1 rfl) ?_
  obtain ⟨r1, μ1, h1, h⟩ := ob2_some h
  refine x_callV C0 (rest := []) (q := (RX7, TX7, 9)) (c_X7_hasMeter l g x1 μ h1) q2_143 q2_140 q2_141 q2_142 q1_2 hd_X7_hasMeter ⟨rfl, rfl⟩ ⟨Nat.le_of_ble_eq_true rfl, Nat.le_of_ble_eq_true rfl⟩ cx_1 (by decide) rfl hP hS hl.1 rfl rfl (Nat.le_of_ble_eq_true rfl) dX9_part_5 (fun H locs hP hS => ?_)
  refine W.eq (g2 := F0 m 8 ls [.int r1]) rfl ?_
  refine lv_if_eq (tgt := 18) hx hb dX9_part_8 (by decide) (fun c2 => ?_) (fun c2 => ?_)
  · rw [if_pos c2] at h
    exact w_X9_part_18 C0   μ1 _ _ _ hP hS (lv_sub hl [0] rfl) h
  · rw [if_neg c2] at h
    refine lv_iload_n hx hb dX9_part_11 rfl (lv_at hl 2 rfl) ?_
    obtain ⟨r4, μ4, h1, h⟩ := ob2_some h
    refine x_callS C0 (rest := []) (c_X9_isPart l g x2 μ1 h1) q2_189 q2_187 q2_188 q1_1 hd_X9_isPart ⟨rfl, rfl⟩ ⟨Nat.le_of_ble_eq_true rfl, Nat.le_of_ble_eq_true rfl⟩ hP hS hl.1 rfl rfl (Nat.le_of_ble_eq_true rfl) dX9_part_12 (fun H locs hP hS => ?_)
    refine W.eq (g2 := F0 m 15 ls [.int r4]) rfl ?_
    refine lv_if_ne (tgt := 24) hx hb dX9_part_15 (by decide) (fun c5 => ?_) (fun c5 => ?_)
    · rw [if_neg c5] at h
      refine lv_aload_n hx hb dX9_part_24 rfl (lv_at hl 0 rfl) ?_
      refine x_get C0 hP inu9 (k := 0) cx_0 (by decide) rfl 0 (by decide) q2_81 rfl (v := .ref (g.2.2.1 + 1)) rfl dX9_part_25 ?_
      refine x_get C0 hP inu7 (k := 1) cx_1 (by decide) rfl 0 (by decide) q1_221 rfl (v := .ref (g.2.2.1 + 2)) rfl dX9_part_28 ?_
      refine lv_iload_n hx hb dX9_part_31 rfl (lv_at hl 1 rfl) ?_
      obtain ⟨z6, h⟩ := gd_some h
      refine x_maald C0 hP (k := 2) cx_2 (j := x1.toNatClampNeg) z6 rfl dX9_part_32 ?_
      refine W.eq (g2 := F0 m 33 ls [.ref (g.2.2.1 + (24 + 2 * x1.toNatClampNeg))]) rfl ?_
      refine lv_astore_n (lv' := [(3, .ref (g.2.2.1 + (24 + 2 * x1.toNatClampNeg))), (0, .ref (g.2.2.1 + 0)), (1, .int x1), (2, .int x2)]) hx hb dX9_part_33 rfl hl (by decide) rfl (fun ls hl => ?_)
      refine lv_aload_n hx hb dX9_part_34 rfl (lv_at hl 0 rfl) ?_
      refine x_get C0 hP inu2 (k := (24 + 2 * x1.toNatClampNeg)) (id2_0 (met_i z6)) (by decide) rfl 7 (by decide) q1_165 rfl (v := .int (μ4 (24 + 2 * x1.toNatClampNeg) 7)) rfl dX9_part_35 ?_
      refine lv_istore (lv' := [(4, .int (μ4 (24 + 2 * x1.toNatClampNeg) 7)), (3, .ref (g.2.2.1 + (24 + 2 * x1.toNatClampNeg))), (0, .ref (g.2.2.1 + 0)), (1, .int x1), (2, .int x2)]) hx hb dX9_part_38 hl (by decide) rfl (fun ls hl => ?_)
      refine lv_aload_n hx hb dX9_part_40 rfl (lv_at hl 1 rfl) ?_
      refine lv_iload_n hx hb dX9_part_41 rfl (lv_at hl 4 rfl) ?_
      obtain ⟨μ7, e7, h⟩ := lt_some h
      refine x_put C0 hP hS inu2 tyX2 tyX2_ok nmX2 (k := (24 + 2 * x1.toNatClampNeg)) (id2_0 (met_i z6)) (by decide) rfl 7 (by decide) q1_165 rfl rfl (v := .int x2) (x := x2) rfl rfl (Nat.le_of_ble_eq_true rfl) (os_2_7 _ _ _ _) dX9_part_42 (fun H locs hP hS => ?_)
      rw [← e7] at hP
      refine lv_iload hx hb dX9_part_45 (lv_at hl 0 rfl) ?_
      obtain ⟨rfl, rfl⟩ := some2 h
      exact x_iret C0 hP hS dX9_part_47
    · rw [if_pos c5] at h
      exact w_X9_part_18 C0   μ4 _ _ _ hP hS (lv_sub hl [0] rfl) h
def X9_moveIn (x1 : Int32) (μ : Mem) : Option (Int32 × Mem) :=
  ob2 (X7_hasMeter x1 μ) fun r1 μ1 => (if r1 = (0 : Int32) then ob2 (X9_finding (1 : Int32) μ1) fun r7 μ7 => some (r7, μ7) else gd (inB x1 8) (lt (st μ1 (24 + 2 * x1.toNatClampNeg) 6 (0 : Int32)) fun μ4 => lt (st μ4 (24 + 2 * x1.toNatClampNeg) 5 (if (μ4 (24 + 2 * x1.toNatClampNeg) 5) < (0 : Int32) then (0 : Int32) else (μ4 (24 + 2 * x1.toNatClampNeg) 5))) fun μ5 => lt (st μ5 (24 + 2 * x1.toNatClampNeg) 13 (0 : Int32)) fun μ6 => some ((μ1 (24 + 2 * x1.toNatClampNeg) 6), μ6)))
set_option maxRecDepth 100000 in
set_option maxHeartbeats 4000000 in
theorem c_X9_moveIn (l : Launch) (g : Gx) (x1 : Int32) (μ : Mem) {r : Int32} {ν : Mem} (h : X9_moveIn x1 μ = some (r, ν)) : Ct Lx g l yX9_moveIn cX9_moveIn 4 (some .int) { frames := 1, cells := 0, slots := 0, locals := 21 } [.ref (g.2.2.1 + 0), .int x1] μ (some (.int r)) ν := by
  refine x_met (lv := [(0, .ref (g.2.2.1 + 0)), (1, .int x1)]) rfl (Nat.le_of_ble_eq_true rfl) rfl ?_
  intro p e s m below meth c C0 hP ls hl
  generalize ([.ref (g.2.2.1 + 0), .int x1] : List Value).toArray = args at C0 ⊢
  have C0 : Cx Lx g p s m args meth c cX9_moveIn 4 (some .int) RX9 := C0
  have hS : va_S (Ax Lx g) s.heap s.heap [] := va_S.rf
  obtain ⟨hx, hb, hr, hml, hown, hts, hlocks, hK⟩ := id C0
  unfold X9_moveIn at h
  skip
  refine lv_aload_n hx hb dX9_moveIn_0 rfl (lv_at hl 0 rfl) ?_
  refine x_get C0 hP inu9 (k := 0) cx_0 (by decide) rfl 0 (by decide) q2_81 rfl (v := .ref (g.2.2.1 + 1)) rfl dX9_moveIn_1 ?_
  refine lv_iload_n hx hb dX9_moveIn_4 rfl (lv_at hl 1 rfl) ?_
  obtain ⟨r1, μ1, h1, h⟩ := ob2_some h
  refine x_callV C0 (rest := []) (q := (RX7, TX7, 9)) (c_X7_hasMeter l g x1 μ h1) q2_143 q2_140 q2_141 q2_142 q1_2 hd_X7_hasMeter ⟨rfl, rfl⟩ ⟨Nat.le_of_ble_eq_true rfl, Nat.le_of_ble_eq_true rfl⟩ cx_1 (by decide) rfl hP hS hl.1 rfl rfl (Nat.le_of_ble_eq_true rfl) dX9_moveIn_5 (fun H locs hP hS => ?_)
  refine W.eq (g2 := F0 m 8 ls [.int r1]) rfl ?_
  refine lv_if_ne (tgt := 17) hx hb dX9_moveIn_8 (by decide) (fun c2 => ?_) (fun c2 => ?_)
  · rw [if_neg c2] at h
    refine lv_aload_n hx hb dX9_moveIn_17 rfl (lv_at hl 0 rfl) ?_
    refine x_get C0 hP inu9 (k := 0) cx_0 (by decide) rfl 0 (by decide) q2_81 rfl (v := .ref (g.2.2.1 + 1)) rfl dX9_moveIn_18 ?_
    refine x_get C0 hP inu7 (k := 1) cx_1 (by decide) rfl 0 (by decide) q1_221 rfl (v := .ref (g.2.2.1 + 2)) rfl dX9_moveIn_21 ?_
    refine lv_iload_n hx hb dX9_moveIn_24 rfl (lv_at hl 1 rfl) ?_
    obtain ⟨z3, h⟩ := gd_some h
    refine x_maald C0 hP (k := 2) cx_2 (j := x1.toNatClampNeg) z3 rfl dX9_moveIn_25 ?_
    refine W.eq (g2 := F0 m 26 ls [.ref (g.2.2.1 + (24 + 2 * x1.toNatClampNeg))]) rfl ?_
    refine lv_astore_n (lv' := [(2, .ref (g.2.2.1 + (24 + 2 * x1.toNatClampNeg))), (0, .ref (g.2.2.1 + 0)), (1, .int x1)]) hx hb dX9_moveIn_26 rfl hl (by decide) rfl (fun ls hl => ?_)
    refine lv_aload_n hx hb dX9_moveIn_27 rfl (lv_at hl 0 rfl) ?_
    refine x_get C0 hP inu2 (k := (24 + 2 * x1.toNatClampNeg)) (id2_0 (met_i z3)) (by decide) rfl 6 (by decide) q1_162 rfl (v := .int (μ1 (24 + 2 * x1.toNatClampNeg) 6)) rfl dX9_moveIn_28 ?_
    refine lv_istore_n (lv' := [(3, .int (μ1 (24 + 2 * x1.toNatClampNeg) 6)), (2, .ref (g.2.2.1 + (24 + 2 * x1.toNatClampNeg))), (0, .ref (g.2.2.1 + 0)), (1, .int x1)]) hx hb dX9_moveIn_31 rfl hl (by decide) rfl (fun ls hl => ?_)
    refine lv_aload_n hx hb dX9_moveIn_32 rfl (lv_at hl 1 rfl) ?_
    refine lv_iconst (v := (0 : Int32)) hx hb dX9_moveIn_33 rfl ?_
    obtain ⟨μ4, e4, h⟩ := lt_some h
    refine x_put C0 hP hS inu2 tyX2 tyX2_ok nmX2 (k := (24 + 2 * x1.toNatClampNeg)) (id2_0 (met_i z3)) (by decide) rfl 6 (by decide) q1_162 rfl rfl (v := .int (0 : Int32)) (x := (0 : Int32)) rfl rfl (Nat.le_of_ble_eq_true rfl) (os_2_6 _ _ _ _) dX9_moveIn_34 (fun H locs hP hS => ?_)
    rw [← e4] at hP
    refine lv_aload_n hx hb dX9_moveIn_37 rfl (lv_at hl 1 rfl) ?_
    refine lv_aload_n hx hb dX9_moveIn_38 rfl (lv_at hl 1 rfl) ?_
    refine x_get C0 hP inu2 (k := (24 + 2 * x1.toNatClampNeg)) (id2_0 (met_i z3)) (by decide) rfl 5 (by decide) q1_157 rfl (v := .int (μ4 (24 + 2 * x1.toNatClampNeg) 5)) rfl dX9_moveIn_39 ?_
    refine lv_iconst (v := (0 : Int32)) hx hb dX9_moveIn_42 rfl ?_
    refine va_mmax hx hb (hml.trans hl.1.symm) hown (hts _ q2_194) (hts _ q2_195) (hts _ q1_12) (hts _ q2_196) (Nat.le_of_ble_eq_true rfl) (Nat.le_of_ble_eq_true rfl) (Nat.zero_le _) (Nat.zero_le _) dX9_moveIn_43 ?_
    obtain ⟨μ5, e5, h⟩ := lt_some h
    refine x_put C0 hP hS inu2 tyX2 tyX2_ok nmX2 (k := (24 + 2 * x1.toNatClampNeg)) (id2_0 (met_i z3)) (by decide) rfl 5 (by decide) q1_157 rfl rfl (v := .int (if (μ4 (24 + 2 * x1.toNatClampNeg) 5) < (0 : Int32) then (0 : Int32) else (μ4 (24 + 2 * x1.toNatClampNeg) 5))) (x := (if (μ4 (24 + 2 * x1.toNatClampNeg) 5) < (0 : Int32) then (0 : Int32) else (μ4 (24 + 2 * x1.toNatClampNeg) 5))) rfl rfl (Nat.le_of_ble_eq_true rfl) (os_2_5 _ _ _ _) dX9_moveIn_46 (fun H locs hP hS => ?_)
    rw [← e5] at hP
    refine lv_aload_n hx hb dX9_moveIn_49 rfl (lv_at hl 1 rfl) ?_
    refine lv_iconst (v := (0 : Int32)) hx hb dX9_moveIn_50 rfl ?_
    obtain ⟨μ6, e6, h⟩ := lt_some h
    refine x_put C0 hP hS inu2 tyX2 tyX2_ok nmX2 (k := (24 + 2 * x1.toNatClampNeg)) (id2_0 (met_i z3)) (by decide) rfl 13 (by decide) q1_184 rfl rfl (v := .int (0 : Int32)) (x := (0 : Int32)) rfl rfl (Nat.le_of_ble_eq_true rfl) (os_2_13 _ _ _ _) dX9_moveIn_51 (fun H locs hP hS => ?_)
    rw [← e6] at hP
    refine lv_iload_n hx hb dX9_moveIn_54 rfl (lv_at hl 0 rfl) ?_
    obtain ⟨rfl, rfl⟩ := some2 h
    exact x_iret C0 hP hS dX9_moveIn_55
  · rw [if_pos c2] at h
    refine lv_aload_n hx hb dX9_moveIn_11 rfl (lv_at hl 0 rfl) ?_
    refine lv_iconst (v := (1 : Int32)) hx hb dX9_moveIn_12 rfl ?_
    obtain ⟨r7, μ7, h1, h⟩ := ob2_some h
    refine x_callV C0 (rest := []) (q := (RX9, TX9, 9)) (c_X9_finding l g (1 : Int32) μ1 h1) q2_122 q2_119 q2_121 r1_0 q1_1 hd_X9_finding ⟨rfl, rfl⟩ ⟨Nat.le_of_ble_eq_true rfl, Nat.le_of_ble_eq_true rfl⟩ cx_0 (by decide) rfl hP hS hl.1 rfl rfl (Nat.le_of_ble_eq_true rfl) dX9_moveIn_13 (fun H locs hP hS => ?_)
    refine W.eq (g2 := F0 m 16 ls [.int r7]) rfl ?_
    obtain ⟨rfl, rfl⟩ := some2 h
    exact x_iret C0 hP hS dX9_moveIn_16
def X9_force (x1 : Int32) (μ : Mem) : Option (Int32 × Mem) :=
  ob2 (X7_hasMeter x1 μ) fun r1 μ1 => (if r1 = (0 : Int32) then ob2 (X9_finding (1 : Int32) μ1) fun r11 μ11 => some (r11, μ11) else gd (inB x1 8) ((if (μ1 (24 + 2 * x1.toNatClampNeg) 2) = (1 : Int32) then ob2 (X1_allowForcing (24 + 2 * x1.toNatClampNeg) (μ1 1 8) μ1) fun r5 μ5 => (if r5 = (0 : Int32) then ob2 (X9_finding (3 : Int32) μ5) fun r9 μ9 => some (r9, μ9) else lt (st μ5 (24 + 2 * x1.toNatClampNeg) 2 (3 : Int32)) fun μ7 => lt (st μ7 (24 + 2 * x1.toNatClampNeg) 9 (0 : Int32)) fun μ8 => some ((1 : Int32), μ8)) else ob2 (X9_finding (5 : Int32) μ1) fun r10 μ10 => some (r10, μ10))))
set_option maxRecDepth 100000 in
set_option maxHeartbeats 4000000 in
theorem c_X9_force (l : Launch) (g : Gx) (x1 : Int32) (μ : Mem) {r : Int32} {ν : Mem} (h : X9_force x1 μ = some (r, ν)) : Ct Lx g l yX9_force cX9_force 3 (some .int) { frames := 3, cells := 0, slots := 0, locals := 75 } [.ref (g.2.2.1 + 0), .int x1] μ (some (.int r)) ν := by
  refine x_met (lv := [(0, .ref (g.2.2.1 + 0)), (1, .int x1)]) rfl (Nat.le_of_ble_eq_true rfl) rfl ?_
  intro p e s m below meth c C0 hP ls hl
  generalize ([.ref (g.2.2.1 + 0), .int x1] : List Value).toArray = args at C0 ⊢
  have C0 : Cx Lx g p s m args meth c cX9_force 3 (some .int) RX9 := C0
  have hS : va_S (Ax Lx g) s.heap s.heap [] := va_S.rf
  obtain ⟨hx, hb, hr, hml, hown, hts, hlocks, hK⟩ := id C0
  unfold X9_force at h
  skip
  refine lv_aload_n hx hb dX9_force_0 rfl (lv_at hl 0 rfl) ?_
  refine x_get C0 hP inu9 (k := 0) cx_0 (by decide) rfl 0 (by decide) q2_81 rfl (v := .ref (g.2.2.1 + 1)) rfl dX9_force_1 ?_
  refine lv_iload_n hx hb dX9_force_4 rfl (lv_at hl 1 rfl) ?_
  obtain ⟨r1, μ1, h1, h⟩ := ob2_some h
  refine x_callV C0 (rest := []) (q := (RX7, TX7, 9)) (c_X7_hasMeter l g x1 μ h1) q2_143 q2_140 q2_141 q2_142 q1_2 hd_X7_hasMeter ⟨rfl, rfl⟩ ⟨Nat.le_of_ble_eq_true rfl, Nat.le_of_ble_eq_true rfl⟩ cx_1 (by decide) rfl hP hS hl.1 rfl rfl (Nat.le_of_ble_eq_true rfl) dX9_force_5 (fun H locs hP hS => ?_)
  refine W.eq (g2 := F0 m 8 ls [.int r1]) rfl ?_
  refine lv_if_ne (tgt := 17) hx hb dX9_force_8 (by decide) (fun c2 => ?_) (fun c2 => ?_)
  · rw [if_neg c2] at h
    refine lv_aload_n hx hb dX9_force_17 rfl (lv_at hl 0 rfl) ?_
    refine x_get C0 hP inu9 (k := 0) cx_0 (by decide) rfl 0 (by decide) q2_81 rfl (v := .ref (g.2.2.1 + 1)) rfl dX9_force_18 ?_
    refine x_get C0 hP inu7 (k := 1) cx_1 (by decide) rfl 0 (by decide) q1_221 rfl (v := .ref (g.2.2.1 + 2)) rfl dX9_force_21 ?_
    refine lv_iload_n hx hb dX9_force_24 rfl (lv_at hl 1 rfl) ?_
    obtain ⟨z3, h⟩ := gd_some h
    refine x_maald C0 hP (k := 2) cx_2 (j := x1.toNatClampNeg) z3 rfl dX9_force_25 ?_
    refine W.eq (g2 := F0 m 26 ls [.ref (g.2.2.1 + (24 + 2 * x1.toNatClampNeg))]) rfl ?_
    refine lv_astore_n (lv' := [(2, .ref (g.2.2.1 + (24 + 2 * x1.toNatClampNeg))), (0, .ref (g.2.2.1 + 0)), (1, .int x1)]) hx hb dX9_force_26 rfl hl (by decide) rfl (fun ls hl => ?_)
    refine lv_aload_n hx hb dX9_force_27 rfl (lv_at hl 0 rfl) ?_
    refine x_get C0 hP inu2 (k := (24 + 2 * x1.toNatClampNeg)) (id2_0 (met_i z3)) (by decide) rfl 2 (by decide) q1_147 rfl (v := .int (μ1 (24 + 2 * x1.toNatClampNeg) 2)) rfl dX9_force_28 ?_
    refine lv_iconst (v := (1 : Int32)) hx hb dX9_force_31 rfl ?_
    refine lv_icmp_eq (tgt := 41) hx hb dX9_force_32 (by decide) (fun c4 => ?_) (fun c4 => ?_)
    · rw [if_pos c4] at h
      refine lv_aload_n hx hb dX9_force_41 rfl (lv_at hl 1 rfl) ?_
      refine x_get C0 hP inu9 (k := 0) cx_0 (by decide) rfl 0 (by decide) q2_81 rfl (v := .ref (g.2.2.1 + 1)) rfl dX9_force_42 ?_
      refine x_get C0 hP inu7 (k := 1) cx_1 (by decide) rfl 2 (by decide) q1_225 rfl (v := .ref (g.2.2.1 + 8)) rfl dX9_force_45 ?_
      refine lv_aload_n hx hb dX9_force_48 rfl (lv_at hl 0 rfl) ?_
      refine lv_aload_n hx hb dX9_force_49 rfl (lv_at hl 1 rfl) ?_
      refine x_get C0 hP inu9 (k := 0) cx_0 (by decide) rfl 0 (by decide) q2_81 rfl (v := .ref (g.2.2.1 + 1)) rfl dX9_force_50 ?_
      refine x_get C0 hP inu7 (k := 1) cx_1 (by decide) rfl 8 (by decide) q1_237 rfl (v := .int (μ1 1 8)) rfl dX9_force_53 ?_
      obtain ⟨r5, μ5, h1, h⟩ := ob2_some h
      refine x_callV C0 (rest := []) (q := (RX1, TX1, 6)) (c_X1_allowForcing l g (24 + 2 * x1.toNatClampNeg) (met_i z3) (μ1 1 8) μ1 h1) q2_204 q2_201 q2_202 q2_203 q1_4 hd_X1_allowForcing ⟨rfl, rfl⟩ ⟨Nat.le_of_ble_eq_true rfl, Nat.le_of_ble_eq_true rfl⟩ cx_8 (by decide) rfl hP hS hl.1 rfl rfl (Nat.le_of_ble_eq_true rfl) dX9_force_56 (fun H locs hP hS => ?_)
      refine W.eq (g2 := F0 m 59 ls [.int r5]) rfl ?_
      refine lv_if_ne (tgt := 68) hx hb dX9_force_59 (by decide) (fun c6 => ?_) (fun c6 => ?_)
      · rw [if_neg c6] at h
        refine lv_aload_n hx hb dX9_force_68 rfl (lv_at hl 0 rfl) ?_
        refine lv_iconst (v := (3 : Int32)) hx hb dX9_force_69 rfl ?_
        obtain ⟨μ7, e7, h⟩ := lt_some h
        refine x_put C0 hP hS inu2 tyX2 tyX2_ok nmX2 (k := (24 + 2 * x1.toNatClampNeg)) (id2_0 (met_i z3)) (by decide) rfl 2 (by decide) q1_147 rfl rfl (v := .int (3 : Int32)) (x := (3 : Int32)) rfl rfl (Nat.le_of_ble_eq_true rfl) (os_2_2 _ _ _ _) dX9_force_70 (fun H locs hP hS => ?_)
        rw [← e7] at hP
        refine lv_aload_n hx hb dX9_force_73 rfl (lv_at hl 0 rfl) ?_
        refine lv_iconst (v := (0 : Int32)) hx hb dX9_force_74 rfl ?_
        obtain ⟨μ8, e8, h⟩ := lt_some h
        refine x_put C0 hP hS inu2 tyX2 tyX2_ok nmX2 (k := (24 + 2 * x1.toNatClampNeg)) (id2_0 (met_i z3)) (by decide) rfl 9 (by decide) q1_172 rfl rfl (v := .int (0 : Int32)) (x := (0 : Int32)) rfl rfl (Nat.le_of_ble_eq_true rfl) (os_2_9 _ _ _ _) dX9_force_75 (fun H locs hP hS => ?_)
        rw [← e8] at hP
        refine lv_iconst (v := (1 : Int32)) hx hb dX9_force_78 rfl ?_
        obtain ⟨rfl, rfl⟩ := some2 h
        exact x_iret C0 hP hS dX9_force_79
      · rw [if_pos c6] at h
        refine lv_aload_n hx hb dX9_force_62 rfl (lv_at hl 1 rfl) ?_
        refine lv_iconst (v := (3 : Int32)) hx hb dX9_force_63 rfl ?_
        obtain ⟨r9, μ9, h1, h⟩ := ob2_some h
        refine x_callV C0 (rest := []) (q := (RX9, TX9, 9)) (c_X9_finding l g (3 : Int32) μ5 h1) q2_122 q2_119 q2_121 r1_0 q1_1 hd_X9_finding ⟨rfl, rfl⟩ ⟨Nat.le_of_ble_eq_true rfl, Nat.le_of_ble_eq_true rfl⟩ cx_0 (by decide) rfl hP hS hl.1 rfl rfl (Nat.le_of_ble_eq_true rfl) dX9_force_64 (fun H locs hP hS => ?_)
        refine W.eq (g2 := F0 m 67 ls [.int r9]) rfl ?_
        obtain ⟨rfl, rfl⟩ := some2 h
        exact x_iret C0 hP hS dX9_force_67
    · rw [if_neg c4] at h
      refine lv_aload_n hx hb dX9_force_35 rfl (lv_at hl 1 rfl) ?_
      refine lv_iconst (v := (5 : Int32)) hx hb dX9_force_36 rfl ?_
      obtain ⟨r10, μ10, h1, h⟩ := ob2_some h
      refine x_callV C0 (rest := []) (q := (RX9, TX9, 9)) (c_X9_finding l g (5 : Int32) μ1 h1) q2_122 q2_119 q2_121 r1_0 q1_1 hd_X9_finding ⟨rfl, rfl⟩ ⟨Nat.le_of_ble_eq_true rfl, Nat.le_of_ble_eq_true rfl⟩ cx_0 (by decide) rfl hP hS hl.1 rfl rfl (Nat.le_of_ble_eq_true rfl) dX9_force_37 (fun H locs hP hS => ?_)
      refine W.eq (g2 := F0 m 40 ls [.int r10]) rfl ?_
      obtain ⟨rfl, rfl⟩ := some2 h
      exact x_iret C0 hP hS dX9_force_40
  · rw [if_pos c2] at h
    refine lv_aload_n hx hb dX9_force_11 rfl (lv_at hl 0 rfl) ?_
    refine lv_iconst (v := (1 : Int32)) hx hb dX9_force_12 rfl ?_
    obtain ⟨r11, μ11, h1, h⟩ := ob2_some h
    refine x_callV C0 (rest := []) (q := (RX9, TX9, 9)) (c_X9_finding l g (1 : Int32) μ1 h1) q2_122 q2_119 q2_121 r1_0 q1_1 hd_X9_finding ⟨rfl, rfl⟩ ⟨Nat.le_of_ble_eq_true rfl, Nat.le_of_ble_eq_true rfl⟩ cx_0 (by decide) rfl hP hS hl.1 rfl rfl (Nat.le_of_ble_eq_true rfl) dX9_force_13 (fun H locs hP hS => ?_)
    refine W.eq (g2 := F0 m 16 ls [.int r11]) rfl ?_
    obtain ⟨rfl, rfl⟩ := some2 h
    exact x_iret C0 hP hS dX9_force_16
def X9_press_57   (μ : Mem) : Option (Int32 × Mem) :=
  ob2 (X9_finding (3 : Int32) μ) fun r6 μ6 => some (r6, μ6)
set_option maxRecDepth 100000 in
set_option maxHeartbeats 4000000 in
theorem w_X9_press_57 {g : Gx} {p : Program} {l : Launch} {e : Env} {s : State} {m : MethodId} {args : Array Value} {below : List Frame} {meth : Method} {c : Code} (C0 : Cx Lx g p s m args meth c cX9_press 3 (some .int) RX9) {r : Int32} {ν : Mem}   (μ : Mem) (H : Heap) (locs : List Loc) (ls : Array Slot) (hP : Px Lx g μ H) (hS : va_S (Ax Lx g) s.heap H locs) (hl : lv_has ls 3 [(0, .ref (g.2.2.1 + 0))]) (h : X9_press_57   μ = some (r, ν)) : W p l e { frames := 2, cells := 0, slots := 0, locals := 40 } s m args below meth c H locs 0 0 (MQ below (Qx Lx g (some (.int r)) ν) args s 0 0 (Ax Lx g)) (F0 m 57 ls []) := by
  obtain ⟨hx, hb, hr, hml, hown, hts, hlocks, hK⟩ := id C0
  unfold X9_press_57 at h
  refine lv_aload_n hx hb dX9_press_57 rfl (lv_at hl 0 rfl) ?_
  refine lv_iconst (v := (3 : Int32)) hx hb dX9_press_58 rfl ?_
  obtain ⟨r6, μ6, h1, h⟩ := ob2_some h
  refine x_callV C0 (rest := []) (q := (RX9, TX9, 9)) (c_X9_finding l g (3 : Int32) μ h1) q2_122 q2_119 q2_121 r1_0 q1_1 hd_X9_finding ⟨rfl, rfl⟩ ⟨Nat.le_of_ble_eq_true rfl, Nat.le_of_ble_eq_true rfl⟩ cx_0 (by decide) rfl hP hS hl.1 rfl rfl (Nat.le_of_ble_eq_true rfl) dX9_press_59 (fun H locs hP hS => ?_)
  refine W.eq (g2 := F0 m 62 ls [.int r6]) rfl ?_
  obtain ⟨rfl, rfl⟩ := some2 h
  exact x_iret C0 hP hS dX9_press_62
def X9_press (x1 : Int32) (μ : Mem) : Option (Int32 × Mem) :=
  ob2 (X7_hasMeter x1 μ) fun r1 μ1 => (if r1 = (0 : Int32) then ob2 (X9_finding (1 : Int32) μ1) fun r12 μ12 => some (r12, μ12) else gd (inB x1 8) ((if (μ1 (24 + 2 * x1.toNatClampNeg) 2) = (3 : Int32) then ob2 (X9_finding (5 : Int32) μ1) fun r11 μ11 => some (r11, μ11) else (if (μ1 (24 + 2 * x1.toNatClampNeg) 9) = (0 : Int32) then (if (μ1 (24 + 2 * x1.toNatClampNeg) 5) ≤ (100 : Int32) then lt (st μ1 (24 + 2 * x1.toNatClampNeg) 9 (1 : Int32)) fun μ8 => ob (X2_connectAboveLimit (24 + 2 * x1.toNatClampNeg) μ8) fun μ9 => ob2 (X2_limit (24 + 2 * x1.toNatClampNeg) μ9) fun r10 μ10 => some (r10, μ10) else X9_press_57 μ1) else X9_press_57 μ1))))
set_option maxRecDepth 100000 in
set_option maxHeartbeats 4000000 in
theorem c_X9_press (l : Launch) (g : Gx) (x1 : Int32) (μ : Mem) {r : Int32} {ν : Mem} (h : X9_press x1 μ = some (r, ν)) : Ct Lx g l yX9_press cX9_press 3 (some .int) { frames := 2, cells := 0, slots := 0, locals := 40 } [.ref (g.2.2.1 + 0), .int x1] μ (some (.int r)) ν := by
  refine x_met (lv := [(0, .ref (g.2.2.1 + 0)), (1, .int x1)]) rfl (Nat.le_of_ble_eq_true rfl) rfl ?_
  intro p e s m below meth c C0 hP ls hl
  generalize ([.ref (g.2.2.1 + 0), .int x1] : List Value).toArray = args at C0 ⊢
  have C0 : Cx Lx g p s m args meth c cX9_press 3 (some .int) RX9 := C0
  have hS : va_S (Ax Lx g) s.heap s.heap [] := va_S.rf
  obtain ⟨hx, hb, hr, hml, hown, hts, hlocks, hK⟩ := id C0
  unfold X9_press at h
  skip
  refine lv_aload_n hx hb dX9_press_0 rfl (lv_at hl 0 rfl) ?_
  refine x_get C0 hP inu9 (k := 0) cx_0 (by decide) rfl 0 (by decide) q2_81 rfl (v := .ref (g.2.2.1 + 1)) rfl dX9_press_1 ?_
  refine lv_iload_n hx hb dX9_press_4 rfl (lv_at hl 1 rfl) ?_
  obtain ⟨r1, μ1, h1, h⟩ := ob2_some h
  refine x_callV C0 (rest := []) (q := (RX7, TX7, 9)) (c_X7_hasMeter l g x1 μ h1) q2_143 q2_140 q2_141 q2_142 q1_2 hd_X7_hasMeter ⟨rfl, rfl⟩ ⟨Nat.le_of_ble_eq_true rfl, Nat.le_of_ble_eq_true rfl⟩ cx_1 (by decide) rfl hP hS hl.1 rfl rfl (Nat.le_of_ble_eq_true rfl) dX9_press_5 (fun H locs hP hS => ?_)
  refine W.eq (g2 := F0 m 8 ls [.int r1]) rfl ?_
  refine lv_if_ne (tgt := 17) hx hb dX9_press_8 (by decide) (fun c2 => ?_) (fun c2 => ?_)
  · rw [if_neg c2] at h
    refine lv_aload_n hx hb dX9_press_17 rfl (lv_at hl 0 rfl) ?_
    refine x_get C0 hP inu9 (k := 0) cx_0 (by decide) rfl 0 (by decide) q2_81 rfl (v := .ref (g.2.2.1 + 1)) rfl dX9_press_18 ?_
    refine x_get C0 hP inu7 (k := 1) cx_1 (by decide) rfl 0 (by decide) q1_221 rfl (v := .ref (g.2.2.1 + 2)) rfl dX9_press_21 ?_
    refine lv_iload_n hx hb dX9_press_24 rfl (lv_at hl 1 rfl) ?_
    obtain ⟨z3, h⟩ := gd_some h
    refine x_maald C0 hP (k := 2) cx_2 (j := x1.toNatClampNeg) z3 rfl dX9_press_25 ?_
    refine W.eq (g2 := F0 m 26 ls [.ref (g.2.2.1 + (24 + 2 * x1.toNatClampNeg))]) rfl ?_
    refine lv_astore_n (lv' := [(2, .ref (g.2.2.1 + (24 + 2 * x1.toNatClampNeg))), (0, .ref (g.2.2.1 + 0)), (1, .int x1)]) hx hb dX9_press_26 rfl hl (by decide) rfl (fun ls hl => ?_)
    refine lv_aload_n hx hb dX9_press_27 rfl (lv_at hl 0 rfl) ?_
    refine x_get C0 hP inu2 (k := (24 + 2 * x1.toNatClampNeg)) (id2_0 (met_i z3)) (by decide) rfl 2 (by decide) q1_147 rfl (v := .int (μ1 (24 + 2 * x1.toNatClampNeg) 2)) rfl dX9_press_28 ?_
    refine lv_iconst (v := (3 : Int32)) hx hb dX9_press_31 rfl ?_
    refine lv_icmp_ne (tgt := 41) hx hb dX9_press_32 (by decide) (fun c4 => ?_) (fun c4 => ?_)
    · rw [if_neg c4] at h
      refine lv_aload_n hx hb dX9_press_41 rfl (lv_at hl 0 rfl) ?_
      refine x_get C0 hP inu2 (k := (24 + 2 * x1.toNatClampNeg)) (id2_0 (met_i z3)) (by decide) rfl 9 (by decide) q1_172 rfl (v := .int (μ1 (24 + 2 * x1.toNatClampNeg) 9)) rfl dX9_press_42 ?_
      refine lv_if_ne (tgt := 57) hx hb dX9_press_45 (by decide) (fun c5 => ?_) (fun c5 => ?_)
      · rw [if_neg c5] at h
        exact w_X9_press_57 C0   μ1 _ _ _ hP hS (lv_sub hl [1] rfl) h
      · rw [if_pos c5] at h
        refine lv_aload_n hx hb dX9_press_48 rfl (lv_at hl 0 rfl) ?_
        refine x_get C0 hP inu2 (k := (24 + 2 * x1.toNatClampNeg)) (id2_0 (met_i z3)) (by decide) rfl 5 (by decide) q1_157 rfl (v := .int (μ1 (24 + 2 * x1.toNatClampNeg) 5)) rfl dX9_press_49 ?_
        refine lv_bipush (v := (100 : Int32)) hx hb dX9_press_52 (by decide +kernel) ?_
        refine lv_icmp_le (tgt := 63) hx hb dX9_press_54 (by decide) (fun c7 => ?_) (fun c7 => ?_)
        · rw [if_pos c7] at h
          refine lv_aload_n hx hb dX9_press_63 rfl (lv_at hl 0 rfl) ?_
          refine lv_iconst (v := (1 : Int32)) hx hb dX9_press_64 rfl ?_
          obtain ⟨μ8, e8, h⟩ := lt_some h
          refine x_put C0 hP hS inu2 tyX2 tyX2_ok nmX2 (k := (24 + 2 * x1.toNatClampNeg)) (id2_0 (met_i z3)) (by decide) rfl 9 (by decide) q1_172 rfl rfl (v := .int (1 : Int32)) (x := (1 : Int32)) rfl rfl (Nat.le_of_ble_eq_true rfl) (os_2_9 _ _ _ _) dX9_press_65 (fun H locs hP hS => ?_)
          rw [← e8] at hP
          refine lv_aload_n hx hb dX9_press_68 rfl (lv_at hl 0 rfl) ?_
          obtain ⟨μ9, h1, h⟩ := ob_some h
          refine x_callV C0 (rest := []) (q := (RX2, TX2, 15)) (c_X2_connectAboveLimit l g (24 + 2 * x1.toNatClampNeg) (met_i z3) μ8 h1) q2_227 q2_224 q2_225 q2_226 q1_7 hd_X2_connectAboveLimit ⟨rfl, rfl⟩ ⟨Nat.le_of_ble_eq_true rfl, Nat.le_of_ble_eq_true rfl⟩ (id2_0 (met_i z3)) (by decide) rfl hP hS hl.1 rfl rfl (Nat.le_of_ble_eq_true rfl) dX9_press_69 (fun H locs hP hS => ?_)
          refine W.eq (g2 := F0 m 72 ls []) rfl ?_
          refine lv_aload_n hx hb dX9_press_72 rfl (lv_at hl 0 rfl) ?_
          obtain ⟨r10, μ10, h1, h⟩ := ob2_some h
          refine x_callV C0 (rest := []) (q := (RX2, TX2, 15)) (c_X2_limit l g (24 + 2 * x1.toNatClampNeg) (met_i z3) μ9 h1) q2_167 q2_164 q2_165 q2_166 q1_7 hd_X2_limit ⟨rfl, rfl⟩ ⟨Nat.le_of_ble_eq_true rfl, Nat.le_of_ble_eq_true rfl⟩ (id2_0 (met_i z3)) (by decide) rfl hP hS hl.1 rfl rfl (Nat.le_of_ble_eq_true rfl) dX9_press_73 (fun H locs hP hS => ?_)
          refine W.eq (g2 := F0 m 76 ls [.int r10]) rfl ?_
          obtain ⟨rfl, rfl⟩ := some2 h
          exact x_iret C0 hP hS dX9_press_76
        · rw [if_neg c7] at h
          exact w_X9_press_57 C0   μ1 _ _ _ hP hS (lv_sub hl [1] rfl) h
    · rw [if_pos c4] at h
      refine lv_aload_n hx hb dX9_press_35 rfl (lv_at hl 1 rfl) ?_
      refine lv_iconst (v := (5 : Int32)) hx hb dX9_press_36 rfl ?_
      obtain ⟨r11, μ11, h1, h⟩ := ob2_some h
      refine x_callV C0 (rest := []) (q := (RX9, TX9, 9)) (c_X9_finding l g (5 : Int32) μ1 h1) q2_122 q2_119 q2_121 r1_0 q1_1 hd_X9_finding ⟨rfl, rfl⟩ ⟨Nat.le_of_ble_eq_true rfl, Nat.le_of_ble_eq_true rfl⟩ cx_0 (by decide) rfl hP hS hl.1 rfl rfl (Nat.le_of_ble_eq_true rfl) dX9_press_37 (fun H locs hP hS => ?_)
      refine W.eq (g2 := F0 m 40 ls [.int r11]) rfl ?_
      obtain ⟨rfl, rfl⟩ := some2 h
      exact x_iret C0 hP hS dX9_press_40
  · rw [if_pos c2] at h
    refine lv_aload_n hx hb dX9_press_11 rfl (lv_at hl 0 rfl) ?_
    refine lv_iconst (v := (1 : Int32)) hx hb dX9_press_12 rfl ?_
    obtain ⟨r12, μ12, h1, h⟩ := ob2_some h
    refine x_callV C0 (rest := []) (q := (RX9, TX9, 9)) (c_X9_finding l g (1 : Int32) μ1 h1) q2_122 q2_119 q2_121 r1_0 q1_1 hd_X9_finding ⟨rfl, rfl⟩ ⟨Nat.le_of_ble_eq_true rfl, Nat.le_of_ble_eq_true rfl⟩ cx_0 (by decide) rfl hP hS hl.1 rfl rfl (Nat.le_of_ble_eq_true rfl) dX9_press_13 (fun H locs hP hS => ?_)
    refine W.eq (g2 := F0 m 16 ls [.int r12]) rfl ?_
    obtain ⟨rfl, rfl⟩ := some2 h
    exact x_iret C0 hP hS dX9_press_16
def X9_isOpening (x0 : Int32) (μ : Mem) : Option (Int32 × Mem) :=
  (if x0 < (0 : Int32) then some ((0 : Int32), μ) else (if (24 : Int32) < (x0 - x0 / (100 : Int32) * (100 : Int32)) then some ((0 : Int32), μ) else (if (x0 - x0 / (100 : Int32) * (100 : Int32)) ≤ (x0 / (100 : Int32)) then some ((0 : Int32), μ) else some ((1 : Int32), μ))))
set_option maxRecDepth 100000 in
set_option maxHeartbeats 4000000 in
theorem c_X9_isOpening (l : Launch) (g : Gx) (x0 : Int32) (μ : Mem) {r : Int32} {ν : Mem} (h : X9_isOpening x0 μ = some (r, ν)) : Ct Lx g l yX9_isOpening cX9_isOpening 1 (some .boolean) { frames := 0, cells := 0, slots := 0, locals := 0 } [.int x0] μ (some (.int r)) ν := by
  refine x_met (lv := [(0, .int x0)]) rfl (Nat.le_of_ble_eq_true rfl) rfl ?_
  intro p e s m below meth c C0 hP ls hl
  generalize ([.int x0] : List Value).toArray = args at C0 ⊢
  have C0 : Cx Lx g p s m args meth c cX9_isOpening 1 (some .boolean) RX9 := C0
  have hS : va_S (Ax Lx g) s.heap s.heap [] := va_S.rf
  obtain ⟨hx, hb, hr, hml, hown, hts, hlocks, hK⟩ := id C0
  unfold X9_isOpening at h
  skip
  refine lv_iload_n hx hb dX9_isOpening_0 rfl (lv_at hl 0 rfl) ?_
  refine lv_if_lt (tgt := 28) hx hb dX9_isOpening_1 (by decide) (fun c1 => ?_) (fun c1 => ?_)
  · rw [if_pos c1] at h
    refine lv_iconst (v := (0 : Int32)) hx hb dX9_isOpening_28 rfl ?_
    obtain ⟨rfl, rfl⟩ := some2 h
    exact x_zret C0 hP hS (by decide) dX9_isOpening_29
  · rw [if_neg c1] at h
    refine lv_iload_n hx hb dX9_isOpening_4 rfl (lv_at hl 0 rfl) ?_
    refine lv_bipush (v := (100 : Int32)) hx hb dX9_isOpening_5 (by decide +kernel) ?_
    refine lv_irem hx hb dX9_isOpening_7 (by decide) ?_
    refine lv_bipush (v := (24 : Int32)) hx hb dX9_isOpening_8 (by decide +kernel) ?_
    refine lv_icmp_gt (tgt := 28) hx hb dX9_isOpening_10 (by decide) (fun c2 => ?_) (fun c2 => ?_)
    · rw [if_pos c2] at h
      refine lv_iconst (v := (0 : Int32)) hx hb dX9_isOpening_28 rfl ?_
      obtain ⟨rfl, rfl⟩ := some2 h
      exact x_zret C0 hP hS (by decide) dX9_isOpening_29
    · rw [if_neg c2] at h
      refine lv_iload_n hx hb dX9_isOpening_13 rfl (lv_at hl 0 rfl) ?_
      refine lv_bipush (v := (100 : Int32)) hx hb dX9_isOpening_14 (by decide +kernel) ?_
      refine lv_idiv hx hb dX9_isOpening_16 (by decide) ?_
      refine lv_iload_n hx hb dX9_isOpening_17 rfl (lv_at hl 0 rfl) ?_
      refine lv_bipush (v := (100 : Int32)) hx hb dX9_isOpening_18 (by decide +kernel) ?_
      refine lv_irem hx hb dX9_isOpening_20 (by decide) ?_
      refine lv_icmp_ge (tgt := 28) hx hb dX9_isOpening_21 (by decide) (fun c3 => ?_) (fun c3 => ?_)
      · rw [if_pos c3] at h
        refine lv_iconst (v := (0 : Int32)) hx hb dX9_isOpening_28 rfl ?_
        obtain ⟨rfl, rfl⟩ := some2 h
        exact x_zret C0 hP hS (by decide) dX9_isOpening_29
      · rw [if_neg c3] at h
        refine lv_iconst (v := (1 : Int32)) hx hb dX9_isOpening_24 rfl ?_
        refine lv_goto (tgt := 29) hx hb dX9_isOpening_25 (by decide) ?_
        obtain ⟨rfl, rfl⟩ := some2 h
        exact x_zret C0 hP hS (by decide) dX9_isOpening_29
def X9_shop_14   (μ : Mem) : Option (Int32 × Mem) :=
  ob2 (X9_finding (1 : Int32) μ) fun r3 μ3 => some (r3, μ3)
set_option maxRecDepth 100000 in
set_option maxHeartbeats 4000000 in
theorem w_X9_shop_14 {g : Gx} {p : Program} {l : Launch} {e : Env} {s : State} {m : MethodId} {args : Array Value} {below : List Frame} {meth : Method} {c : Code} (C0 : Cx Lx g p s m args meth c cX9_shop 3 (some .int) RX9) {r : Int32} {ν : Mem}   (μ : Mem) (H : Heap) (locs : List Loc) (ls : Array Slot) (hP : Px Lx g μ H) (hS : va_S (Ax Lx g) s.heap H locs) (hl : lv_has ls 3 [(0, .ref (g.2.2.1 + 0))]) (h : X9_shop_14   μ = some (r, ν)) : W p l e { frames := 1, cells := 0, slots := 0, locals := 22 } s m args below meth c H locs 0 0 (MQ below (Qx Lx g (some (.int r)) ν) args s 0 0 (Ax Lx g)) (F0 m 14 ls []) := by
  obtain ⟨hx, hb, hr, hml, hown, hts, hlocks, hK⟩ := id C0
  unfold X9_shop_14 at h
  refine lv_aload_n hx hb dX9_shop_14 rfl (lv_at hl 0 rfl) ?_
  refine lv_iconst (v := (1 : Int32)) hx hb dX9_shop_15 rfl ?_
  obtain ⟨r3, μ3, h1, h⟩ := ob2_some h
  refine x_callV C0 (rest := []) (q := (RX9, TX9, 9)) (c_X9_finding l g (1 : Int32) μ h1) q2_122 q2_119 q2_121 r1_0 q1_1 hd_X9_finding ⟨rfl, rfl⟩ ⟨Nat.le_of_ble_eq_true rfl, Nat.le_of_ble_eq_true rfl⟩ cx_0 (by decide) rfl hP hS hl.1 rfl rfl (Nat.le_of_ble_eq_true rfl) dX9_shop_16 (fun H locs hP hS => ?_)
  refine W.eq (g2 := F0 m 19 ls [.int r3]) rfl ?_
  obtain ⟨rfl, rfl⟩ := some2 h
  exact x_iret C0 hP hS dX9_shop_19
def X9_shop (x1 : Int32) (x2 : Int32) (μ : Mem) : Option (Int32 × Mem) :=
  ob2 (X9_isPlace x1 μ) fun r1 μ1 => (if r1 = (0 : Int32) then X9_shop_14 μ1 else ob2 (X9_isOpening x2 μ1) fun r4 μ4 => (if r4 = (0 : Int32) then X9_shop_14 μ4 else (if (μ4 3 4) < (8 : Int32) then ob2 (X5_add x1 x2 μ4) fun r7 μ7 => some (r7, μ7) else ob2 (X9_finding (4 : Int32) μ4) fun r8 μ8 => some (r8, μ8))))
set_option maxRecDepth 100000 in
set_option maxHeartbeats 4000000 in
theorem c_X9_shop (l : Launch) (g : Gx) (x1 : Int32) (x2 : Int32) (μ : Mem) {r : Int32} {ν : Mem} (h : X9_shop x1 x2 μ = some (r, ν)) : Ct Lx g l yX9_shop cX9_shop 3 (some .int) { frames := 1, cells := 0, slots := 0, locals := 22 } [.ref (g.2.2.1 + 0), .int x1, .int x2] μ (some (.int r)) ν := by
  refine x_met (lv := [(0, .ref (g.2.2.1 + 0)), (1, .int x1), (2, .int x2)]) rfl (Nat.le_of_ble_eq_true rfl) rfl ?_
  intro p e s m below meth c C0 hP ls hl
  generalize ([.ref (g.2.2.1 + 0), .int x1, .int x2] : List Value).toArray = args at C0 ⊢
  have C0 : Cx Lx g p s m args meth c cX9_shop 3 (some .int) RX9 := C0
  have hS : va_S (Ax Lx g) s.heap s.heap [] := va_S.rf
  obtain ⟨hx, hb, hr, hml, hown, hts, hlocks, hK⟩ := id C0
  unfold X9_shop at h
  skip
  refine lv_iload_n hx hb dX9_shop_0 rfl (lv_at hl 1 rfl) ?_
  obtain ⟨r1, μ1, h1, h⟩ := ob2_some h
  refine x_callS C0 (rest := []) (c_X9_isPlace l g x1 μ h1) q2_118 q2_116 q2_117 q1_1 hd_X9_isPlace ⟨rfl, rfl⟩ ⟨Nat.le_of_ble_eq_true rfl, Nat.le_of_ble_eq_true rfl⟩ hP hS hl.1 rfl rfl (Nat.le_of_ble_eq_true rfl) dX9_shop_1 (fun H locs hP hS => ?_)
  refine W.eq (g2 := F0 m 4 ls [.int r1]) rfl ?_
  refine lv_if_eq (tgt := 14) hx hb dX9_shop_4 (by decide) (fun c2 => ?_) (fun c2 => ?_)
  · rw [if_pos c2] at h
    exact w_X9_shop_14 C0   μ1 _ _ _ hP hS (lv_sub hl [0] rfl) h
  · rw [if_neg c2] at h
    refine lv_iload_n hx hb dX9_shop_7 rfl (lv_at hl 2 rfl) ?_
    obtain ⟨r4, μ4, h1, h⟩ := ob2_some h
    refine x_callS C0 (rest := []) (c_X9_isOpening l g x2 μ1 h1) q2_235 q2_233 q2_234 q1_1 hd_X9_isOpening ⟨rfl, rfl⟩ ⟨Nat.le_of_ble_eq_true rfl, Nat.le_of_ble_eq_true rfl⟩ hP hS hl.1 rfl rfl (Nat.le_of_ble_eq_true rfl) dX9_shop_8 (fun H locs hP hS => ?_)
    refine W.eq (g2 := F0 m 11 ls [.int r4]) rfl ?_
    refine lv_if_ne (tgt := 20) hx hb dX9_shop_11 (by decide) (fun c5 => ?_) (fun c5 => ?_)
    · rw [if_neg c5] at h
      refine lv_aload_n hx hb dX9_shop_20 rfl (lv_at hl 0 rfl) ?_
      refine x_get C0 hP inu9 (k := 0) cx_0 (by decide) rfl 0 (by decide) q2_81 rfl (v := .ref (g.2.2.1 + 1)) rfl dX9_shop_21 ?_
      refine x_get C0 hP inu7 (k := 1) cx_1 (by decide) rfl 1 (by decide) q1_223 rfl (v := .ref (g.2.2.1 + 3)) rfl dX9_shop_24 ?_
      refine x_get C0 hP inu5 (k := 3) cx_3 (by decide) rfl 4 (by decide) q1_42 rfl (v := .int (μ4 3 4)) rfl dX9_shop_27 ?_
      refine lv_bipush (v := (8 : Int32)) hx hb dX9_shop_30 (by decide +kernel) ?_
      refine lv_icmp_lt (tgt := 41) hx hb dX9_shop_32 (by decide) (fun c6 => ?_) (fun c6 => ?_)
      · rw [if_pos c6] at h
        refine lv_aload_n hx hb dX9_shop_41 rfl (lv_at hl 0 rfl) ?_
        refine x_get C0 hP inu9 (k := 0) cx_0 (by decide) rfl 0 (by decide) q2_81 rfl (v := .ref (g.2.2.1 + 1)) rfl dX9_shop_42 ?_
        refine x_get C0 hP inu7 (k := 1) cx_1 (by decide) rfl 1 (by decide) q1_223 rfl (v := .ref (g.2.2.1 + 3)) rfl dX9_shop_45 ?_
        refine lv_iload_n hx hb dX9_shop_48 rfl (lv_at hl 1 rfl) ?_
        refine lv_iload_n hx hb dX9_shop_49 rfl (lv_at hl 2 rfl) ?_
        obtain ⟨r7, μ7, h1, h⟩ := ob2_some h
        refine x_callV C0 (rest := []) (q := (RX5, TX5, 5)) (c_X5_add l g x1 x2 μ4 h1) q2_239 q2_236 q2_237 q2_238 q1_3 hd_X5_add ⟨rfl, rfl⟩ ⟨Nat.le_of_ble_eq_true rfl, Nat.le_of_ble_eq_true rfl⟩ cx_3 (by decide) rfl hP hS hl.1 rfl rfl (Nat.le_of_ble_eq_true rfl) dX9_shop_50 (fun H locs hP hS => ?_)
        refine W.eq (g2 := F0 m 53 ls [.int r7]) rfl ?_
        obtain ⟨rfl, rfl⟩ := some2 h
        exact x_iret C0 hP hS dX9_shop_53
      · rw [if_neg c6] at h
        refine lv_aload_n hx hb dX9_shop_35 rfl (lv_at hl 0 rfl) ?_
        refine lv_iconst (v := (4 : Int32)) hx hb dX9_shop_36 rfl ?_
        obtain ⟨r8, μ8, h1, h⟩ := ob2_some h
        refine x_callV C0 (rest := []) (q := (RX9, TX9, 9)) (c_X9_finding l g (4 : Int32) μ4 h1) q2_122 q2_119 q2_121 r1_0 q1_1 hd_X9_finding ⟨rfl, rfl⟩ ⟨Nat.le_of_ble_eq_true rfl, Nat.le_of_ble_eq_true rfl⟩ cx_0 (by decide) rfl hP hS hl.1 rfl rfl (Nat.le_of_ble_eq_true rfl) dX9_shop_37 (fun H locs hP hS => ?_)
        refine W.eq (g2 := F0 m 40 ls [.int r8]) rfl ?_
        obtain ⟨rfl, rfl⟩ := some2 h
        exact x_iret C0 hP hS dX9_shop_40
    · rw [if_pos c5] at h
      exact w_X9_shop_14 C0   μ4 _ _ _ hP hS (lv_sub hl [0] rfl) h
def X9_nearest_18   (μ : Mem) : Option (Int32 × Mem) :=
  ob2 (X9_finding (1 : Int32) μ) fun r3 μ3 => some (r3, μ3)
set_option maxRecDepth 100000 in
set_option maxHeartbeats 4000000 in
theorem w_X9_nearest_18 {g : Gx} {p : Program} {l : Launch} {e : Env} {s : State} {m : MethodId} {args : Array Value} {below : List Frame} {meth : Method} {c : Code} (C0 : Cx Lx g p s m args meth c cX9_nearest 4 (some .int) RX9) {r : Int32} {ν : Mem}   (μ : Mem) (H : Heap) (locs : List Loc) (ls : Array Slot) (hP : Px Lx g μ H) (hS : va_S (Ax Lx g) s.heap H locs) (hl : lv_has ls 4 [(0, .ref (g.2.2.1 + 0))]) (h : X9_nearest_18   μ = some (r, ν)) : W p l e { frames := 3, cells := 0, slots := 0, locals := 67 } s m args below meth c H locs 0 0 (MQ below (Qx Lx g (some (.int r)) ν) args s 0 0 (Ax Lx g)) (F0 m 18 ls []) := by
  obtain ⟨hx, hb, hr, hml, hown, hts, hlocks, hK⟩ := id C0
  unfold X9_nearest_18 at h
  refine lv_aload_n hx hb dX9_nearest_18 rfl (lv_at hl 0 rfl) ?_
  refine lv_iconst (v := (1 : Int32)) hx hb dX9_nearest_19 rfl ?_
  obtain ⟨r3, μ3, h1, h⟩ := ob2_some h
  refine x_callV C0 (rest := []) (q := (RX9, TX9, 9)) (c_X9_finding l g (1 : Int32) μ h1) q2_122 q2_119 q2_121 r1_0 q1_1 hd_X9_finding ⟨rfl, rfl⟩ ⟨Nat.le_of_ble_eq_true rfl, Nat.le_of_ble_eq_true rfl⟩ cx_0 (by decide) rfl hP hS hl.1 rfl rfl (Nat.le_of_ble_eq_true rfl) dX9_nearest_20 (fun H locs hP hS => ?_)
  refine W.eq (g2 := F0 m 23 ls [.int r3]) rfl ?_
  obtain ⟨rfl, rfl⟩ := some2 h
  exact x_iret C0 hP hS dX9_nearest_23
def X9_nearest (x1 : Int32) (x2 : Int32) (μ : Mem) : Option (Int32 × Mem) :=
  ob2 (X7_hasMeter x1 μ) fun r1 μ1 => (if r1 = (0 : Int32) then X9_nearest_18 μ1 else ob2 (X9_isClock x2 μ1) fun r4 μ4 => (if r4 = (0 : Int32) then X9_nearest_18 μ4 else gd (inB x1 8) (ob2 (X5_leastFar (24 + 2 * x1.toNatClampNeg) x2 μ4) fun r7 μ7 => (if (0 : Int32) ≤ r7 then some (r7, μ7) else ob2 (X9_finding (2 : Int32) μ7) fun r9 μ9 => some (r9, μ9)))))
set_option maxRecDepth 100000 in
set_option maxHeartbeats 4000000 in
theorem c_X9_nearest (l : Launch) (g : Gx) (x1 : Int32) (x2 : Int32) (μ : Mem) {r : Int32} {ν : Mem} (h : X9_nearest x1 x2 μ = some (r, ν)) : Ct Lx g l yX9_nearest cX9_nearest 4 (some .int) { frames := 3, cells := 0, slots := 0, locals := 67 } [.ref (g.2.2.1 + 0), .int x1, .int x2] μ (some (.int r)) ν := by
  refine x_met (lv := [(0, .ref (g.2.2.1 + 0)), (1, .int x1), (2, .int x2)]) rfl (Nat.le_of_ble_eq_true rfl) rfl ?_
  intro p e s m below meth c C0 hP ls hl
  generalize ([.ref (g.2.2.1 + 0), .int x1, .int x2] : List Value).toArray = args at C0 ⊢
  have C0 : Cx Lx g p s m args meth c cX9_nearest 4 (some .int) RX9 := C0
  have hS : va_S (Ax Lx g) s.heap s.heap [] := va_S.rf
  obtain ⟨hx, hb, hr, hml, hown, hts, hlocks, hK⟩ := id C0
  unfold X9_nearest at h
  skip
  refine lv_aload_n hx hb dX9_nearest_0 rfl (lv_at hl 0 rfl) ?_
  refine x_get C0 hP inu9 (k := 0) cx_0 (by decide) rfl 0 (by decide) q2_81 rfl (v := .ref (g.2.2.1 + 1)) rfl dX9_nearest_1 ?_
  refine lv_iload_n hx hb dX9_nearest_4 rfl (lv_at hl 1 rfl) ?_
  obtain ⟨r1, μ1, h1, h⟩ := ob2_some h
  refine x_callV C0 (rest := []) (q := (RX7, TX7, 9)) (c_X7_hasMeter l g x1 μ h1) q2_143 q2_140 q2_141 q2_142 q1_2 hd_X7_hasMeter ⟨rfl, rfl⟩ ⟨Nat.le_of_ble_eq_true rfl, Nat.le_of_ble_eq_true rfl⟩ cx_1 (by decide) rfl hP hS hl.1 rfl rfl (Nat.le_of_ble_eq_true rfl) dX9_nearest_5 (fun H locs hP hS => ?_)
  refine W.eq (g2 := F0 m 8 ls [.int r1]) rfl ?_
  refine lv_if_eq (tgt := 18) hx hb dX9_nearest_8 (by decide) (fun c2 => ?_) (fun c2 => ?_)
  · rw [if_pos c2] at h
    exact w_X9_nearest_18 C0   μ1 _ _ _ hP hS (lv_sub hl [0] rfl) h
  · rw [if_neg c2] at h
    refine lv_iload_n hx hb dX9_nearest_11 rfl (lv_at hl 2 rfl) ?_
    obtain ⟨r4, μ4, h1, h⟩ := ob2_some h
    refine x_callS C0 (rest := []) (c_X9_isClock l g x2 μ1 h1) q2_174 q2_172 q2_173 q1_1 hd_X9_isClock ⟨rfl, rfl⟩ ⟨Nat.le_of_ble_eq_true rfl, Nat.le_of_ble_eq_true rfl⟩ hP hS hl.1 rfl rfl (Nat.le_of_ble_eq_true rfl) dX9_nearest_12 (fun H locs hP hS => ?_)
    refine W.eq (g2 := F0 m 15 ls [.int r4]) rfl ?_
    refine lv_if_ne (tgt := 24) hx hb dX9_nearest_15 (by decide) (fun c5 => ?_) (fun c5 => ?_)
    · rw [if_neg c5] at h
      refine lv_aload_n hx hb dX9_nearest_24 rfl (lv_at hl 0 rfl) ?_
      refine x_get C0 hP inu9 (k := 0) cx_0 (by decide) rfl 0 (by decide) q2_81 rfl (v := .ref (g.2.2.1 + 1)) rfl dX9_nearest_25 ?_
      refine x_get C0 hP inu7 (k := 1) cx_1 (by decide) rfl 1 (by decide) q1_223 rfl (v := .ref (g.2.2.1 + 3)) rfl dX9_nearest_28 ?_
      refine lv_aload_n hx hb dX9_nearest_31 rfl (lv_at hl 0 rfl) ?_
      refine x_get C0 hP inu9 (k := 0) cx_0 (by decide) rfl 0 (by decide) q2_81 rfl (v := .ref (g.2.2.1 + 1)) rfl dX9_nearest_32 ?_
      refine x_get C0 hP inu7 (k := 1) cx_1 (by decide) rfl 0 (by decide) q1_221 rfl (v := .ref (g.2.2.1 + 2)) rfl dX9_nearest_35 ?_
      refine lv_iload_n hx hb dX9_nearest_38 rfl (lv_at hl 1 rfl) ?_
      obtain ⟨z6, h⟩ := gd_some h
      refine x_maald C0 hP (k := 2) cx_2 (j := x1.toNatClampNeg) z6 rfl dX9_nearest_39 ?_
      refine W.eq (g2 := F0 m 40 ls [.ref (g.2.2.1 + (24 + 2 * x1.toNatClampNeg)), .ref (g.2.2.1 + 3)]) rfl ?_
      refine lv_iload_n hx hb dX9_nearest_40 rfl (lv_at hl 2 rfl) ?_
      obtain ⟨r7, μ7, h1, h⟩ := ob2_some h
      refine x_callV C0 (rest := []) (q := (RX5, TX5, 5)) (c_X5_leastFar l g (24 + 2 * x1.toNatClampNeg) (met_i z6) x2 μ4 h1) q3_7 q3_4 q3_5 q3_6 q1_3 hd_X5_leastFar ⟨rfl, rfl⟩ ⟨Nat.le_of_ble_eq_true rfl, Nat.le_of_ble_eq_true rfl⟩ cx_3 (by decide) rfl hP hS hl.1 rfl rfl (Nat.le_of_ble_eq_true rfl) dX9_nearest_41 (fun H locs hP hS => ?_)
      refine W.eq (g2 := F0 m 44 ls [.int r7]) rfl ?_
      refine lv_istore_n (lv' := [(3, .int r7), (0, .ref (g.2.2.1 + 0)), (1, .int x1), (2, .int x2)]) hx hb dX9_nearest_44 rfl hl (by decide) rfl (fun ls hl => ?_)
      refine lv_iload_n hx hb dX9_nearest_45 rfl (lv_at hl 0 rfl) ?_
      refine lv_if_ge (tgt := 57) hx hb dX9_nearest_46 (by decide) (fun c8 => ?_) (fun c8 => ?_)
      · rw [if_pos c8] at h
        refine lv_iload_n hx hb dX9_nearest_57 rfl (lv_at hl 0 rfl) ?_
        obtain ⟨rfl, rfl⟩ := some2 h
        exact x_iret C0 hP hS dX9_nearest_58
      · rw [if_neg c8] at h
        refine lv_aload_n hx hb dX9_nearest_49 rfl (lv_at hl 1 rfl) ?_
        refine lv_iconst (v := (2 : Int32)) hx hb dX9_nearest_50 rfl ?_
        obtain ⟨r9, μ9, h1, h⟩ := ob2_some h
        refine x_callV C0 (rest := []) (q := (RX9, TX9, 9)) (c_X9_finding l g (2 : Int32) μ7 h1) q2_122 q2_119 q2_121 r1_0 q1_1 hd_X9_finding ⟨rfl, rfl⟩ ⟨Nat.le_of_ble_eq_true rfl, Nat.le_of_ble_eq_true rfl⟩ cx_0 (by decide) rfl hP hS hl.1 rfl rfl (Nat.le_of_ble_eq_true rfl) dX9_nearest_51 (fun H locs hP hS => ?_)
        refine W.eq (g2 := F0 m 54 ls [.int r9]) rfl ?_
        refine lv_goto (tgt := 58) hx hb dX9_nearest_54 (by decide) ?_
        obtain ⟨rfl, rfl⟩ := some2 h
        exact x_iret C0 hP hS dX9_nearest_58
    · rw [if_pos c5] at h
      exact w_X9_nearest_18 C0   μ4 _ _ _ hP hS (lv_sub hl [0] rfl) h
def X9_top_37   (μ : Mem) : Option (Int32 × Mem) :=
  ob2 (X9_finding (1 : Int32) μ) fun r3 μ3 => some (r3, μ3)
set_option maxRecDepth 100000 in
set_option maxHeartbeats 4000000 in
theorem w_X9_top_37 {g : Gx} {p : Program} {l : Launch} {e : Env} {s : State} {m : MethodId} {args : Array Value} {below : List Frame} {meth : Method} {c : Code} (C0 : Cx Lx g p s m args meth c cX9_top 6 (some .int) RX9) {r : Int32} {ν : Mem}   (μ : Mem) (H : Heap) (locs : List Loc) (ls : Array Slot) (hP : Px Lx g μ H) (hS : va_S (Ax Lx g) s.heap H locs) (hl : lv_has ls 6 [(0, .ref (g.2.2.1 + 0))]) (h : X9_top_37   μ = some (r, ν)) : W p l e { frames := 4, cells := 0, slots := 0, locals := 100 } s m args below meth c H locs 0 0 (MQ below (Qx Lx g (some (.int r)) ν) args s 0 0 (Ax Lx g)) (F0 m 37 ls []) := by
  obtain ⟨hx, hb, hr, hml, hown, hts, hlocks, hK⟩ := id C0
  unfold X9_top_37 at h
  refine lv_aload_n hx hb dX9_top_37 rfl (lv_at hl 0 rfl) ?_
  refine lv_iconst (v := (1 : Int32)) hx hb dX9_top_38 rfl ?_
  obtain ⟨r3, μ3, h1, h⟩ := ob2_some h
  refine x_callV C0 (rest := []) (q := (RX9, TX9, 9)) (c_X9_finding l g (1 : Int32) μ h1) q2_122 q2_119 q2_121 r1_0 q1_1 hd_X9_finding ⟨rfl, rfl⟩ ⟨Nat.le_of_ble_eq_true rfl, Nat.le_of_ble_eq_true rfl⟩ cx_0 (by decide) rfl hP hS hl.1 rfl rfl (Nat.le_of_ble_eq_true rfl) dX9_top_39 (fun H locs hP hS => ?_)
  refine W.eq (g2 := F0 m 42 ls [.int r3]) rfl ?_
  obtain ⟨rfl, rfl⟩ := some2 h
  exact x_iret C0 hP hS dX9_top_42
def X9_top_108  (x1 : Int32) (x3 : Int32) (a4 : Nat) (μ : Mem) : Option (Int32 × Mem) :=
  ob2 (X7_topUp a4 (μ 1 8) x3 μ) fun r10 μ10 => ob (X6_add x1 (μ10 1 8) x3 r10 μ10) fun μ11 => some (r10, μ11)
set_option maxRecDepth 100000 in
set_option maxHeartbeats 4000000 in
theorem w_X9_top_108 {g : Gx} {p : Program} {l : Launch} {e : Env} {s : State} {m : MethodId} {args : Array Value} {below : List Frame} {meth : Method} {c : Code} (C0 : Cx Lx g p s m args meth c cX9_top 6 (some .int) RX9) {r : Int32} {ν : Mem}  (x1 : Int32) (x3 : Int32) (a4 : Nat) (ha4 : Id2 a4) (μ : Mem) (H : Heap) (locs : List Loc) (ls : Array Slot) (hP : Px Lx g μ H) (hS : va_S (Ax Lx g) s.heap H locs) (hl : lv_has ls 6 [(0, .ref (g.2.2.1 + 0)), (1, .int x1), (3, .int x3), (4, .ref (g.2.2.1 + a4))]) (h : X9_top_108  x1 x3 a4 μ = some (r, ν)) : W p l e { frames := 4, cells := 0, slots := 0, locals := 100 } s m args below meth c H locs 0 0 (MQ below (Qx Lx g (some (.int r)) ν) args s 0 0 (Ax Lx g)) (F0 m 108 ls []) := by
  obtain ⟨hx, hb, hr, hml, hown, hts, hlocks, hK⟩ := id C0
  unfold X9_top_108 at h
  refine lv_aload_n hx hb dX9_top_108 rfl (lv_at hl 0 rfl) ?_
  refine x_get C0 hP inu9 (k := 0) cx_0 (by decide) rfl 0 (by decide) q2_81 rfl (v := .ref (g.2.2.1 + 1)) rfl dX9_top_109 ?_
  refine lv_aload hx hb dX9_top_112 (lv_at hl 3 rfl) ?_
  refine lv_aload_n hx hb dX9_top_114 rfl (lv_at hl 0 rfl) ?_
  refine x_get C0 hP inu9 (k := 0) cx_0 (by decide) rfl 0 (by decide) q2_81 rfl (v := .ref (g.2.2.1 + 1)) rfl dX9_top_115 ?_
  refine x_get C0 hP inu7 (k := 1) cx_1 (by decide) rfl 8 (by decide) q1_237 rfl (v := .int (μ 1 8)) rfl dX9_top_118 ?_
  refine lv_iload_n hx hb dX9_top_121 rfl (lv_at hl 2 rfl) ?_
  obtain ⟨r10, μ10, h1, h⟩ := ob2_some h
  refine x_callV C0 (rest := []) (q := (RX7, TX7, 9)) (c_X7_topUp l g a4 ha4 (μ 1 8) x3 μ h1) q3_33 q3_30 q3_31 q3_32 q1_2 hd_X7_topUp ⟨rfl, rfl⟩ ⟨Nat.le_of_ble_eq_true rfl, Nat.le_of_ble_eq_true rfl⟩ cx_1 (by decide) rfl hP hS hl.1 rfl rfl (Nat.le_of_ble_eq_true rfl) dX9_top_122 (fun H locs hP hS => ?_)
  refine W.eq (g2 := F0 m 125 ls [.int r10]) rfl ?_
  refine lv_istore (lv' := [(5, .int r10), (0, .ref (g.2.2.1 + 0)), (1, .int x1), (3, .int x3), (4, .ref (g.2.2.1 + a4))]) hx hb dX9_top_125 hl (by decide) rfl (fun ls hl => ?_)
  refine lv_aload_n hx hb dX9_top_127 rfl (lv_at hl 1 rfl) ?_
  refine x_get C0 hP inu9 (k := 0) cx_0 (by decide) rfl 0 (by decide) q2_81 rfl (v := .ref (g.2.2.1 + 1)) rfl dX9_top_128 ?_
  refine x_get C0 hP inu7 (k := 1) cx_1 (by decide) rfl 4 (by decide) q1_229 rfl (v := .ref (g.2.2.1 + 19)) rfl dX9_top_131 ?_
  refine lv_iload_n hx hb dX9_top_134 rfl (lv_at hl 2 rfl) ?_
  refine lv_aload_n hx hb dX9_top_135 rfl (lv_at hl 1 rfl) ?_
  refine x_get C0 hP inu9 (k := 0) cx_0 (by decide) rfl 0 (by decide) q2_81 rfl (v := .ref (g.2.2.1 + 1)) rfl dX9_top_136 ?_
  refine x_get C0 hP inu7 (k := 1) cx_1 (by decide) rfl 8 (by decide) q1_237 rfl (v := .int (μ10 1 8)) rfl dX9_top_139 ?_
  refine lv_iload_n hx hb dX9_top_142 rfl (lv_at hl 3 rfl) ?_
  refine lv_iload hx hb dX9_top_143 (lv_at hl 0 rfl) ?_
  obtain ⟨μ11, h1, h⟩ := ob_some h
  refine x_callV C0 (rest := []) (q := (RX6, TX6, 6)) (c_X6_add l g x1 (μ10 1 8) x3 r10 μ10 h1) q3_49 q3_46 q3_47 q3_48 q1_6 hd_X6_add ⟨rfl, rfl⟩ ⟨Nat.le_of_ble_eq_true rfl, Nat.le_of_ble_eq_true rfl⟩ cx_19 (by decide) rfl hP hS hl.1 rfl rfl (Nat.le_of_ble_eq_true rfl) dX9_top_145 (fun H locs hP hS => ?_)
  refine W.eq (g2 := F0 m 148 ls []) rfl ?_
  refine lv_iload hx hb dX9_top_148 (lv_at hl 0 rfl) ?_
  obtain ⟨rfl, rfl⟩ := some2 h
  exact x_iret C0 hP hS dX9_top_150
def X9_top_73  (x1 : Int32) (x2 : Int32) (x3 : Int32) (a4 : Nat) (μ : Mem) : Option (Int32 × Mem) :=
  (if x2 = (-1 : Int32) then X9_top_108 x1 x3 a4 μ else ob2 (X5_isOpen x2 ((μ 1 8) - (μ 1 8) / (24 : Int32) * (24 : Int32)) μ) fun r12 μ12 => (if r12 = (0 : Int32) then ob2 (X9_finding (3 : Int32) μ12) fun r14 μ14 => some (r14, μ14) else X9_top_108 x1 x3 a4 μ12))
set_option maxRecDepth 100000 in
set_option maxHeartbeats 4000000 in
theorem w_X9_top_73 {g : Gx} {p : Program} {l : Launch} {e : Env} {s : State} {m : MethodId} {args : Array Value} {below : List Frame} {meth : Method} {c : Code} (C0 : Cx Lx g p s m args meth c cX9_top 6 (some .int) RX9) {r : Int32} {ν : Mem}  (x1 : Int32) (x2 : Int32) (x3 : Int32) (a4 : Nat) (ha4 : Id2 a4) (μ : Mem) (H : Heap) (locs : List Loc) (ls : Array Slot) (hP : Px Lx g μ H) (hS : va_S (Ax Lx g) s.heap H locs) (hl : lv_has ls 6 [(0, .ref (g.2.2.1 + 0)), (1, .int x1), (2, .int x2), (3, .int x3), (4, .ref (g.2.2.1 + a4))]) (h : X9_top_73  x1 x2 x3 a4 μ = some (r, ν)) : W p l e { frames := 4, cells := 0, slots := 0, locals := 100 } s m args below meth c H locs 0 0 (MQ below (Qx Lx g (some (.int r)) ν) args s 0 0 (Ax Lx g)) (F0 m 73 ls []) := by
  obtain ⟨hx, hb, hr, hml, hown, hts, hlocks, hK⟩ := id C0
  unfold X9_top_73 at h
  refine lv_iload_n hx hb dX9_top_73 rfl (lv_at hl 2 rfl) ?_
  refine lv_iconst (v := (-1 : Int32)) hx hb dX9_top_74 rfl ?_
  refine lv_icmp_eq (tgt := 108) hx hb dX9_top_75 (by decide) (fun c9 => ?_) (fun c9 => ?_)
  · rw [if_pos c9] at h
    exact w_X9_top_108 C0  x1 x3 a4 ha4 μ _ _ _ hP hS (lv_sub hl [0, 1, 3, 4] rfl) h
  · rw [if_neg c9] at h
    refine lv_aload_n hx hb dX9_top_78 rfl (lv_at hl 0 rfl) ?_
    refine x_get C0 hP inu9 (k := 0) cx_0 (by decide) rfl 0 (by decide) q2_81 rfl (v := .ref (g.2.2.1 + 1)) rfl dX9_top_79 ?_
    refine x_get C0 hP inu7 (k := 1) cx_1 (by decide) rfl 1 (by decide) q1_223 rfl (v := .ref (g.2.2.1 + 3)) rfl dX9_top_82 ?_
    refine lv_iload_n hx hb dX9_top_85 rfl (lv_at hl 2 rfl) ?_
    refine lv_aload_n hx hb dX9_top_86 rfl (lv_at hl 0 rfl) ?_
    refine x_get C0 hP inu9 (k := 0) cx_0 (by decide) rfl 0 (by decide) q2_81 rfl (v := .ref (g.2.2.1 + 1)) rfl dX9_top_87 ?_
    refine x_get C0 hP inu7 (k := 1) cx_1 (by decide) rfl 8 (by decide) q1_237 rfl (v := .int (μ 1 8)) rfl dX9_top_90 ?_
    refine lv_bipush (v := (24 : Int32)) hx hb dX9_top_93 (by decide +kernel) ?_
    refine lv_irem hx hb dX9_top_95 (by decide) ?_
    obtain ⟨r12, μ12, h1, h⟩ := ob2_some h
    refine x_callV C0 (rest := []) (q := (RX5, TX5, 5)) (c_X5_isOpen l g x2 ((μ 1 8) - (μ 1 8) / (24 : Int32) * (24 : Int32)) μ h1) q3_11 q3_29 q3_9 q3_10 q1_3 hd_X5_isOpen ⟨rfl, rfl⟩ ⟨Nat.le_of_ble_eq_true rfl, Nat.le_of_ble_eq_true rfl⟩ cx_3 (by decide) rfl hP hS hl.1 rfl rfl (Nat.le_of_ble_eq_true rfl) dX9_top_96 (fun H locs hP hS => ?_)
    refine W.eq (g2 := F0 m 99 ls [.int r12]) rfl ?_
    refine lv_if_ne (tgt := 108) hx hb dX9_top_99 (by decide) (fun c13 => ?_) (fun c13 => ?_)
    · rw [if_neg c13] at h
      exact w_X9_top_108 C0  x1 x3 a4 ha4 μ12 _ _ _ hP hS (lv_sub hl [0, 1, 3, 4] rfl) h
    · rw [if_pos c13] at h
      refine lv_aload_n hx hb dX9_top_102 rfl (lv_at hl 0 rfl) ?_
      refine lv_iconst (v := (3 : Int32)) hx hb dX9_top_103 rfl ?_
      obtain ⟨r14, μ14, h1, h⟩ := ob2_some h
      refine x_callV C0 (rest := []) (q := (RX9, TX9, 9)) (c_X9_finding l g (3 : Int32) μ12 h1) q2_122 q2_119 q2_121 r1_0 q1_1 hd_X9_finding ⟨rfl, rfl⟩ ⟨Nat.le_of_ble_eq_true rfl, Nat.le_of_ble_eq_true rfl⟩ cx_0 (by decide) rfl hP hS hl.1 rfl rfl (Nat.le_of_ble_eq_true rfl) dX9_top_104 (fun H locs hP hS => ?_)
      refine W.eq (g2 := F0 m 107 ls [.int r14]) rfl ?_
      obtain ⟨rfl, rfl⟩ := some2 h
      exact x_iret C0 hP hS dX9_top_107
def X9_top_30  (x1 : Int32) (x2 : Int32) (x3 : Int32) (μ : Mem) : Option (Int32 × Mem) :=
  ob2 (X9_isPence x3 μ) fun r5 μ5 => (if r5 = (0 : Int32) then X9_top_37 μ5 else gd (inB x1 8) ((if x2 = (-1 : Int32) then ob2 (X2_isSmart (24 + 2 * x1.toNatClampNeg) μ5) fun r15 μ15 => (if r15 = (0 : Int32) then ob2 (X9_finding (5 : Int32) μ15) fun r17 μ17 => some (r17, μ17) else X9_top_73 x1 x2 x3 (24 + 2 * x1.toNatClampNeg) μ15) else X9_top_73 x1 x2 x3 (24 + 2 * x1.toNatClampNeg) μ5)))
set_option maxRecDepth 100000 in
set_option maxHeartbeats 4000000 in
theorem w_X9_top_30 {g : Gx} {p : Program} {l : Launch} {e : Env} {s : State} {m : MethodId} {args : Array Value} {below : List Frame} {meth : Method} {c : Code} (C0 : Cx Lx g p s m args meth c cX9_top 6 (some .int) RX9) {r : Int32} {ν : Mem}  (x1 : Int32) (x2 : Int32) (x3 : Int32) (μ : Mem) (H : Heap) (locs : List Loc) (ls : Array Slot) (hP : Px Lx g μ H) (hS : va_S (Ax Lx g) s.heap H locs) (hl : lv_has ls 6 [(0, .ref (g.2.2.1 + 0)), (1, .int x1), (2, .int x2), (3, .int x3)]) (h : X9_top_30  x1 x2 x3 μ = some (r, ν)) : W p l e { frames := 4, cells := 0, slots := 0, locals := 100 } s m args below meth c H locs 0 0 (MQ below (Qx Lx g (some (.int r)) ν) args s 0 0 (Ax Lx g)) (F0 m 30 ls []) := by
  obtain ⟨hx, hb, hr, hml, hown, hts, hlocks, hK⟩ := id C0
  unfold X9_top_30 at h
  refine lv_iload_n hx hb dX9_top_30 rfl (lv_at hl 3 rfl) ?_
  obtain ⟨r5, μ5, h1, h⟩ := ob2_some h
  refine x_callS C0 (rest := []) (c_X9_isPence l g x3 μ h1) q2_181 q2_179 q2_180 q1_1 hd_X9_isPence ⟨rfl, rfl⟩ ⟨Nat.le_of_ble_eq_true rfl, Nat.le_of_ble_eq_true rfl⟩ hP hS hl.1 rfl rfl (Nat.le_of_ble_eq_true rfl) dX9_top_31 (fun H locs hP hS => ?_)
  refine W.eq (g2 := F0 m 34 ls [.int r5]) rfl ?_
  refine lv_if_ne (tgt := 43) hx hb dX9_top_34 (by decide) (fun c6 => ?_) (fun c6 => ?_)
  · rw [if_neg c6] at h
    refine lv_aload_n hx hb dX9_top_43 rfl (lv_at hl 0 rfl) ?_
    refine x_get C0 hP inu9 (k := 0) cx_0 (by decide) rfl 0 (by decide) q2_81 rfl (v := .ref (g.2.2.1 + 1)) rfl dX9_top_44 ?_
    refine x_get C0 hP inu7 (k := 1) cx_1 (by decide) rfl 0 (by decide) q1_221 rfl (v := .ref (g.2.2.1 + 2)) rfl dX9_top_47 ?_
    refine lv_iload_n hx hb dX9_top_50 rfl (lv_at hl 1 rfl) ?_
    obtain ⟨z7, h⟩ := gd_some h
    refine x_maald C0 hP (k := 2) cx_2 (j := x1.toNatClampNeg) z7 rfl dX9_top_51 ?_
    refine W.eq (g2 := F0 m 52 ls [.ref (g.2.2.1 + (24 + 2 * x1.toNatClampNeg))]) rfl ?_
    refine lv_astore (lv' := [(4, .ref (g.2.2.1 + (24 + 2 * x1.toNatClampNeg))), (0, .ref (g.2.2.1 + 0)), (1, .int x1), (2, .int x2), (3, .int x3)]) hx hb dX9_top_52 hl (by decide) rfl (fun ls hl => ?_)
    refine lv_iload_n hx hb dX9_top_54 rfl (lv_at hl 3 rfl) ?_
    refine lv_iconst (v := (-1 : Int32)) hx hb dX9_top_55 rfl ?_
    refine lv_icmp_ne (tgt := 73) hx hb dX9_top_56 (by decide) (fun c8 => ?_) (fun c8 => ?_)
    · rw [if_neg c8] at h
      exact w_X9_top_73 C0  x1 x2 x3 (24 + 2 * x1.toNatClampNeg) (met_i z7) μ5 _ _ _ hP hS (lv_sub hl [1, 2, 3, 4, 0] rfl) h
    · rw [if_pos c8] at h
      refine lv_aload hx hb dX9_top_59 (lv_at hl 0 rfl) ?_
      obtain ⟨r15, μ15, h1, h⟩ := ob2_some h
      refine x_callV C0 (rest := []) (q := (RX2, TX2, 15)) (c_X2_isSmart l g (24 + 2 * x1.toNatClampNeg) (met_i z7) μ5 h1) q2_163 q3_28 q2_161 q2_162 q1_7 hd_X2_isSmart ⟨rfl, rfl⟩ ⟨Nat.le_of_ble_eq_true rfl, Nat.le_of_ble_eq_true rfl⟩ (id2_0 (met_i z7)) (by decide) rfl hP hS hl.1 rfl rfl (Nat.le_of_ble_eq_true rfl) dX9_top_61 (fun H locs hP hS => ?_)
      refine W.eq (g2 := F0 m 64 ls [.int r15]) rfl ?_
      refine lv_if_ne (tgt := 73) hx hb dX9_top_64 (by decide) (fun c16 => ?_) (fun c16 => ?_)
      · rw [if_neg c16] at h
        exact w_X9_top_73 C0  x1 x2 x3 (24 + 2 * x1.toNatClampNeg) (met_i z7) μ15 _ _ _ hP hS (lv_sub hl [1, 2, 3, 4, 0] rfl) h
      · rw [if_pos c16] at h
        refine lv_aload_n hx hb dX9_top_67 rfl (lv_at hl 1 rfl) ?_
        refine lv_iconst (v := (5 : Int32)) hx hb dX9_top_68 rfl ?_
        obtain ⟨r17, μ17, h1, h⟩ := ob2_some h
        refine x_callV C0 (rest := []) (q := (RX9, TX9, 9)) (c_X9_finding l g (5 : Int32) μ15 h1) q2_122 q2_119 q2_121 r1_0 q1_1 hd_X9_finding ⟨rfl, rfl⟩ ⟨Nat.le_of_ble_eq_true rfl, Nat.le_of_ble_eq_true rfl⟩ cx_0 (by decide) rfl hP hS hl.1 rfl rfl (Nat.le_of_ble_eq_true rfl) dX9_top_69 (fun H locs hP hS => ?_)
        refine W.eq (g2 := F0 m 72 ls [.int r17]) rfl ?_
        obtain ⟨rfl, rfl⟩ := some2 h
        exact x_iret C0 hP hS dX9_top_72
  · rw [if_pos c6] at h
    exact w_X9_top_37 C0   μ5 _ _ _ hP hS (lv_sub hl [0] rfl) h
def X9_top (x1 : Int32) (x2 : Int32) (x3 : Int32) (μ : Mem) : Option (Int32 × Mem) :=
  ob2 (X7_hasMeter x1 μ) fun r1 μ1 => (if r1 = (0 : Int32) then X9_top_37 μ1 else (if x2 = (-1 : Int32) then X9_top_30 x1 x2 x3 μ1 else ob2 (X5_has x2 μ1) fun r18 μ18 => (if r18 = (0 : Int32) then X9_top_37 μ18 else X9_top_30 x1 x2 x3 μ18)))
set_option maxRecDepth 100000 in
set_option maxHeartbeats 4000000 in
theorem c_X9_top (l : Launch) (g : Gx) (x1 : Int32) (x2 : Int32) (x3 : Int32) (μ : Mem) {r : Int32} {ν : Mem} (h : X9_top x1 x2 x3 μ = some (r, ν)) : Ct Lx g l yX9_top cX9_top 6 (some .int) { frames := 4, cells := 0, slots := 0, locals := 100 } [.ref (g.2.2.1 + 0), .int x1, .int x2, .int x3] μ (some (.int r)) ν := by
  refine x_met (lv := [(0, .ref (g.2.2.1 + 0)), (1, .int x1), (2, .int x2), (3, .int x3)]) rfl (Nat.le_of_ble_eq_true rfl) rfl ?_
  intro p e s m below meth c C0 hP ls hl
  generalize ([.ref (g.2.2.1 + 0), .int x1, .int x2, .int x3] : List Value).toArray = args at C0 ⊢
  have C0 : Cx Lx g p s m args meth c cX9_top 6 (some .int) RX9 := C0
  have hS : va_S (Ax Lx g) s.heap s.heap [] := va_S.rf
  obtain ⟨hx, hb, hr, hml, hown, hts, hlocks, hK⟩ := id C0
  unfold X9_top at h
  skip
  refine lv_aload_n hx hb dX9_top_0 rfl (lv_at hl 0 rfl) ?_
  refine x_get C0 hP inu9 (k := 0) cx_0 (by decide) rfl 0 (by decide) q2_81 rfl (v := .ref (g.2.2.1 + 1)) rfl dX9_top_1 ?_
  refine lv_iload_n hx hb dX9_top_4 rfl (lv_at hl 1 rfl) ?_
  obtain ⟨r1, μ1, h1, h⟩ := ob2_some h
  refine x_callV C0 (rest := []) (q := (RX7, TX7, 9)) (c_X7_hasMeter l g x1 μ h1) q2_143 q2_140 q2_141 q2_142 q1_2 hd_X7_hasMeter ⟨rfl, rfl⟩ ⟨Nat.le_of_ble_eq_true rfl, Nat.le_of_ble_eq_true rfl⟩ cx_1 (by decide) rfl hP hS hl.1 rfl rfl (Nat.le_of_ble_eq_true rfl) dX9_top_5 (fun H locs hP hS => ?_)
  refine W.eq (g2 := F0 m 8 ls [.int r1]) rfl ?_
  refine lv_if_eq (tgt := 37) hx hb dX9_top_8 (by decide) (fun c2 => ?_) (fun c2 => ?_)
  · rw [if_pos c2] at h
    exact w_X9_top_37 C0   μ1 _ _ _ hP hS (lv_sub hl [0] rfl) h
  · rw [if_neg c2] at h
    refine lv_iload_n hx hb dX9_top_11 rfl (lv_at hl 2 rfl) ?_
    refine lv_iconst (v := (-1 : Int32)) hx hb dX9_top_12 rfl ?_
    refine lv_icmp_eq (tgt := 30) hx hb dX9_top_13 (by decide) (fun c4 => ?_) (fun c4 => ?_)
    · rw [if_pos c4] at h
      exact w_X9_top_30 C0  x1 x2 x3 μ1 _ _ _ hP hS (lv_sub hl [0, 1, 2, 3] rfl) h
    · rw [if_neg c4] at h
      refine lv_aload_n hx hb dX9_top_16 rfl (lv_at hl 0 rfl) ?_
      refine x_get C0 hP inu9 (k := 0) cx_0 (by decide) rfl 0 (by decide) q2_81 rfl (v := .ref (g.2.2.1 + 1)) rfl dX9_top_17 ?_
      refine x_get C0 hP inu7 (k := 1) cx_1 (by decide) rfl 1 (by decide) q1_223 rfl (v := .ref (g.2.2.1 + 3)) rfl dX9_top_20 ?_
      refine lv_iload_n hx hb dX9_top_23 rfl (lv_at hl 2 rfl) ?_
      obtain ⟨r18, μ18, h1, h⟩ := ob2_some h
      refine x_callV C0 (rest := []) (q := (RX5, TX5, 5)) (c_X5_has l g x2 μ1 h1) q3_15 q3_27 q3_13 q3_14 q1_3 hd_X5_has ⟨rfl, rfl⟩ ⟨Nat.le_of_ble_eq_true rfl, Nat.le_of_ble_eq_true rfl⟩ cx_3 (by decide) rfl hP hS hl.1 rfl rfl (Nat.le_of_ble_eq_true rfl) dX9_top_24 (fun H locs hP hS => ?_)
      refine W.eq (g2 := F0 m 27 ls [.int r18]) rfl ?_
      refine lv_if_eq (tgt := 37) hx hb dX9_top_27 (by decide) (fun c19 => ?_) (fun c19 => ?_)
      · rw [if_pos c19] at h
        exact w_X9_top_37 C0   μ18 _ _ _ hP hS (lv_sub hl [0] rfl) h
      · rw [if_neg c19] at h
        exact w_X9_top_30 C0  x1 x2 x3 μ18 _ _ _ hP hS (lv_sub hl [0, 1, 2, 3] rfl) h
def X9_feed_11   (μ : Mem) : Option (Int32 × Mem) :=
  ob2 (X9_finding (1 : Int32) μ) fun r2 μ2 => some (r2, μ2)
set_option maxRecDepth 100000 in
set_option maxHeartbeats 4000000 in
theorem w_X9_feed_11 {g : Gx} {p : Program} {l : Launch} {e : Env} {s : State} {m : MethodId} {args : Array Value} {below : List Frame} {meth : Method} {c : Code} (C0 : Cx Lx g p s m args meth c cX9_feed 5 (some .int) RX9) {r : Int32} {ν : Mem}   (μ : Mem) (H : Heap) (locs : List Loc) (ls : Array Slot) (hP : Px Lx g μ H) (hS : va_S (Ax Lx g) s.heap H locs) (hl : lv_has ls 5 [(0, .ref (g.2.2.1 + 0))]) (h : X9_feed_11   μ = some (r, ν)) : W p l e { frames := 1, cells := 0, slots := 0, locals := 21 } s m args below meth c H locs 0 0 (MQ below (Qx Lx g (some (.int r)) ν) args s 0 0 (Ax Lx g)) (F0 m 11 ls []) := by
  obtain ⟨hx, hb, hr, hml, hown, hts, hlocks, hK⟩ := id C0
  unfold X9_feed_11 at h
  refine lv_aload_n hx hb dX9_feed_11 rfl (lv_at hl 0 rfl) ?_
  refine lv_iconst (v := (1 : Int32)) hx hb dX9_feed_12 rfl ?_
  obtain ⟨r2, μ2, h1, h⟩ := ob2_some h
  refine x_callV C0 (rest := []) (q := (RX9, TX9, 9)) (c_X9_finding l g (1 : Int32) μ h1) q2_122 q2_119 q2_121 r1_0 q1_1 hd_X9_finding ⟨rfl, rfl⟩ ⟨Nat.le_of_ble_eq_true rfl, Nat.le_of_ble_eq_true rfl⟩ cx_0 (by decide) rfl hP hS hl.1 rfl rfl (Nat.le_of_ble_eq_true rfl) dX9_feed_13 (fun H locs hP hS => ?_)
  refine W.eq (g2 := F0 m 16 ls [.int r2]) rfl ?_
  obtain ⟨rfl, rfl⟩ := some2 h
  exact x_iret C0 hP hS dX9_feed_16
def X9_feed_40  : Nat → Int64 → Int32 → Int32 → Mem → Option (Int32 × Mem)
  | 0, _, _, _, _ => none
  | n + 1, w1, x3, x4, μ => (if x3 ≤ x4 then lt (st μ 1 7 ((μ 1 7) + x3)) fun μ6 => some ((μ6 1 7), μ6) else gd (inB ((μ 1 7) + x4) 60) (lt (st μ 23 ((μ 1 7) + x4).toNatClampNeg (w1 >>> (((8 : Int32) * x4).toInt64 &&& 63)).toInt32.toInt8.toInt32) fun μ8 => (X9_feed_40 n) w1 x3 (x4 + (1 : Int32)) μ8))
set_option maxRecDepth 100000 in
set_option maxHeartbeats 4000000 in
theorem w_X9_feed_40 {g : Gx} {p : Program} {l : Launch} {e : Env} {s : State} {m : MethodId} {args : Array Value} {below : List Frame} {meth : Method} {c : Code} (C0 : Cx Lx g p s m args meth c cX9_feed 5 (some .int) RX9) {r : Int32} {ν : Mem}  (n : Nat) : ∀ (w1 : Int64) (x3 : Int32) (x4 : Int32) (μ : Mem) (H : Heap) (locs : List Loc) (ls : Array Slot), Px Lx g μ H → va_S (Ax Lx g) s.heap H locs → lv_has ls 5 [(0, .ref (g.2.2.1 + 0)), (1, .long w1), (3, .int x3), (4, .int x4)] → X9_feed_40  n w1 x3 x4 μ = some (r, ν) → W p l e { frames := 1, cells := 0, slots := 0, locals := 21 } s m args below meth c H locs 0 0 (MQ below (Qx Lx g (some (.int r)) ν) args s 0 0 (Ax Lx g)) (F0 m 40 ls []) := by
  obtain ⟨hx, hb, hr, hml, hown, hts, hlocks, hK⟩ := id C0
  induction n with
  | zero =>
    intro w1 x3 x4 μ H locs ls hP hS hl h
    have h : (none : Option (Int32 × Mem)) = some (r, ν) := h
    cases h
  | succ n ih =>
    intro w1 x3 x4 μ H locs ls hP hS hl h
    rw [X9_feed_40.eq_2] at h
    refine lv_iload hx hb dX9_feed_40 (lv_at hl 3 rfl) ?_
    refine lv_iload_n hx hb dX9_feed_42 rfl (lv_at hl 2 rfl) ?_
    refine lv_icmp_ge (tgt := 79) hx hb dX9_feed_43 (by decide) (fun c5 => ?_) (fun c5 => ?_)
    · rw [if_pos c5] at h
      refine lv_aload_n hx hb dX9_feed_79 rfl (lv_at hl 0 rfl) ?_
      refine x_get C0 hP inu9 (k := 0) cx_0 (by decide) rfl 0 (by decide) q2_81 rfl (v := .ref (g.2.2.1 + 1)) rfl dX9_feed_80 ?_
      refine lv_dup hx hb dX9_feed_83 rfl ?_
      refine x_get C0 hP inu7 (k := 1) cx_1 (by decide) rfl 7 (by decide) q1_235 rfl (v := .int (μ 1 7)) rfl dX9_feed_84 ?_
      refine lv_iload_n hx hb dX9_feed_87 rfl (lv_at hl 2 rfl) ?_
      refine lv_iadd hx hb dX9_feed_88 ?_
      obtain ⟨μ6, e6, h⟩ := lt_some h
      refine x_put C0 hP hS inu7 tyX7 tyX7_ok nmX7 (k := 1) cx_1 (by decide) rfl 7 (by decide) q1_235 rfl rfl (v := .int ((μ 1 7) + x3)) (x := ((μ 1 7) + x3)) rfl rfl (Nat.le_of_ble_eq_true rfl) (os_7_7 _ _ _ _) dX9_feed_89 (fun H locs hP hS => ?_)
      rw [← e6] at hP
      refine lv_aload_n hx hb dX9_feed_92 rfl (lv_at hl 0 rfl) ?_
      refine x_get C0 hP inu9 (k := 0) cx_0 (by decide) rfl 0 (by decide) q2_81 rfl (v := .ref (g.2.2.1 + 1)) rfl dX9_feed_93 ?_
      refine x_get C0 hP inu7 (k := 1) cx_1 (by decide) rfl 7 (by decide) q1_235 rfl (v := .int (μ6 1 7)) rfl dX9_feed_96 ?_
      obtain ⟨rfl, rfl⟩ := some2 h
      exact x_iret C0 hP hS dX9_feed_99
    · rw [if_neg c5] at h
      refine lv_aload_n hx hb dX9_feed_46 rfl (lv_at hl 0 rfl) ?_
      refine x_get C0 hP inu9 (k := 0) cx_0 (by decide) rfl 0 (by decide) q2_81 rfl (v := .ref (g.2.2.1 + 1)) rfl dX9_feed_47 ?_
      refine x_get C0 hP inu7 (k := 1) cx_1 (by decide) rfl 5 (by decide) q1_231 rfl (v := .ref (g.2.2.1 + 23)) rfl dX9_feed_50 ?_
      refine lv_aload_n hx hb dX9_feed_53 rfl (lv_at hl 0 rfl) ?_
      refine x_get C0 hP inu9 (k := 0) cx_0 (by decide) rfl 0 (by decide) q2_81 rfl (v := .ref (g.2.2.1 + 1)) rfl dX9_feed_54 ?_
      refine x_get C0 hP inu7 (k := 1) cx_1 (by decide) rfl 7 (by decide) q1_235 rfl (v := .int (μ 1 7)) rfl dX9_feed_57 ?_
      refine lv_iload hx hb dX9_feed_60 (lv_at hl 3 rfl) ?_
      refine lv_iadd hx hb dX9_feed_62 ?_
      refine lv_lload_n hx hb dX9_feed_63 rfl (lv_at hl 1 rfl) ?_
      refine lv_bipush (v := (8 : Int32)) hx hb dX9_feed_64 (by decide +kernel) ?_
      refine lv_iload hx hb dX9_feed_66 (lv_at hl 3 rfl) ?_
      refine lv_imul hx hb dX9_feed_68 ?_
      refine lv_lshr (v := (w1 >>> (((8 : Int32) * x4).toInt64 &&& 63))) hx hb dX9_feed_69 rfl ?_
      refine lv_l2i (v := (w1 >>> (((8 : Int32) * x4).toInt64 &&& 63)).toInt32) hx hb dX9_feed_70 rfl ?_
      refine lv_i2b (v := (w1 >>> (((8 : Int32) * x4).toInt64 &&& 63)).toInt32.toInt8.toInt32) hx hb dX9_feed_71 rfl ?_
      obtain ⟨z7, h⟩ := gd_some h
      obtain ⟨μ8, e8, h⟩ := lt_some h
      refine x_bast C0 hP hS (k := 23) cx_23 (j := ((μ 1 7) + x4).toNatClampNeg) z7 rfl dX9_feed_72 (fun H locs hP hS => ?_)
      rw [← e8] at hP
      refine lv_iinc (v := (x4 + (1 : Int32))) (lv' := [(4, .int (x4 + (1 : Int32))), (0, .ref (g.2.2.1 + 0)), (1, .long w1), (3, .int x3)]) hx hb dX9_feed_73 hl (k := 3) rfl rfl (by decide) rfl (fun ls hl => ?_)
      refine lv_goto (tgt := 40) hx hb dX9_feed_76 (by decide) ?_
      exact ih w1 x3 (x4 + (1 : Int32)) μ8 _ _ _ hP hS (lv_sub hl [1, 2, 3, 0] rfl) h
def X9_feed (w1 : Int64) (x3 : Int32) (μ : Mem) : Option (Int32 × Mem) :=
  (if x3 < (1 : Int32) then X9_feed_11 μ else (if x3 ≤ (8 : Int32) then (if ((μ 1 7) + x3) ≤ (60 : Int32) then X9_feed_40 FU w1 x3 (0 : Int32) μ else ob2 (X9_finding (4 : Int32) μ) fun r9 μ9 => some (r9, μ9)) else X9_feed_11 μ))
set_option maxRecDepth 100000 in
set_option maxHeartbeats 4000000 in
theorem c_X9_feed (l : Launch) (g : Gx) (w1 : Int64) (x3 : Int32) (μ : Mem) {r : Int32} {ν : Mem} (h : X9_feed w1 x3 μ = some (r, ν)) : Ct Lx g l yX9_feed cX9_feed 5 (some .int) { frames := 1, cells := 0, slots := 0, locals := 21 } [.ref (g.2.2.1 + 0), .long w1, .int x3] μ (some (.int r)) ν := by
  refine x_met (lv := [(0, .ref (g.2.2.1 + 0)), (1, .long w1), (3, .int x3)]) rfl (Nat.le_of_ble_eq_true rfl) rfl ?_
  intro p e s m below meth c C0 hP ls hl
  generalize ([.ref (g.2.2.1 + 0), .long w1, .int x3] : List Value).toArray = args at C0 ⊢
  have C0 : Cx Lx g p s m args meth c cX9_feed 5 (some .int) RX9 := C0
  have hS : va_S (Ax Lx g) s.heap s.heap [] := va_S.rf
  obtain ⟨hx, hb, hr, hml, hown, hts, hlocks, hK⟩ := id C0
  unfold X9_feed at h
  skip
  refine lv_iload_n hx hb dX9_feed_0 rfl (lv_at hl 2 rfl) ?_
  refine lv_iconst (v := (1 : Int32)) hx hb dX9_feed_1 rfl ?_
  refine lv_icmp_lt (tgt := 11) hx hb dX9_feed_2 (by decide) (fun c1 => ?_) (fun c1 => ?_)
  · rw [if_pos c1] at h
    exact w_X9_feed_11 C0   μ _ _ _ hP hS (lv_sub hl [0] rfl) h
  · rw [if_neg c1] at h
    refine lv_iload_n hx hb dX9_feed_5 rfl (lv_at hl 2 rfl) ?_
    refine lv_bipush (v := (8 : Int32)) hx hb dX9_feed_6 (by decide +kernel) ?_
    refine lv_icmp_le (tgt := 17) hx hb dX9_feed_8 (by decide) (fun c3 => ?_) (fun c3 => ?_)
    · rw [if_pos c3] at h
      refine lv_aload_n hx hb dX9_feed_17 rfl (lv_at hl 0 rfl) ?_
      refine x_get C0 hP inu9 (k := 0) cx_0 (by decide) rfl 0 (by decide) q2_81 rfl (v := .ref (g.2.2.1 + 1)) rfl dX9_feed_18 ?_
      refine x_get C0 hP inu7 (k := 1) cx_1 (by decide) rfl 7 (by decide) q1_235 rfl (v := .int (μ 1 7)) rfl dX9_feed_21 ?_
      refine lv_iload_n hx hb dX9_feed_24 rfl (lv_at hl 2 rfl) ?_
      refine lv_iadd hx hb dX9_feed_25 ?_
      refine lv_bipush (v := (60 : Int32)) hx hb dX9_feed_26 (by decide +kernel) ?_
      refine lv_icmp_le (tgt := 37) hx hb dX9_feed_28 (by decide) (fun c4 => ?_) (fun c4 => ?_)
      · rw [if_pos c4] at h
        refine lv_iconst (v := (0 : Int32)) hx hb dX9_feed_37 rfl ?_
        refine lv_istore (lv' := [(4, .int (0 : Int32)), (0, .ref (g.2.2.1 + 0)), (1, .long w1), (3, .int x3)]) hx hb dX9_feed_38 hl (by decide) rfl (fun ls hl => ?_)
        exact w_X9_feed_40 C0  FU w1 x3 (0 : Int32) μ _ _ _ hP hS (lv_sub hl [1, 2, 3, 0] rfl) h
      · rw [if_neg c4] at h
        refine lv_aload_n hx hb dX9_feed_31 rfl (lv_at hl 0 rfl) ?_
        refine lv_iconst (v := (4 : Int32)) hx hb dX9_feed_32 rfl ?_
        obtain ⟨r9, μ9, h1, h⟩ := ob2_some h
        refine x_callV C0 (rest := []) (q := (RX9, TX9, 9)) (c_X9_finding l g (4 : Int32) μ h1) q2_122 q2_119 q2_121 r1_0 q1_1 hd_X9_finding ⟨rfl, rfl⟩ ⟨Nat.le_of_ble_eq_true rfl, Nat.le_of_ble_eq_true rfl⟩ cx_0 (by decide) rfl hP hS hl.1 rfl rfl (Nat.le_of_ble_eq_true rfl) dX9_feed_33 (fun H locs hP hS => ?_)
        refine W.eq (g2 := F0 m 36 ls [.int r9]) rfl ?_
        obtain ⟨rfl, rfl⟩ := some2 h
        exact x_iret C0 hP hS dX9_feed_36
    · rw [if_neg c3] at h
      exact w_X9_feed_11 C0   μ _ _ _ hP hS (lv_sub hl [0] rfl) h
def X9_isUse (x0 : Int32) (μ : Mem) : Option (Int32 × Mem) :=
  (if x0 < (0 : Int32) then some ((0 : Int32), μ) else (if (4 : Int32) ≤ x0 then some ((0 : Int32), μ) else some ((1 : Int32), μ)))
set_option maxRecDepth 100000 in
set_option maxHeartbeats 4000000 in
theorem c_X9_isUse (l : Launch) (g : Gx) (x0 : Int32) (μ : Mem) {r : Int32} {ν : Mem} (h : X9_isUse x0 μ = some (r, ν)) : Ct Lx g l yX9_isUse cX9_isUse 1 (some .boolean) { frames := 0, cells := 0, slots := 0, locals := 0 } [.int x0] μ (some (.int r)) ν := by
  refine x_met (lv := [(0, .int x0)]) rfl (Nat.le_of_ble_eq_true rfl) rfl ?_
  intro p e s m below meth c C0 hP ls hl
  generalize ([.int x0] : List Value).toArray = args at C0 ⊢
  have C0 : Cx Lx g p s m args meth c cX9_isUse 1 (some .boolean) RX9 := C0
  have hS : va_S (Ax Lx g) s.heap s.heap [] := va_S.rf
  obtain ⟨hx, hb, hr, hml, hown, hts, hlocks, hK⟩ := id C0
  unfold X9_isUse at h
  skip
  refine lv_iload_n hx hb dX9_isUse_0 rfl (lv_at hl 0 rfl) ?_
  refine lv_if_lt (tgt := 13) hx hb dX9_isUse_1 (by decide) (fun c1 => ?_) (fun c1 => ?_)
  · rw [if_pos c1] at h
    refine lv_iconst (v := (0 : Int32)) hx hb dX9_isUse_13 rfl ?_
    obtain ⟨rfl, rfl⟩ := some2 h
    exact x_zret C0 hP hS (by decide) dX9_isUse_14
  · rw [if_neg c1] at h
    refine lv_iload_n hx hb dX9_isUse_4 rfl (lv_at hl 0 rfl) ?_
    refine lv_iconst (v := (4 : Int32)) hx hb dX9_isUse_5 rfl ?_
    refine lv_icmp_ge (tgt := 13) hx hb dX9_isUse_6 (by decide) (fun c2 => ?_) (fun c2 => ?_)
    · rw [if_pos c2] at h
      refine lv_iconst (v := (0 : Int32)) hx hb dX9_isUse_13 rfl ?_
      obtain ⟨rfl, rfl⟩ := some2 h
      exact x_zret C0 hP hS (by decide) dX9_isUse_14
    · rw [if_neg c2] at h
      refine lv_iconst (v := (1 : Int32)) hx hb dX9_isUse_9 rfl ?_
      refine lv_goto (tgt := 14) hx hb dX9_isUse_10 (by decide) ?_
      obtain ⟨rfl, rfl⟩ := some2 h
      exact x_zret C0 hP hS (by decide) dX9_isUse_14
def X9_isHour (x0 : Int32) (μ : Mem) : Option (Int32 × Mem) :=
  (if x0 < (0 : Int32) then some ((0 : Int32), μ) else (if (9000 : Int32) < x0 then some ((0 : Int32), μ) else some ((1 : Int32), μ)))
set_option maxRecDepth 100000 in
set_option maxHeartbeats 4000000 in
theorem c_X9_isHour (l : Launch) (g : Gx) (x0 : Int32) (μ : Mem) {r : Int32} {ν : Mem} (h : X9_isHour x0 μ = some (r, ν)) : Ct Lx g l yX9_isHour cX9_isHour 1 (some .boolean) { frames := 0, cells := 0, slots := 0, locals := 0 } [.int x0] μ (some (.int r)) ν := by
  refine x_met (lv := [(0, .int x0)]) rfl (Nat.le_of_ble_eq_true rfl) rfl ?_
  intro p e s m below meth c C0 hP ls hl
  generalize ([.int x0] : List Value).toArray = args at C0 ⊢
  have C0 : Cx Lx g p s m args meth c cX9_isHour 1 (some .boolean) RX9 := C0
  have hS : va_S (Ax Lx g) s.heap s.heap [] := va_S.rf
  obtain ⟨hx, hb, hr, hml, hown, hts, hlocks, hK⟩ := id C0
  unfold X9_isHour at h
  skip
  refine lv_iload_n hx hb dX9_isHour_0 rfl (lv_at hl 0 rfl) ?_
  refine lv_if_lt (tgt := 15) hx hb dX9_isHour_1 (by decide) (fun c1 => ?_) (fun c1 => ?_)
  · rw [if_pos c1] at h
    refine lv_iconst (v := (0 : Int32)) hx hb dX9_isHour_15 rfl ?_
    obtain ⟨rfl, rfl⟩ := some2 h
    exact x_zret C0 hP hS (by decide) dX9_isHour_16
  · rw [if_neg c1] at h
    refine lv_iload_n hx hb dX9_isHour_4 rfl (lv_at hl 0 rfl) ?_
    refine lv_sipush (v := (9000 : Int32)) hx hb dX9_isHour_5 (by decide +kernel) ?_
    refine lv_icmp_gt (tgt := 15) hx hb dX9_isHour_8 (by decide) (fun c2 => ?_) (fun c2 => ?_)
    · rw [if_pos c2] at h
      refine lv_iconst (v := (0 : Int32)) hx hb dX9_isHour_15 rfl ?_
      obtain ⟨rfl, rfl⟩ := some2 h
      exact x_zret C0 hP hS (by decide) dX9_isHour_16
    · rw [if_neg c2] at h
      refine lv_iconst (v := (1 : Int32)) hx hb dX9_isHour_11 rfl ?_
      refine lv_goto (tgt := 16) hx hb dX9_isHour_12 (by decide) ?_
      obtain ⟨rfl, rfl⟩ := some2 h
      exact x_zret C0 hP hS (by decide) dX9_isHour_16
def X9_law_14   (μ : Mem) : Option (Int32 × Mem) :=
  ob2 (X9_finding (1 : Int32) μ) fun r3 μ3 => some (r3, μ3)
set_option maxRecDepth 100000 in
set_option maxHeartbeats 4000000 in
theorem w_X9_law_14 {g : Gx} {p : Program} {l : Launch} {e : Env} {s : State} {m : MethodId} {args : Array Value} {below : List Frame} {meth : Method} {c : Code} (C0 : Cx Lx g p s m args meth c cX9_law 4 (some .int) RX9) {r : Int32} {ν : Mem}   (μ : Mem) (H : Heap) (locs : List Loc) (ls : Array Slot) (hP : Px Lx g μ H) (hS : va_S (Ax Lx g) s.heap H locs) (hl : lv_has ls 4 [(0, .ref (g.2.2.1 + 0))]) (h : X9_law_14   μ = some (r, ν)) : W p l e { frames := 67, cells := 0, slots := 0, locals := 1496 } s m args below meth c H locs 0 0 (MQ below (Qx Lx g (some (.int r)) ν) args s 0 0 (Ax Lx g)) (F0 m 14 ls []) := by
  obtain ⟨hx, hb, hr, hml, hown, hts, hlocks, hK⟩ := id C0
  unfold X9_law_14 at h
  refine lv_aload_n hx hb dX9_law_14 rfl (lv_at hl 0 rfl) ?_
  refine lv_iconst (v := (1 : Int32)) hx hb dX9_law_15 rfl ?_
  obtain ⟨r3, μ3, h1, h⟩ := ob2_some h
  refine x_callV C0 (rest := []) (q := (RX9, TX9, 9)) (c_X9_finding l g (1 : Int32) μ h1) q2_122 q2_119 q2_121 r1_0 q1_1 hd_X9_finding ⟨rfl, rfl⟩ ⟨Nat.le_of_ble_eq_true rfl, Nat.le_of_ble_eq_true rfl⟩ cx_0 (by decide) rfl hP hS hl.1 rfl rfl (Nat.le_of_ble_eq_true rfl) dX9_law_16 (fun H locs hP hS => ?_)
  refine W.eq (g2 := F0 m 19 ls [.int r3]) rfl ?_
  obtain ⟨rfl, rfl⟩ := some2 h
  exact x_iret C0 hP hS dX9_law_19
def X9_law (x1 : Int32) (x2 : Int32) (μ : Mem) : Option (Int32 × Mem) :=
  ob2 (X9_isUse x1 μ) fun r1 μ1 => (if r1 = (0 : Int32) then X9_law_14 μ1 else ob2 (X9_isHour x2 μ1) fun r4 μ4 => (if r4 = (0 : Int32) then X9_law_14 μ4 else (if (μ4 8 5) < (12 : Int32) then ob2 (X0_faultOf (μ4 1 7) μ4) fun r7 μ7 => lt (st μ7 1 7 (0 : Int32)) fun μ8 => (if r7 < (0 : Int32) then ob2 (X1_add x1 x2 μ8) fun r10 μ10 => some (r10, μ10) else some (((-10 : Int32) - r7), μ8)) else ob2 (X9_finding (4 : Int32) μ4) fun r11 μ11 => some (r11, μ11))))
set_option maxRecDepth 100000 in
set_option maxHeartbeats 4000000 in
theorem c_X9_law (l : Launch) (g : Gx) (x1 : Int32) (x2 : Int32) (μ : Mem) {r : Int32} {ν : Mem} (h : X9_law x1 x2 μ = some (r, ν)) : Ct Lx g l yX9_law cX9_law 4 (some .int) { frames := 67, cells := 0, slots := 0, locals := 1496 } [.ref (g.2.2.1 + 0), .int x1, .int x2] μ (some (.int r)) ν := by
  refine x_met (lv := [(0, .ref (g.2.2.1 + 0)), (1, .int x1), (2, .int x2)]) rfl (Nat.le_of_ble_eq_true rfl) rfl ?_
  intro p e s m below meth c C0 hP ls hl
  generalize ([.ref (g.2.2.1 + 0), .int x1, .int x2] : List Value).toArray = args at C0 ⊢
  have C0 : Cx Lx g p s m args meth c cX9_law 4 (some .int) RX9 := C0
  have hS : va_S (Ax Lx g) s.heap s.heap [] := va_S.rf
  obtain ⟨hx, hb, hr, hml, hown, hts, hlocks, hK⟩ := id C0
  unfold X9_law at h
  skip
  refine lv_iload_n hx hb dX9_law_0 rfl (lv_at hl 1 rfl) ?_
  obtain ⟨r1, μ1, h1, h⟩ := ob2_some h
  refine x_callS C0 (rest := []) (c_X9_isUse l g x1 μ h1) q3_60 q3_58 q3_59 q1_1 hd_X9_isUse ⟨rfl, rfl⟩ ⟨Nat.le_of_ble_eq_true rfl, Nat.le_of_ble_eq_true rfl⟩ hP hS hl.1 rfl rfl (Nat.le_of_ble_eq_true rfl) dX9_law_1 (fun H locs hP hS => ?_)
  refine W.eq (g2 := F0 m 4 ls [.int r1]) rfl ?_
  refine lv_if_eq (tgt := 14) hx hb dX9_law_4 (by decide) (fun c2 => ?_) (fun c2 => ?_)
  · rw [if_pos c2] at h
    exact w_X9_law_14 C0   μ1 _ _ _ hP hS (lv_sub hl [0] rfl) h
  · rw [if_neg c2] at h
    refine lv_iload_n hx hb dX9_law_7 rfl (lv_at hl 2 rfl) ?_
    obtain ⟨r4, μ4, h1, h⟩ := ob2_some h
    refine x_callS C0 (rest := []) (c_X9_isHour l g x2 μ1 h1) q3_63 q3_61 q3_62 q1_1 hd_X9_isHour ⟨rfl, rfl⟩ ⟨Nat.le_of_ble_eq_true rfl, Nat.le_of_ble_eq_true rfl⟩ hP hS hl.1 rfl rfl (Nat.le_of_ble_eq_true rfl) dX9_law_8 (fun H locs hP hS => ?_)
    refine W.eq (g2 := F0 m 11 ls [.int r4]) rfl ?_
    refine lv_if_ne (tgt := 20) hx hb dX9_law_11 (by decide) (fun c5 => ?_) (fun c5 => ?_)
    · rw [if_neg c5] at h
      refine lv_aload_n hx hb dX9_law_20 rfl (lv_at hl 0 rfl) ?_
      refine x_get C0 hP inu9 (k := 0) cx_0 (by decide) rfl 0 (by decide) q2_81 rfl (v := .ref (g.2.2.1 + 1)) rfl dX9_law_21 ?_
      refine x_get C0 hP inu7 (k := 1) cx_1 (by decide) rfl 2 (by decide) q1_225 rfl (v := .ref (g.2.2.1 + 8)) rfl dX9_law_24 ?_
      refine x_get C0 hP inu1 (k := 8) cx_8 (by decide) rfl 5 (by decide) q1_67 rfl (v := .int (μ4 8 5)) rfl dX9_law_27 ?_
      refine lv_bipush (v := (12 : Int32)) hx hb dX9_law_30 (by decide +kernel) ?_
      refine lv_icmp_lt (tgt := 41) hx hb dX9_law_32 (by decide) (fun c6 => ?_) (fun c6 => ?_)
      · rw [if_pos c6] at h
        refine lv_aload_n hx hb dX9_law_41 rfl (lv_at hl 0 rfl) ?_
        refine x_get C0 hP inu9 (k := 0) cx_0 (by decide) rfl 3 (by decide) q2_84 rfl (v := .ref (g.2.2.1 + 81)) rfl dX9_law_42 ?_
        refine lv_aload_n hx hb dX9_law_45 rfl (lv_at hl 0 rfl) ?_
        refine x_get C0 hP inu9 (k := 0) cx_0 (by decide) rfl 0 (by decide) q2_81 rfl (v := .ref (g.2.2.1 + 1)) rfl dX9_law_46 ?_
        refine x_get C0 hP inu7 (k := 1) cx_1 (by decide) rfl 5 (by decide) q1_231 rfl (v := .ref (g.2.2.1 + 23)) rfl dX9_law_49 ?_
        refine lv_aload_n hx hb dX9_law_52 rfl (lv_at hl 0 rfl) ?_
        refine x_get C0 hP inu9 (k := 0) cx_0 (by decide) rfl 0 (by decide) q2_81 rfl (v := .ref (g.2.2.1 + 1)) rfl dX9_law_53 ?_
        refine x_get C0 hP inu7 (k := 1) cx_1 (by decide) rfl 7 (by decide) q1_235 rfl (v := .int (μ4 1 7)) rfl dX9_law_56 ?_
        obtain ⟨r7, μ7, h1, h⟩ := ob2_some h
        refine x_callV C0 (rest := []) (q := (RX0, TX0, 6)) (c_X0_faultOf l g (μ4 1 7) μ4 h1) q3_67 q3_64 q3_65 q3_66 q1_8 hd_X0_faultOf ⟨rfl, rfl⟩ ⟨Nat.le_of_ble_eq_true rfl, Nat.le_of_ble_eq_true rfl⟩ cx_81 (by decide) rfl hP hS hl.1 rfl rfl (Nat.le_of_ble_eq_true rfl) dX9_law_59 (fun H locs hP hS => ?_)
        refine W.eq (g2 := F0 m 62 ls [.int r7]) rfl ?_
        refine lv_istore_n (lv' := [(3, .int r7), (0, .ref (g.2.2.1 + 0)), (1, .int x1), (2, .int x2)]) hx hb dX9_law_62 rfl hl (by decide) rfl (fun ls hl => ?_)
        refine lv_aload_n hx hb dX9_law_63 rfl (lv_at hl 1 rfl) ?_
        refine x_get C0 hP inu9 (k := 0) cx_0 (by decide) rfl 0 (by decide) q2_81 rfl (v := .ref (g.2.2.1 + 1)) rfl dX9_law_64 ?_
        refine lv_iconst (v := (0 : Int32)) hx hb dX9_law_67 rfl ?_
        obtain ⟨μ8, e8, h⟩ := lt_some h
        refine x_put C0 hP hS inu7 tyX7 tyX7_ok nmX7 (k := 1) cx_1 (by decide) rfl 7 (by decide) q1_235 rfl rfl (v := .int (0 : Int32)) (x := (0 : Int32)) rfl rfl (Nat.le_of_ble_eq_true rfl) (os_7_7 _ _ _ _) dX9_law_68 (fun H locs hP hS => ?_)
        rw [← e8] at hP
        refine lv_iload_n hx hb dX9_law_71 rfl (lv_at hl 0 rfl) ?_
        refine lv_if_lt (tgt := 82) hx hb dX9_law_72 (by decide) (fun c9 => ?_) (fun c9 => ?_)
        · rw [if_pos c9] at h
          refine lv_aload_n hx hb dX9_law_82 rfl (lv_at hl 1 rfl) ?_
          refine x_get C0 hP inu9 (k := 0) cx_0 (by decide) rfl 0 (by decide) q2_81 rfl (v := .ref (g.2.2.1 + 1)) rfl dX9_law_83 ?_
          refine x_get C0 hP inu7 (k := 1) cx_1 (by decide) rfl 2 (by decide) q1_225 rfl (v := .ref (g.2.2.1 + 8)) rfl dX9_law_86 ?_
          refine lv_iload_n hx hb dX9_law_89 rfl (lv_at hl 2 rfl) ?_
          refine lv_iload_n hx hb dX9_law_90 rfl (lv_at hl 3 rfl) ?_
          refine lv_aload_n hx hb dX9_law_91 rfl (lv_at hl 1 rfl) ?_
          refine x_get C0 hP inu9 (k := 0) cx_0 (by decide) rfl 3 (by decide) q2_84 rfl (v := .ref (g.2.2.1 + 81)) rfl dX9_law_92 ?_
          obtain ⟨r10, μ10, h1, h⟩ := ob2_some h
          refine x_callV C0 (rest := []) (q := (RX1, TX1, 6)) (c_X1_add l g x1 x2 μ8 h1) q3_121 q3_118 q3_119 q3_120 q1_4 hd_X1_add ⟨rfl, rfl⟩ ⟨Nat.le_of_ble_eq_true rfl, Nat.le_of_ble_eq_true rfl⟩ cx_8 (by decide) rfl hP hS hl.1 rfl rfl (Nat.le_of_ble_eq_true rfl) dX9_law_95 (fun H locs hP hS => ?_)
          refine W.eq (g2 := F0 m 98 ls [.int r10]) rfl ?_
          obtain ⟨rfl, rfl⟩ := some2 h
          exact x_iret C0 hP hS dX9_law_98
        · rw [if_neg c9] at h
          refine lv_bipush (v := (-10 : Int32)) hx hb dX9_law_75 (by decide +kernel) ?_
          refine lv_iload_n hx hb dX9_law_77 rfl (lv_at hl 0 rfl) ?_
          refine lv_isub hx hb dX9_law_78 ?_
          refine lv_goto (tgt := 98) hx hb dX9_law_79 (by decide) ?_
          obtain ⟨rfl, rfl⟩ := some2 h
          exact x_iret C0 hP hS dX9_law_98
      · rw [if_neg c6] at h
        refine lv_aload_n hx hb dX9_law_35 rfl (lv_at hl 0 rfl) ?_
        refine lv_iconst (v := (4 : Int32)) hx hb dX9_law_36 rfl ?_
        obtain ⟨r11, μ11, h1, h⟩ := ob2_some h
        refine x_callV C0 (rest := []) (q := (RX9, TX9, 9)) (c_X9_finding l g (4 : Int32) μ4 h1) q2_122 q2_119 q2_121 r1_0 q1_1 hd_X9_finding ⟨rfl, rfl⟩ ⟨Nat.le_of_ble_eq_true rfl, Nat.le_of_ble_eq_true rfl⟩ cx_0 (by decide) rfl hP hS hl.1 rfl rfl (Nat.le_of_ble_eq_true rfl) dX9_law_37 (fun H locs hP hS => ?_)
        refine W.eq (g2 := F0 m 40 ls [.int r11]) rfl ?_
        obtain ⟨rfl, rfl⟩ := some2 h
        exact x_iret C0 hP hS dX9_law_40
    · rw [if_pos c5] at h
      exact w_X9_law_14 C0   μ4 _ _ _ hP hS (lv_sub hl [0] rfl) h
