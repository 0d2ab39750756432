def X0_faultOf_45   (μ : Mem) : Option (Int32 × Mem) :=
  some ((μ 81 5), μ)
set_option maxRecDepth 100000 in
set_option maxHeartbeats 4000000 in
theorem w_X0_faultOf_45 {g : Gx} {p : Program} {l : Launch} {e : Env} {s : State} {m : MethodId} {args : Array Value} {below : List Frame} {meth : Method} {c : Code} (C0 : Cx Lx g p s m args meth c cX0_faultOf 3 (some .int) RX0) {r : Int32} {ν : Mem}   (μ : Mem) (H : Heap) (locs : List Loc) (ls : Array Slot) (hP : Px Lx g μ H) (hS : va_S (Ax Lx g) s.heap H locs) (hl : lv_has ls 3 [(0, .ref (g.2.2.1 + 81))]) (h : X0_faultOf_45   μ = some (r, ν)) : W p l e { frames := 66, cells := 0, slots := 0, locals := 1474 } s m args below meth c H locs 0 0 (MQ below (Qx Lx g (some (.int r)) ν) args s 0 0 (Ax Lx g)) (F0 m 45 ls []) := by
  obtain ⟨hx, hb, hr, hml, hown, hts, hlocks, hK⟩ := id C0
  unfold X0_faultOf_45 at h
  refine lv_aload_n hx hb dX0_faultOf_45 rfl (lv_at hl 0 rfl) ?_
  refine x_get C0 hP inu0 (k := 81) cx_81 (by decide) rfl 5 (by decide) q2_32 rfl (v := .int (μ 81 5)) rfl dX0_faultOf_46 ?_
  obtain ⟨rfl, rfl⟩ := some2 h
  exact x_iret C0 hP hS dX0_faultOf_49
def X0_faultOf (x2 : Int32) (μ : Mem) : Option (Int32 × Mem) :=
  lt (st μ 81 2 (1 : Int32)) fun μ1 => lt (st μ1 81 3 x2) fun μ2 => lt (st μ2 81 4 (0 : Int32)) fun μ3 => lt (st μ3 81 1 (0 : Int32)) fun μ4 => lt (st μ4 81 5 (-1 : Int32)) fun μ5 => ob (X0_readEither (X0_readSingle 10) (0 : Int32) μ5) fun μ6 => (if (μ6 81 3) ≤ (μ6 81 4) then X0_faultOf_45 μ6 else ob (X0_fail  μ6) fun μ8 => X0_faultOf_45 μ8)
set_option maxRecDepth 100000 in
set_option maxHeartbeats 4000000 in
theorem c_X0_faultOf (l : Launch) (g : Gx) (x2 : Int32) (μ : Mem) {r : Int32} {ν : Mem} (h : X0_faultOf x2 μ = some (r, ν)) : Ct Lx g l yX0_faultOf cX0_faultOf 3 (some .int) { frames := 66, cells := 0, slots := 0, locals := 1474 } [.ref (g.2.2.1 + 81), .ref (g.2.2.1 + 23), .int x2] μ (some (.int r)) ν := by
  refine x_met (lv := [(0, .ref (g.2.2.1 + 81)), (1, .ref (g.2.2.1 + 23)), (2, .int x2)]) rfl (Nat.le_of_ble_eq_true rfl) rfl ?_
  intro p e s m below meth c C0 hP ls hl
  generalize ([.ref (g.2.2.1 + 81), .ref (g.2.2.1 + 23), .int x2] : List Value).toArray = args at C0 ⊢
  have C0 : Cx Lx g p s m args meth c cX0_faultOf 3 (some .int) RX0 := C0
  have hS : va_S (Ax Lx g) s.heap s.heap [] := va_S.rf
  obtain ⟨hx, hb, hr, hml, hown, hts, hlocks, hK⟩ := id C0
  unfold X0_faultOf at h
  skip
  refine lv_aload_n hx hb dX0_faultOf_0 rfl (lv_at hl 0 rfl) ?_
  refine lv_aload_n hx hb dX0_faultOf_1 rfl (lv_at hl 1 rfl) ?_
  obtain ⟨μ1, e1, h⟩ := lt_some h
  refine x_put C0 hP hS inu0 tyX0 tyX0_ok nmX0 (k := 81) cx_81 (by decide) rfl 2 (by decide) q2_29 rfl rfl (v := .ref (g.2.2.1 + 23)) (x := (1 : Int32)) rfl rfl (Nat.le_of_ble_eq_true rfl) (os_0_2 _ _ _) dX0_faultOf_2 (fun H locs hP hS => ?_)
  rw [← e1] at hP
  refine lv_aload_n hx hb dX0_faultOf_5 rfl (lv_at hl 0 rfl) ?_
  refine lv_iload_n hx hb dX0_faultOf_6 rfl (lv_at hl 2 rfl) ?_
  obtain ⟨μ2, e2, h⟩ := lt_some h
  refine x_put C0 hP hS inu0 tyX0 tyX0_ok nmX0 (k := 81) cx_81 (by decide) rfl 3 (by decide) q2_30 rfl rfl (v := .int x2) (x := x2) rfl rfl (Nat.le_of_ble_eq_true rfl) (os_0_3 _ _ _ _) dX0_faultOf_7 (fun H locs hP hS => ?_)
  rw [← e2] at hP
  refine lv_aload_n hx hb dX0_faultOf_10 rfl (lv_at hl 0 rfl) ?_
  refine lv_iconst (v := (0 : Int32)) hx hb dX0_faultOf_11 rfl ?_
  obtain ⟨μ3, e3, h⟩ := lt_some h
  refine x_put C0 hP hS inu0 tyX0 tyX0_ok nmX0 (k := 81) cx_81 (by decide) rfl 4 (by decide) q2_31 rfl rfl (v := .int (0 : Int32)) (x := (0 : Int32)) rfl rfl (Nat.le_of_ble_eq_true rfl) (os_0_4 _ _ _ _) dX0_faultOf_12 (fun H locs hP hS => ?_)
  rw [← e3] at hP
  refine lv_aload_n hx hb dX0_faultOf_15 rfl (lv_at hl 0 rfl) ?_
  refine lv_iconst (v := (0 : Int32)) hx hb dX0_faultOf_16 rfl ?_
  obtain ⟨μ4, e4, h⟩ := lt_some h
  refine x_put C0 hP hS inu0 tyX0 tyX0_ok nmX0 (k := 81) cx_81 (by decide) rfl 1 (by decide) q2_27 rfl rfl (v := .int (0 : Int32)) (x := (0 : Int32)) rfl rfl (Nat.le_of_ble_eq_true rfl) (os_0_1 _ _ _ _) dX0_faultOf_17 (fun H locs hP hS => ?_)
  rw [← e4] at hP
  refine lv_aload_n hx hb dX0_faultOf_20 rfl (lv_at hl 0 rfl) ?_
  refine lv_iconst (v := (-1 : Int32)) hx hb dX0_faultOf_21 rfl ?_
  obtain ⟨μ5, e5, h⟩ := lt_some h
  refine x_put C0 hP hS inu0 tyX0 tyX0_ok nmX0 (k := 81) cx_81 (by decide) rfl 5 (by decide) q2_32 rfl rfl (v := .int (-1 : Int32)) (x := (-1 : Int32)) rfl rfl (Nat.le_of_ble_eq_true rfl) (os_0_5 _ _ _ _) dX0_faultOf_22 (fun H locs hP hS => ?_)
  rw [← e5] at hP
  refine lv_aload_n hx hb dX0_faultOf_25 rfl (lv_at hl 0 rfl) ?_
  refine lv_iconst (v := (0 : Int32)) hx hb dX0_faultOf_26 rfl ?_
  obtain ⟨μ6, h1, h⟩ := ob_some h
  refine x_callV C0 (rest := []) (q := (RX0, TX0, 6)) (c_X0_readEither l g (X0_readSingle 10) (c_X0_readSingle l g 10) (0 : Int32) μ5 h1) q3_71 q3_68 q3_70 r1_1 q1_8 hd_X0_readEither ⟨rfl, rfl⟩ ⟨Nat.le_of_ble_eq_true rfl, Nat.le_of_ble_eq_true rfl⟩ cx_81 (by decide) rfl hP hS hl.1 rfl rfl (Nat.le_of_ble_eq_true rfl) dX0_faultOf_27 (fun H locs hP hS => ?_)
  refine W.eq (g2 := F0 m 30 ls []) rfl ?_
  refine lv_aload_n hx hb dX0_faultOf_30 rfl (lv_at hl 0 rfl) ?_
  refine x_get C0 hP inu0 (k := 81) cx_81 (by decide) rfl 4 (by decide) q2_31 rfl (v := .int (μ6 81 4)) rfl dX0_faultOf_31 ?_
  refine lv_aload_n hx hb dX0_faultOf_34 rfl (lv_at hl 0 rfl) ?_
  refine x_get C0 hP inu0 (k := 81) cx_81 (by decide) rfl 3 (by decide) q2_30 rfl (v := .int (μ6 81 3)) rfl dX0_faultOf_35 ?_
  refine lv_icmp_ge (tgt := 45) hx hb dX0_faultOf_38 (by decide) (fun c7 => ?_) (fun c7 => ?_)
  · rw [if_pos c7] at h
    exact w_X0_faultOf_45 C0   μ6 _ _ _ hP hS (lv_sub hl [0] rfl) h
  · rw [if_neg c7] at h
    refine lv_aload_n hx hb dX0_faultOf_41 rfl (lv_at hl 0 rfl) ?_
    obtain ⟨μ8, h1, h⟩ := ob_some h
    refine x_callV C0 (rest := []) (q := (RX0, TX0, 6)) (c_X0_fail l g μ6 h1) q3_117 q3_114 q3_116 r1_11 q1_8 hd_X0_fail ⟨rfl, rfl⟩ ⟨Nat.le_of_ble_eq_true rfl, Nat.le_of_ble_eq_true rfl⟩ cx_81 (by decide) rfl hP hS hl.1 rfl rfl (Nat.le_of_ble_eq_true rfl) dX0_faultOf_42 (fun H locs hP hS => ?_)
    refine W.eq (g2 := F0 m 45 ls []) rfl ?_
    exact w_X0_faultOf_45 C0   μ8 _ _ _ hP hS (lv_sub hl [0] rfl) h
def X1_has (x1 : Int32) (μ : Mem) : Option (Int32 × Mem) :=
  (if x1 < (0 : Int32) then some ((0 : Int32), μ) else (if (μ 8 5) ≤ x1 then some ((0 : Int32), μ) else some ((1 : Int32), μ)))
set_option maxRecDepth 100000 in
set_option maxHeartbeats 4000000 in
theorem c_X1_has (l : Launch) (g : Gx) (x1 : Int32) (μ : Mem) {r : Int32} {ν : Mem} (h : X1_has x1 μ = some (r, ν)) : Ct Lx g l yX1_has cX1_has 2 (some .boolean) { frames := 0, cells := 0, slots := 0, locals := 0 } [.ref (g.2.2.1 + 8), .int x1] μ (some (.int r)) ν := by
  refine x_met (lv := [(0, .ref (g.2.2.1 + 8)), (1, .int x1)]) rfl (Nat.le_of_ble_eq_true rfl) rfl ?_
  intro p e s m below meth c C0 hP ls hl
  generalize ([.ref (g.2.2.1 + 8), .int x1] : List Value).toArray = args at C0 ⊢
  have C0 : Cx Lx g p s m args meth c cX1_has 2 (some .boolean) RX1 := C0
  have hS : va_S (Ax Lx g) s.heap s.heap [] := va_S.rf
  obtain ⟨hx, hb, hr, hml, hown, hts, hlocks, hK⟩ := id C0
  unfold X1_has at h
  skip
  refine lv_iload_n hx hb dX1_has_0 rfl (lv_at hl 1 rfl) ?_
  refine lv_if_lt (tgt := 16) hx hb dX1_has_1 (by decide) (fun c1 => ?_) (fun c1 => ?_)
  · rw [if_pos c1] at h
    refine lv_iconst (v := (0 : Int32)) hx hb dX1_has_16 rfl ?_
    obtain ⟨rfl, rfl⟩ := some2 h
    exact x_zret C0 hP hS (by decide) dX1_has_17
  · rw [if_neg c1] at h
    refine lv_iload_n hx hb dX1_has_4 rfl (lv_at hl 1 rfl) ?_
    refine lv_aload_n hx hb dX1_has_5 rfl (lv_at hl 0 rfl) ?_
    refine x_get C0 hP inu1 (k := 8) cx_8 (by decide) rfl 5 (by decide) q1_66 rfl (v := .int (μ 8 5)) rfl dX1_has_6 ?_
    refine lv_icmp_ge (tgt := 16) hx hb dX1_has_9 (by decide) (fun c2 => ?_) (fun c2 => ?_)
    · rw [if_pos c2] at h
      refine lv_iconst (v := (0 : Int32)) hx hb dX1_has_16 rfl ?_
      obtain ⟨rfl, rfl⟩ := some2 h
      exact x_zret C0 hP hS (by decide) dX1_has_17
    · rw [if_neg c2] at h
      refine lv_iconst (v := (1 : Int32)) hx hb dX1_has_12 rfl ?_
      refine lv_goto (tgt := 17) hx hb dX1_has_13 (by decide) ?_
      obtain ⟨rfl, rfl⟩ := some2 h
      exact x_zret C0 hP hS (by decide) dX1_has_17
def X1_add (x1 : Int32) (x2 : Int32) (μ : Mem) : Option (Int32 × Mem) :=
  (if (μ 8 5) < (12 : Int32) then gd (inB (μ 8 5) 12) (lt (st μ 9 (μ 8 5).toNatClampNeg x1) fun μ3 => gd (inB (μ3 8 5) 12) (lt (st μ3 10 (μ3 8 5).toNatClampNeg x2) fun μ5 => gd (inB (μ5 8 5) 12) (lt (st μ5 11 (μ5 8 5).toNatClampNeg (μ5 81 1)) fun μ7 => gd (0 ≤ (0 : Int32).toInt ∧ 0 ≤ ((μ7 8 5) * (60 : Int32)).toInt ∧ 0 ≤ (60 : Int32).toInt ∧ (0 : Int32).toInt + (60 : Int32).toInt ≤ (60 : Nat) ∧ ((μ7 8 5) * (60 : Int32)).toInt + (60 : Int32).toInt ≤ (720 : Nat)) (lt (str μ7 12 (va_cpy (μ7 82) (μ7 12) 0 ((μ7 8 5) * (60 : Int32)).toNatClampNeg 60)) fun μ8 => lt (st μ8 8 5 ((μ8 8 5) + (1 : Int32))) fun μ10 => some (((μ10 8 5) - (1 : Int32)), μ10))))) else some ((-1 : Int32), μ))
set_option maxRecDepth 100000 in
set_option maxHeartbeats 4000000 in
theorem c_X1_add (l : Launch) (g : Gx) (x1 : Int32) (x2 : Int32) (μ : Mem) {r : Int32} {ν : Mem} (h : X1_add x1 x2 μ = some (r, ν)) : Ct Lx g l yX1_add cX1_add 4 (some .int) { frames := 1, cells := 0, slots := 0, locals := 18 } [.ref (g.2.2.1 + 8), .int x1, .int x2, .ref (g.2.2.1 + 81)] μ (some (.int r)) ν := by
  refine x_met (lv := [(0, .ref (g.2.2.1 + 8)), (1, .int x1), (2, .int x2), (3, .ref (g.2.2.1 + 81))]) rfl (Nat.le_of_ble_eq_true rfl) rfl ?_
  intro p e s m below meth c C0 hP ls hl
  generalize ([.ref (g.2.2.1 + 8), .int x1, .int x2, .ref (g.2.2.1 + 81)] : List Value).toArray = args at C0 ⊢
  have C0 : Cx Lx g p s m args meth c cX1_add 4 (some .int) RX1 := C0
  have hS : va_S (Ax Lx g) s.heap s.heap [] := va_S.rf
  obtain ⟨hx, hb, hr, hml, hown, hts, hlocks, hK⟩ := id C0
  unfold X1_add at h
  skip
  refine lv_aload_n hx hb dX1_add_0 rfl (lv_at hl 0 rfl) ?_
  refine x_get C0 hP inu1 (k := 8) cx_8 (by decide) rfl 5 (by decide) q1_66 rfl (v := .int (μ 8 5)) rfl dX1_add_1 ?_
  refine lv_bipush (v := (12 : Int32)) hx hb dX1_add_4 (by decide +kernel) ?_
  refine lv_icmp_lt (tgt := 11) hx hb dX1_add_6 (by decide) (fun c1 => ?_) (fun c1 => ?_)
  · rw [if_pos c1] at h
    refine lv_aload_n hx hb dX1_add_11 rfl (lv_at hl 0 rfl) ?_
    refine x_get C0 hP inu1 (k := 8) cx_8 (by decide) rfl 0 (by decide) q1_61 rfl (v := .ref (g.2.2.1 + 9)) rfl dX1_add_12 ?_
    refine lv_aload_n hx hb dX1_add_15 rfl (lv_at hl 0 rfl) ?_
    refine x_get C0 hP inu1 (k := 8) cx_8 (by decide) rfl 5 (by decide) q1_66 rfl (v := .int (μ 8 5)) rfl dX1_add_16 ?_
    refine lv_iload_n hx hb dX1_add_19 rfl (lv_at hl 1 rfl) ?_
    obtain ⟨z2, h⟩ := gd_some h
    obtain ⟨μ3, e3, h⟩ := lt_some h
    refine x_iast C0 hP hS (k := 9) cx_9 (j := (μ 8 5).toNatClampNeg) z2 rfl dX1_add_20 (fun H locs hP hS => ?_)
    rw [← e3] at hP
    refine lv_aload_n hx hb dX1_add_21 rfl (lv_at hl 0 rfl) ?_
    refine x_get C0 hP inu1 (k := 8) cx_8 (by decide) rfl 1 (by decide) q1_62 rfl (v := .ref (g.2.2.1 + 10)) rfl dX1_add_22 ?_
    refine lv_aload_n hx hb dX1_add_25 rfl (lv_at hl 0 rfl) ?_
    refine x_get C0 hP inu1 (k := 8) cx_8 (by decide) rfl 5 (by decide) q1_66 rfl (v := .int (μ3 8 5)) rfl dX1_add_26 ?_
    refine lv_iload_n hx hb dX1_add_29 rfl (lv_at hl 2 rfl) ?_
    obtain ⟨z4, h⟩ := gd_some h
    obtain ⟨μ5, e5, h⟩ := lt_some h
    refine x_iast C0 hP hS (k := 10) cx_10 (j := (μ3 8 5).toNatClampNeg) z4 rfl dX1_add_30 (fun H locs hP hS => ?_)
    rw [← e5] at hP
    refine lv_aload_n hx hb dX1_add_31 rfl (lv_at hl 0 rfl) ?_
    refine x_get C0 hP inu1 (k := 8) cx_8 (by decide) rfl 2 (by decide) q1_63 rfl (v := .ref (g.2.2.1 + 11)) rfl dX1_add_32 ?_
    refine lv_aload_n hx hb dX1_add_35 rfl (lv_at hl 0 rfl) ?_
    refine x_get C0 hP inu1 (k := 8) cx_8 (by decide) rfl 5 (by decide) q1_66 rfl (v := .int (μ5 8 5)) rfl dX1_add_36 ?_
    refine lv_aload_n hx hb dX1_add_39 rfl (lv_at hl 3 rfl) ?_
    refine x_get C0 hP inu0 (k := 81) cx_81 (by decide) rfl 1 (by decide) q2_28 rfl (v := .int (μ5 81 1)) rfl dX1_add_40 ?_
    obtain ⟨z6, h⟩ := gd_some h
    obtain ⟨μ7, e7, h⟩ := lt_some h
    refine x_iast C0 hP hS (k := 11) cx_11 (j := (μ5 8 5).toNatClampNeg) z6 rfl dX1_add_43 (fun H locs hP hS => ?_)
    rw [← e7] at hP
    refine lv_aload_n hx hb dX1_add_44 rfl (lv_at hl 3 rfl) ?_
    refine x_get C0 hP inu0 (k := 81) cx_81 (by decide) rfl 0 (by decide) q2_26 rfl (v := .ref (g.2.2.1 + 82)) rfl dX1_add_45 ?_
    refine lv_iconst (v := (0 : Int32)) hx hb dX1_add_48 rfl ?_
    refine lv_aload_n hx hb dX1_add_49 rfl (lv_at hl 0 rfl) ?_
    refine x_get C0 hP inu1 (k := 8) cx_8 (by decide) rfl 3 (by decide) q1_64 rfl (v := .ref (g.2.2.1 + 12)) rfl dX1_add_50 ?_
    refine lv_aload_n hx hb dX1_add_53 rfl (lv_at hl 0 rfl) ?_
    refine x_get C0 hP inu1 (k := 8) cx_8 (by decide) rfl 5 (by decide) q1_66 rfl (v := .int (μ7 8 5)) rfl dX1_add_54 ?_
    refine lv_bipush (v := (60 : Int32)) hx hb dX1_add_57 (by decide +kernel) ?_
    refine lv_imul hx hb dX1_add_59 ?_
    refine lv_bipush (v := (60 : Int32)) hx hb dX1_add_60 (by decide +kernel) ?_
    obtain ⟨z9, h⟩ := gd_some h
    obtain ⟨μ8, e8, h⟩ := lt_some h
    refine x_copyi C0 hP hS hl.1 (k0 := 82) (k1 := 12) cx_82 cx_12 q3_122 q3_124 q3_123 q1_13 z9 (sp2 := 0) (dp2 := ((μ7 8 5) * (60 : Int32)).toNatClampNeg) (n2 := 60) rfl rfl rfl (Nat.le_of_ble_eq_true rfl) (Nat.le_of_ble_eq_true rfl) dX1_add_62 (fun H locs hP hS => ?_)
    rw [← e8] at hP
    refine lv_aload_n hx hb dX1_add_65 rfl (lv_at hl 0 rfl) ?_
    refine lv_dup hx hb dX1_add_66 rfl ?_
    refine x_get C0 hP inu1 (k := 8) cx_8 (by decide) rfl 5 (by decide) q1_66 rfl (v := .int (μ8 8 5)) rfl dX1_add_67 ?_
    refine lv_iconst (v := (1 : Int32)) hx hb dX1_add_70 rfl ?_
    refine lv_iadd hx hb dX1_add_71 ?_
    obtain ⟨μ10, e10, h⟩ := lt_some h
    refine x_put C0 hP hS inu1 tyX1 tyX1_ok nmX1 (k := 8) cx_8 (by decide) rfl 5 (by decide) q1_66 rfl rfl (v := .int ((μ8 8 5) + (1 : Int32))) (x := ((μ8 8 5) + (1 : Int32))) rfl rfl (Nat.le_of_ble_eq_true rfl) (os_1_5 _ _ _ _) dX1_add_72 (fun H locs hP hS => ?_)
    rw [← e10] at hP
    refine lv_aload_n hx hb dX1_add_75 rfl (lv_at hl 0 rfl) ?_
    refine x_get C0 hP inu1 (k := 8) cx_8 (by decide) rfl 5 (by decide) q1_66 rfl (v := .int (μ10 8 5)) rfl dX1_add_76 ?_
    refine lv_iconst (v := (1 : Int32)) hx hb dX1_add_79 rfl ?_
    refine lv_isub hx hb dX1_add_80 ?_
    obtain ⟨rfl, rfl⟩ := some2 h
    exact x_iret C0 hP hS dX1_add_81
  · rw [if_neg c1] at h
    refine lv_iconst (v := (-1 : Int32)) hx hb dX1_add_9 rfl ?_
    obtain ⟨rfl, rfl⟩ := some2 h
    exact x_iret C0 hP hS dX1_add_10
def X1_ruling_33 (K7 : Int32 → Int32 → Int32 → Mem → Option (Int32 × Mem)) (x1 : Int32) (x2 : Int32) (x3 : Int32) (μ : Mem) : Option (Int32 × Mem) :=
  K7 x1 x2 (x3 + (-1 : Int32)) μ
set_option maxRecDepth 100000 in
set_option maxHeartbeats 4000000 in
theorem w_X1_ruling_33 {g : Gx} {p : Program} {l : Launch} {e : Env} {s : State} {m : MethodId} {args : Array Value} {below : List Frame} {meth : Method} {c : Code} (C0 : Cx Lx g p s m args meth c cX1_ruling 4 (some .int) RX1) {r : Int32} {ν : Mem} (K7 : Int32 → Int32 → Int32 → Mem → Option (Int32 × Mem)) (hK7 : ∀ (x1 : Int32) (x2 : Int32) (x3 : Int32) (μ : Mem) (H : Heap) (locs : List Loc) (ls : Array Slot), Px Lx g μ H → va_S (Ax Lx g) s.heap H locs → lv_has ls 4 [(0, .ref (g.2.2.1 + 8)), (1, .int x1), (2, .int x2), (3, .int x3)] → K7 x1 x2 x3 μ = some (r, ν) → W p l e { frames := 0, cells := 0, slots := 0, locals := 0 } s m args below meth c H locs 0 0 (MQ below (Qx Lx g (some (.int r)) ν) args s 0 0 (Ax Lx g)) (F0 m 7 ls [])) (x1 : Int32) (x2 : Int32) (x3 : Int32) (μ : Mem) (H : Heap) (locs : List Loc) (ls : Array Slot) (hP : Px Lx g μ H) (hS : va_S (Ax Lx g) s.heap H locs) (hl : lv_has ls 4 [(0, .ref (g.2.2.1 + 8)), (1, .int x1), (2, .int x2), (3, .int x3)]) (h : X1_ruling_33 K7 x1 x2 x3 μ = some (r, ν)) : W p l e { frames := 0, cells := 0, slots := 0, locals := 0 } s m args below meth c H locs 0 0 (MQ below (Qx Lx g (some (.int r)) ν) args s 0 0 (Ax Lx g)) (F0 m 33 ls []) := by
  obtain ⟨hx, hb, hr, hml, hown, hts, hlocks, hK⟩ := id C0
  unfold X1_ruling_33 at h
  refine lv_iinc (v := (x3 + (-1 : Int32))) (lv' := [(3, .int (x3 + (-1 : Int32))), (0, .ref (g.2.2.1 + 8)), (1, .int x1), (2, .int x2)]) hx hb dX1_ruling_33 hl (k := 3) rfl rfl (by decide) rfl (fun ls hl => ?_)
  refine lv_goto (tgt := 7) hx hb dX1_ruling_36 (by decide) ?_
  exact hK7 x1 x2 (x3 + (-1 : Int32)) μ _ _ _ hP hS (lv_sub hl [1, 2, 3, 0] rfl) h
def X1_ruling_7  : Nat → Int32 → Int32 → Int32 → Mem → Option (Int32 × Mem)
  | 0, _, _, _, _ => none
  | n + 1, x1, x2, x3, μ => (if x3 < (0 : Int32) then some ((-1 : Int32), μ) else gd (inB x3 12) ((if (μ 9 x3.toNatClampNeg) = x1 then gd (inB x3 12) ((if x2 < (μ 10 x3.toNatClampNeg) then X1_ruling_33 (X1_ruling_7 n) x1 x2 x3 μ else some (x3, μ))) else X1_ruling_33 (X1_ruling_7 n) x1 x2 x3 μ)))
set_option maxRecDepth 100000 in
set_option maxHeartbeats 4000000 in
theorem w_X1_ruling_7 {g : Gx} {p : Program} {l : Launch} {e : Env} {s : State} {m : MethodId} {args : Array Value} {below : List Frame} {meth : Method} {c : Code} (C0 : Cx Lx g p s m args meth c cX1_ruling 4 (some .int) RX1) {r : Int32} {ν : Mem}  (n : Nat) : ∀ (x1 : Int32) (x2 : Int32) (x3 : Int32) (μ : Mem) (H : Heap) (locs : List Loc) (ls : Array Slot), Px Lx g μ H → va_S (Ax Lx g) s.heap H locs → lv_has ls 4 [(0, .ref (g.2.2.1 + 8)), (1, .int x1), (2, .int x2), (3, .int x3)] → X1_ruling_7  n x1 x2 x3 μ = some (r, ν) → W p l e { frames := 0, cells := 0, slots := 0, locals := 0 } s m args below meth c H locs 0 0 (MQ below (Qx Lx g (some (.int r)) ν) args s 0 0 (Ax Lx g)) (F0 m 7 ls []) := by
  obtain ⟨hx, hb, hr, hml, hown, hts, hlocks, hK⟩ := id C0
  induction n with
  | zero =>
    intro x1 x2 x3 μ H locs ls hP hS hl h
    have h : (none : Option (Int32 × Mem)) = some (r, ν) := h
    cases h
  | succ n ih =>
    intro x1 x2 x3 μ H locs ls hP hS hl h
    rw [X1_ruling_7.eq_2] at h
    refine lv_iload_n hx hb dX1_ruling_7 rfl (lv_at hl 3 rfl) ?_
    refine lv_if_lt (tgt := 39) hx hb dX1_ruling_8 (by decide) (fun c1 => ?_) (fun c1 => ?_)
    · rw [if_pos c1] at h
      refine lv_iconst (v := (-1 : Int32)) hx hb dX1_ruling_39 rfl ?_
      obtain ⟨rfl, rfl⟩ := some2 h
      exact x_iret C0 hP hS dX1_ruling_40
    · rw [if_neg c1] at h
      refine lv_aload_n hx hb dX1_ruling_11 rfl (lv_at hl 0 rfl) ?_
      refine x_get C0 hP inu1 (k := 8) cx_8 (by decide) rfl 0 (by decide) q1_61 rfl (v := .ref (g.2.2.1 + 9)) rfl dX1_ruling_12 ?_
      refine lv_iload_n hx hb dX1_ruling_15 rfl (lv_at hl 3 rfl) ?_
      obtain ⟨z2, h⟩ := gd_some h
      refine x_iald C0 hP (k := 9) cx_9 (j := x3.toNatClampNeg) z2 rfl dX1_ruling_16 ?_
      refine lv_iload_n hx hb dX1_ruling_17 rfl (lv_at hl 1 rfl) ?_
      refine lv_icmp_ne (tgt := 33) hx hb dX1_ruling_18 (by decide) (fun c3 => ?_) (fun c3 => ?_)
      · rw [if_neg c3] at h
        exact w_X1_ruling_33 C0 (X1_ruling_7  n) ih x1 x2 x3 μ _ _ _ hP hS (lv_sub hl [0, 1, 2, 3] rfl) h
      · rw [if_pos c3] at h
        refine lv_aload_n hx hb dX1_ruling_21 rfl (lv_at hl 0 rfl) ?_
        refine x_get C0 hP inu1 (k := 8) cx_8 (by decide) rfl 1 (by decide) q1_62 rfl (v := .ref (g.2.2.1 + 10)) rfl dX1_ruling_22 ?_
        refine lv_iload_n hx hb dX1_ruling_25 rfl (lv_at hl 3 rfl) ?_
        obtain ⟨z4, h⟩ := gd_some h
        refine x_iald C0 hP (k := 10) cx_10 (j := x3.toNatClampNeg) z4 rfl dX1_ruling_26 ?_
        refine lv_iload_n hx hb dX1_ruling_27 rfl (lv_at hl 2 rfl) ?_
        refine lv_icmp_gt (tgt := 33) hx hb dX1_ruling_28 (by decide) (fun c5 => ?_) (fun c5 => ?_)
        · rw [if_pos c5] at h
          exact w_X1_ruling_33 C0 (X1_ruling_7  n) ih x1 x2 x3 μ _ _ _ hP hS (lv_sub hl [0, 1, 2, 3] rfl) h
        · rw [if_neg c5] at h
          refine lv_iload_n hx hb dX1_ruling_31 rfl (lv_at hl 3 rfl) ?_
          obtain ⟨rfl, rfl⟩ := some2 h
          exact x_iret C0 hP hS dX1_ruling_32
def X1_ruling (x1 : Int32) (x2 : Int32) (μ : Mem) : Option (Int32 × Mem) :=
  X1_ruling_7 FU x1 x2 ((μ 8 5) - (1 : Int32)) μ
set_option maxRecDepth 100000 in
set_option maxHeartbeats 4000000 in
theorem c_X1_ruling (l : Launch) (g : Gx) (x1 : Int32) (x2 : Int32) (μ : Mem) {r : Int32} {ν : Mem} (h : X1_ruling x1 x2 μ = some (r, ν)) : Ct Lx g l yX1_ruling cX1_ruling 4 (some .int) { frames := 0, cells := 0, slots := 0, locals := 0 } [.ref (g.2.2.1 + 8), .int x1, .int x2] μ (some (.int r)) ν := by
  refine x_met (lv := [(0, .ref (g.2.2.1 + 8)), (1, .int x1), (2, .int x2)]) rfl (Nat.le_of_ble_eq_true rfl) rfl ?_
  intro p e s m below meth c C0 hP ls hl
  generalize ([.ref (g.2.2.1 + 8), .int x1, .int x2] : List Value).toArray = args at C0 ⊢
  have C0 : Cx Lx g p s m args meth c cX1_ruling 4 (some .int) RX1 := C0
  have hS : va_S (Ax Lx g) s.heap s.heap [] := va_S.rf
  obtain ⟨hx, hb, hr, hml, hown, hts, hlocks, hK⟩ := id C0
  unfold X1_ruling at h
  skip
  refine lv_aload_n hx hb dX1_ruling_0 rfl (lv_at hl 0 rfl) ?_
  refine x_get C0 hP inu1 (k := 8) cx_8 (by decide) rfl 5 (by decide) q1_66 rfl (v := .int (μ 8 5)) rfl dX1_ruling_1 ?_
  refine lv_iconst (v := (1 : Int32)) hx hb dX1_ruling_4 rfl ?_
  refine lv_isub hx hb dX1_ruling_5 ?_
  refine lv_istore_n (lv' := [(3, .int ((μ 8 5) - (1 : Int32))), (0, .ref (g.2.2.1 + 8)), (1, .int x1), (2, .int x2)]) hx hb dX1_ruling_6 rfl hl (by decide) rfl (fun ls hl => ?_)
  exact w_X1_ruling_7 C0  FU x1 x2 ((μ 8 5) - (1 : Int32)) μ _ _ _ hP hS (lv_sub hl [1, 2, 3, 0] rfl) h
def X1_named (x0 : Int32) (a1 : Nat) (x2 : Int32) (x3 : Int32) (μ : Mem) : Option (Int32 × Mem) :=
  (if x0 = (99 : Int32) then some ((μ a1 5), μ) else (if x0 = (100 : Int32) then some (((x2 / (24 : Int32)) - (x2 / (24 : Int32)) / (7 : Int32) * (7 : Int32)), μ) else (if x0 = (104 : Int32) then some ((x2 - x2 / (24 : Int32) * (24 : Int32)), μ) else (if x0 = (107 : Int32) then some ((μ a1 2), μ) else (if x0 = (111 : Int32) then some ((μ a1 6), μ) else (if x0 = (117 : Int32) then some ((μ a1 11), μ) else some (x3, μ)))))))
set_option maxRecDepth 100000 in
set_option maxHeartbeats 4000000 in
theorem c_X1_named (l : Launch) (g : Gx) (x0 : Int32) (a1 : Nat) (hi1 : Id2 a1) (x2 : Int32) (x3 : Int32) (μ : Mem) {r : Int32} {ν : Mem} (h : X1_named x0 a1 x2 x3 μ = some (r, ν)) : Ct Lx g l yX1_named cX1_named 4 (some .int) { frames := 0, cells := 0, slots := 0, locals := 0 } [.int x0, .ref (g.2.2.1 + a1), .int x2, .int x3] μ (some (.int r)) ν := by
  refine x_met (lv := [(0, .int x0), (1, .ref (g.2.2.1 + a1)), (2, .int x2), (3, .int x3)]) rfl (Nat.le_of_ble_eq_true rfl) rfl ?_
  intro p e s m below meth c C0 hP ls hl
  generalize ([.int x0, .ref (g.2.2.1 + a1), .int x2, .int x3] : List Value).toArray = args at C0 ⊢
  have C0 : Cx Lx g p s m args meth c cX1_named 4 (some .int) RX1 := C0
  have hS : va_S (Ax Lx g) s.heap s.heap [] := va_S.rf
  obtain ⟨hx, hb, hr, hml, hown, hts, hlocks, hK⟩ := id C0
  unfold X1_named at h
  skip
  refine lv_iload_n hx hb dX1_named_0 rfl (lv_at hl 0 rfl) ?_
  by_cases c1 : x0 = (99 : Int32)
  · rw [if_pos c1] at h
    refine lv_tableIn (tgt := 120) (off := 119) hx hb dX1_named_1 (by rw [c1]; decide) (by rw [c1]; decide) (by rw [c1]; decide) (by decide) ?_
    refine lv_aload_n hx hb dX1_named_120 rfl (lv_at hl 1 rfl) ?_
    refine x_get C0 hP inu2 (k := a1) (id2_0 hi1) (by decide) rfl 5 (by decide) q1_159 rfl (v := .int (μ a1 5)) rfl dX1_named_121 ?_
    obtain ⟨rfl, rfl⟩ := some2 h
    exact x_iret C0 hP hS dX1_named_124
  rw [if_neg c1] at h
  by_cases c2 : x0 = (100 : Int32)
  · rw [if_pos c2] at h
    refine lv_tableIn (tgt := 97) (off := 96) hx hb dX1_named_1 (by rw [c2]; decide) (by rw [c2]; decide) (by rw [c2]; decide) (by decide) ?_
    refine lv_iload_n hx hb dX1_named_97 rfl (lv_at hl 2 rfl) ?_
    refine lv_bipush (v := (24 : Int32)) hx hb dX1_named_98 (by decide +kernel) ?_
    refine lv_idiv hx hb dX1_named_100 (by decide) ?_
    refine lv_bipush (v := (7 : Int32)) hx hb dX1_named_101 (by decide +kernel) ?_
    refine lv_irem hx hb dX1_named_103 (by decide) ?_
    obtain ⟨rfl, rfl⟩ := some2 h
    exact x_iret C0 hP hS dX1_named_104
  rw [if_neg c2] at h
  by_cases c3 : x0 = (104 : Int32)
  · rw [if_pos c3] at h
    refine lv_tableIn (tgt := 92) (off := 91) hx hb dX1_named_1 (by rw [c3]; decide) (by rw [c3]; decide) (by rw [c3]; decide) (by decide) ?_
    refine lv_iload_n hx hb dX1_named_92 rfl (lv_at hl 2 rfl) ?_
    refine lv_bipush (v := (24 : Int32)) hx hb dX1_named_93 (by decide +kernel) ?_
    refine lv_irem hx hb dX1_named_95 (by decide) ?_
    obtain ⟨rfl, rfl⟩ := some2 h
    exact x_iret C0 hP hS dX1_named_96
  rw [if_neg c3] at h
  by_cases c4 : x0 = (107 : Int32)
  · rw [if_pos c4] at h
    refine lv_tableIn (tgt := 110) (off := 109) hx hb dX1_named_1 (by rw [c4]; decide) (by rw [c4]; decide) (by rw [c4]; decide) (by decide) ?_
    refine lv_aload_n hx hb dX1_named_110 rfl (lv_at hl 1 rfl) ?_
    refine x_get C0 hP inu2 (k := a1) (id2_0 hi1) (by decide) rfl 2 (by decide) q1_149 rfl (v := .int (μ a1 2)) rfl dX1_named_111 ?_
    obtain ⟨rfl, rfl⟩ := some2 h
    exact x_iret C0 hP hS dX1_named_114
  rw [if_neg c4] at h
  by_cases c5 : x0 = (111 : Int32)
  · rw [if_pos c5] at h
    refine lv_tableIn (tgt := 115) (off := 114) hx hb dX1_named_1 (by rw [c5]; decide) (by rw [c5]; decide) (by rw [c5]; decide) (by decide) ?_
    refine lv_aload_n hx hb dX1_named_115 rfl (lv_at hl 1 rfl) ?_
    refine x_get C0 hP inu2 (k := a1) (id2_0 hi1) (by decide) rfl 6 (by decide) q1_163 rfl (v := .int (μ a1 6)) rfl dX1_named_116 ?_
    obtain ⟨rfl, rfl⟩ := some2 h
    exact x_iret C0 hP hS dX1_named_119
  rw [if_neg c5] at h
  by_cases c6 : x0 = (117 : Int32)
  · rw [if_pos c6] at h
    refine lv_tableIn (tgt := 105) (off := 104) hx hb dX1_named_1 (by rw [c6]; decide) (by rw [c6]; decide) (by rw [c6]; decide) (by decide) ?_
    refine lv_aload_n hx hb dX1_named_105 rfl (lv_at hl 1 rfl) ?_
    refine x_get C0 hP inu2 (k := a1) (id2_0 hi1) (by decide) rfl 11 (by decide) q1_179 rfl (v := .int (μ a1 11)) rfl dX1_named_106 ?_
    obtain ⟨rfl, rfl⟩ := some2 h
    exact x_iret C0 hP hS dX1_named_109
  rw [if_neg c6] at h
  have i1 : ¬ x0.toInt = 99 := fun q => c1 (Int32.toInt_inj.mp (q.trans (by decide)))
  have i2 : ¬ x0.toInt = 100 := fun q => c2 (Int32.toInt_inj.mp (q.trans (by decide)))
  have i3 : ¬ x0.toInt = 104 := fun q => c3 (Int32.toInt_inj.mp (q.trans (by decide)))
  have i4 : ¬ x0.toInt = 107 := fun q => c4 (Int32.toInt_inj.mp (q.trans (by decide)))
  have i5 : ¬ x0.toInt = 111 := fun q => c5 (Int32.toInt_inj.mp (q.trans (by decide)))
  have i6 : ¬ x0.toInt = 117 := fun q => c6 (Int32.toInt_inj.mp (q.trans (by decide)))
  refine x_tab (tgt := 125) hx hb dX1_named_1 ?_ (by decide) ?_
  · unfold x_tsel
    rcases (show x0.toInt < 99 ∨ 117 < x0.toInt ∨ x0.toInt = 101 ∨ x0.toInt = 102 ∨ x0.toInt = 103 ∨ x0.toInt = 105 ∨ x0.toInt = 106 ∨ x0.toInt = 108 ∨ x0.toInt = 109 ∨ x0.toInt = 110 ∨ x0.toInt = 112 ∨ x0.toInt = 113 ∨ x0.toInt = 114 ∨ x0.toInt = 115 ∨ x0.toInt = 116 by omega) with o | o | o | o | o | o | o | o | o | o | o | o | o | o | o
    · rw [if_pos (Or.inl o)]
    · rw [if_pos (Or.inr o)]
    · rw [o]; decide
    · rw [o]; decide
    · rw [o]; decide
    · rw [o]; decide
    · rw [o]; decide
    · rw [o]; decide
    · rw [o]; decide
    · rw [o]; decide
    · rw [o]; decide
    · rw [o]; decide
    · rw [o]; decide
    · rw [o]; decide
    · rw [o]; decide
  refine lv_iload_n hx hb dX1_named_125 rfl (lv_at hl 3 rfl) ?_
  obtain ⟨rfl, rfl⟩ := some2 h
  exact x_iret C0 hP hS dX1_named_126
def X1_joined (x0 : Int32) (x1 : Int32) (x2 : Int32) (μ : Mem) : Option (Int32 × Mem) :=
  (if x1 = (38 : Int32) then (if x0 = (0 : Int32) then some ((0 : Int32), μ) else (if x2 = (0 : Int32) then some ((0 : Int32), μ) else some ((1 : Int32), μ))) else (if x1 = (42 : Int32) then some ((x0 * x2), μ) else (if x1 = (43 : Int32) then some ((x0 + x2), μ) else (if x1 = (45 : Int32) then some ((x0 - x2), μ) else (if x1 = (60 : Int32) then (if x2 ≤ x0 then some ((0 : Int32), μ) else some ((1 : Int32), μ)) else (if x1 = (61 : Int32) then (if x0 = x2 then some ((1 : Int32), μ) else some ((0 : Int32), μ)) else (if x1 = (62 : Int32) then (if x0 ≤ x2 then some ((0 : Int32), μ) else some ((1 : Int32), μ)) else (if x1 = (124 : Int32) then (if x0 = (0 : Int32) then (if x2 = (0 : Int32) then some ((0 : Int32), μ) else some ((1 : Int32), μ)) else some ((1 : Int32), μ)) else (if x2 = (0 : Int32) then some ((0 : Int32), μ) else gd (¬ x2 = 0) (some ((x0 / x2), μ)))))))))))
set_option maxRecDepth 100000 in
set_option maxHeartbeats 4000000 in
theorem c_X1_joined (l : Launch) (g : Gx) (x0 : Int32) (x1 : Int32) (x2 : Int32) (μ : Mem) {r : Int32} {ν : Mem} (h : X1_joined x0 x1 x2 μ = some (r, ν)) : Ct Lx g l yX1_joined cX1_joined 3 (some .int) { frames := 0, cells := 0, slots := 0, locals := 0 } [.int x0, .int x1, .int x2] μ (some (.int r)) ν := by
  refine x_met (lv := [(0, .int x0), (1, .int x1), (2, .int x2)]) rfl (Nat.le_of_ble_eq_true rfl) rfl ?_
  intro p e s m below meth c C0 hP ls hl
  generalize ([.int x0, .int x1, .int x2] : List Value).toArray = args at C0 ⊢
  have C0 : Cx Lx g p s m args meth c cX1_joined 3 (some .int) RX1 := C0
  have hS : va_S (Ax Lx g) s.heap s.heap [] := va_S.rf
  obtain ⟨hx, hb, hr, hml, hown, hts, hlocks, hK⟩ := id C0
  unfold X1_joined at h
  skip
  refine lv_iload_n hx hb dX1_joined_0 rfl (lv_at hl 1 rfl) ?_
  by_cases c1 : x1 = (38 : Int32)
  · rw [if_pos c1] at h
    refine lv_lookup (tgt := 90) (off := 89) hx hb dX1_joined_1 (by decide) (by rw [c1]; decide) (by decide) ?_
    refine lv_iload_n hx hb dX1_joined_90 rfl (lv_at hl 0 rfl) ?_
    refine lv_if_eq (tgt := 102) hx hb dX1_joined_91 (by decide) (fun c2 => ?_) (fun c2 => ?_)
    · rw [if_pos c2] at h
      refine lv_iconst (v := (0 : Int32)) hx hb dX1_joined_102 rfl ?_
      obtain ⟨rfl, rfl⟩ := some2 h
      exact x_iret C0 hP hS dX1_joined_103
    · rw [if_neg c2] at h
      refine lv_iload_n hx hb dX1_joined_94 rfl (lv_at hl 2 rfl) ?_
      refine lv_if_eq (tgt := 102) hx hb dX1_joined_95 (by decide) (fun c3 => ?_) (fun c3 => ?_)
      · rw [if_pos c3] at h
        refine lv_iconst (v := (0 : Int32)) hx hb dX1_joined_102 rfl ?_
        obtain ⟨rfl, rfl⟩ := some2 h
        exact x_iret C0 hP hS dX1_joined_103
      · rw [if_neg c3] at h
        refine lv_iconst (v := (1 : Int32)) hx hb dX1_joined_98 rfl ?_
        refine lv_goto (tgt := 103) hx hb dX1_joined_99 (by decide) ?_
        obtain ⟨rfl, rfl⟩ := some2 h
        exact x_iret C0 hP hS dX1_joined_103
  rw [if_neg c1] at h
  by_cases c4 : x1 = (42 : Int32)
  · rw [if_pos c4] at h
    refine lv_lookup (tgt := 145) (off := 144) hx hb dX1_joined_1 (by decide) (by rw [c4]; decide) (by decide) ?_
    refine lv_iload_n hx hb dX1_joined_145 rfl (lv_at hl 0 rfl) ?_
    refine lv_iload_n hx hb dX1_joined_146 rfl (lv_at hl 2 rfl) ?_
    refine lv_imul hx hb dX1_joined_147 ?_
    obtain ⟨rfl, rfl⟩ := some2 h
    exact x_iret C0 hP hS dX1_joined_148
  rw [if_neg c4] at h
  by_cases c5 : x1 = (43 : Int32)
  · rw [if_pos c5] at h
    refine lv_lookup (tgt := 137) (off := 136) hx hb dX1_joined_1 (by decide) (by rw [c5]; decide) (by decide) ?_
    refine lv_iload_n hx hb dX1_joined_137 rfl (lv_at hl 0 rfl) ?_
    refine lv_iload_n hx hb dX1_joined_138 rfl (lv_at hl 2 rfl) ?_
    refine lv_iadd hx hb dX1_joined_139 ?_
    obtain ⟨rfl, rfl⟩ := some2 h
    exact x_iret C0 hP hS dX1_joined_140
  rw [if_neg c5] at h
  by_cases c6 : x1 = (45 : Int32)
  · rw [if_pos c6] at h
    refine lv_lookup (tgt := 141) (off := 140) hx hb dX1_joined_1 (by decide) (by rw [c6]; decide) (by decide) ?_
    refine lv_iload_n hx hb dX1_joined_141 rfl (lv_at hl 0 rfl) ?_
    refine lv_iload_n hx hb dX1_joined_142 rfl (lv_at hl 2 rfl) ?_
    refine lv_isub hx hb dX1_joined_143 ?_
    obtain ⟨rfl, rfl⟩ := some2 h
    exact x_iret C0 hP hS dX1_joined_144
  rw [if_neg c6] at h
  by_cases c7 : x1 = (60 : Int32)
  · rw [if_pos c7] at h
    refine lv_lookup (tgt := 104) (off := 103) hx hb dX1_joined_1 (by decide) (by rw [c7]; decide) (by decide) ?_
    refine lv_iload_n hx hb dX1_joined_104 rfl (lv_at hl 0 rfl) ?_
    refine lv_iload_n hx hb dX1_joined_105 rfl (lv_at hl 2 rfl) ?_
    refine lv_icmp_ge (tgt := 113) hx hb dX1_joined_106 (by decide) (fun c8 => ?_) (fun c8 => ?_)
    · rw [if_pos c8] at h
      refine lv_iconst (v := (0 : Int32)) hx hb dX1_joined_113 rfl ?_
      obtain ⟨rfl, rfl⟩ := some2 h
      exact x_iret C0 hP hS dX1_joined_114
    · rw [if_neg c8] at h
      refine lv_iconst (v := (1 : Int32)) hx hb dX1_joined_109 rfl ?_
      refine lv_goto (tgt := 114) hx hb dX1_joined_110 (by decide) ?_
      obtain ⟨rfl, rfl⟩ := some2 h
      exact x_iret C0 hP hS dX1_joined_114
  rw [if_neg c7] at h
  by_cases c9 : x1 = (61 : Int32)
  · rw [if_pos c9] at h
    refine lv_lookup (tgt := 115) (off := 114) hx hb dX1_joined_1 (by decide) (by rw [c9]; decide) (by decide) ?_
    refine lv_iload_n hx hb dX1_joined_115 rfl (lv_at hl 0 rfl) ?_
    refine lv_iload_n hx hb dX1_joined_116 rfl (lv_at hl 2 rfl) ?_
    refine lv_icmp_ne (tgt := 124) hx hb dX1_joined_117 (by decide) (fun c10 => ?_) (fun c10 => ?_)
    · rw [if_neg c10] at h
      refine lv_iconst (v := (0 : Int32)) hx hb dX1_joined_124 rfl ?_
      obtain ⟨rfl, rfl⟩ := some2 h
      exact x_iret C0 hP hS dX1_joined_125
    · rw [if_pos c10] at h
      refine lv_iconst (v := (1 : Int32)) hx hb dX1_joined_120 rfl ?_
      refine lv_goto (tgt := 125) hx hb dX1_joined_121 (by decide) ?_
      obtain ⟨rfl, rfl⟩ := some2 h
      exact x_iret C0 hP hS dX1_joined_125
  rw [if_neg c9] at h
  by_cases c11 : x1 = (62 : Int32)
  · rw [if_pos c11] at h
    refine lv_lookup (tgt := 126) (off := 125) hx hb dX1_joined_1 (by decide) (by rw [c11]; decide) (by decide) ?_
    refine lv_iload_n hx hb dX1_joined_126 rfl (lv_at hl 0 rfl) ?_
    refine lv_iload_n hx hb dX1_joined_127 rfl (lv_at hl 2 rfl) ?_
    refine lv_icmp_le (tgt := 135) hx hb dX1_joined_128 (by decide) (fun c12 => ?_) (fun c12 => ?_)
    · rw [if_pos c12] at h
      refine lv_iconst (v := (0 : Int32)) hx hb dX1_joined_135 rfl ?_
      obtain ⟨rfl, rfl⟩ := some2 h
      exact x_iret C0 hP hS dX1_joined_136
    · rw [if_neg c12] at h
      refine lv_iconst (v := (1 : Int32)) hx hb dX1_joined_131 rfl ?_
      refine lv_goto (tgt := 136) hx hb dX1_joined_132 (by decide) ?_
      obtain ⟨rfl, rfl⟩ := some2 h
      exact x_iret C0 hP hS dX1_joined_136
  rw [if_neg c11] at h
  by_cases c13 : x1 = (124 : Int32)
  · rw [if_pos c13] at h
    refine lv_lookup (tgt := 76) (off := 75) hx hb dX1_joined_1 (by decide) (by rw [c13]; decide) (by decide) ?_
    refine lv_iload_n hx hb dX1_joined_76 rfl (lv_at hl 0 rfl) ?_
    refine lv_if_ne (tgt := 84) hx hb dX1_joined_77 (by decide) (fun c14 => ?_) (fun c14 => ?_)
    · rw [if_neg c14] at h
      refine lv_iconst (v := (1 : Int32)) hx hb dX1_joined_84 rfl ?_
      refine lv_goto (tgt := 89) hx hb dX1_joined_85 (by decide) ?_
      obtain ⟨rfl, rfl⟩ := some2 h
      exact x_iret C0 hP hS dX1_joined_89
    · rw [if_pos c14] at h
      refine lv_iload_n hx hb dX1_joined_80 rfl (lv_at hl 2 rfl) ?_
      refine lv_if_eq (tgt := 88) hx hb dX1_joined_81 (by decide) (fun c15 => ?_) (fun c15 => ?_)
      · rw [if_pos c15] at h
        refine lv_iconst (v := (0 : Int32)) hx hb dX1_joined_88 rfl ?_
        obtain ⟨rfl, rfl⟩ := some2 h
        exact x_iret C0 hP hS dX1_joined_89
      · rw [if_neg c15] at h
        refine lv_iconst (v := (1 : Int32)) hx hb dX1_joined_84 rfl ?_
        refine lv_goto (tgt := 89) hx hb dX1_joined_85 (by decide) ?_
        obtain ⟨rfl, rfl⟩ := some2 h
        exact x_iret C0 hP hS dX1_joined_89
  rw [if_neg c13] at h
  have i1 : ¬ x1.toInt = 38 := fun q => c1 (Int32.toInt_inj.mp (q.trans (by decide)))
  have i4 : ¬ x1.toInt = 42 := fun q => c4 (Int32.toInt_inj.mp (q.trans (by decide)))
  have i5 : ¬ x1.toInt = 43 := fun q => c5 (Int32.toInt_inj.mp (q.trans (by decide)))
  have i6 : ¬ x1.toInt = 45 := fun q => c6 (Int32.toInt_inj.mp (q.trans (by decide)))
  have i7 : ¬ x1.toInt = 60 := fun q => c7 (Int32.toInt_inj.mp (q.trans (by decide)))
  have i9 : ¬ x1.toInt = 61 := fun q => c9 (Int32.toInt_inj.mp (q.trans (by decide)))
  have i11 : ¬ x1.toInt = 62 := fun q => c11 (Int32.toInt_inj.mp (q.trans (by decide)))
  have i13 : ¬ x1.toInt = 124 := fun q => c13 (Int32.toInt_inj.mp (q.trans (by decide)))
  refine lv_lookup (tgt := 149) (off := 148) hx hb dX1_joined_1 (by decide) (by simp [Op.lookupswitch.offset, Ne.symm i1, Ne.symm i4, Ne.symm i5, Ne.symm i6, Ne.symm i7, Ne.symm i9, Ne.symm i11, Ne.symm i13]) (by decide) ?_
  refine lv_iload_n hx hb dX1_joined_149 rfl (lv_at hl 2 rfl) ?_
  refine lv_if_ne (tgt := 157) hx hb dX1_joined_150 (by decide) (fun c16 => ?_) (fun c16 => ?_)
  · rw [if_neg c16] at h
    refine lv_iload_n hx hb dX1_joined_157 rfl (lv_at hl 0 rfl) ?_
    refine lv_iload_n hx hb dX1_joined_158 rfl (lv_at hl 2 rfl) ?_
    obtain ⟨z17, h⟩ := gd_some h
    refine lv_idiv hx hb dX1_joined_159 z17 ?_
    obtain ⟨rfl, rfl⟩ := some2 h
    exact x_iret C0 hP hS dX1_joined_160
  · rw [if_pos c16] at h
    refine lv_iconst (v := (0 : Int32)) hx hb dX1_joined_153 rfl ?_
    refine lv_goto (tgt := 160) hx hb dX1_joined_154 (by decide) ?_
    obtain ⟨rfl, rfl⟩ := some2 h
    exact x_iret C0 hP hS dX1_joined_160
def X1_worth_201 (K22 : Int32 → Nat → Int32 → Int32 → Int32 → Int32 → Int32 → Mem → Option (Int32 × Mem)) (x1 : Int32) (a2 : Nat) (x3 : Int32) (x4 : Int32) (x5 : Int32) (x6 : Int32) (x7 : Int32) (μ : Mem) : Option (Int32 × Mem) :=
  K22 x1 a2 x3 x4 x5 x6 (x7 + (1 : Int32)) μ
set_option maxRecDepth 100000 in
set_option maxHeartbeats 4000000 in
theorem w_X1_worth_201 {g : Gx} {p : Program} {l : Launch} {e : Env} {s : State} {m : MethodId} {args : Array Value} {below : List Frame} {meth : Method} {c : Code} (C0 : Cx Lx g p s m args meth c cX1_worth 10 (some .int) RX1) {r : Int32} {ν : Mem} (K22 : Int32 → Nat → Int32 → Int32 → Int32 → Int32 → Int32 → Mem → Option (Int32 × Mem)) (hK22 : ∀ (x1 : Int32) (a2 : Nat) (ha2 : Id2 a2) (x3 : Int32) (x4 : Int32) (x5 : Int32) (x6 : Int32) (x7 : Int32) (μ : Mem) (H : Heap) (locs : List Loc) (ls : Array Slot), Px Lx g μ H → va_S (Ax Lx g) s.heap H locs → lv_has ls 10 [(0, .ref (g.2.2.1 + 8)), (1, .int x1), (2, .ref (g.2.2.1 + a2)), (3, .int x3), (4, .int x4), (5, .int x5), (6, .int x6), (7, .int x7)] → K22 x1 a2 x3 x4 x5 x6 x7 μ = some (r, ν) → W p l e { frames := 1, cells := 0, slots := 0, locals := 23 } s m args below meth c H locs 0 0 (MQ below (Qx Lx g (some (.int r)) ν) args s 0 0 (Ax Lx g)) (F0 m 22 ls [])) (x1 : Int32) (a2 : Nat) (ha2 : Id2 a2) (x3 : Int32) (x4 : Int32) (x5 : Int32) (x6 : Int32) (x7 : Int32) (μ : Mem) (H : Heap) (locs : List Loc) (ls : Array Slot) (hP : Px Lx g μ H) (hS : va_S (Ax Lx g) s.heap H locs) (hl : lv_has ls 10 [(0, .ref (g.2.2.1 + 8)), (1, .int x1), (2, .ref (g.2.2.1 + a2)), (3, .int x3), (4, .int x4), (5, .int x5), (6, .int x6), (7, .int x7)]) (h : X1_worth_201 K22 x1 a2 x3 x4 x5 x6 x7 μ = some (r, ν)) : W p l e { frames := 1, cells := 0, slots := 0, locals := 23 } s m args below meth c H locs 0 0 (MQ below (Qx Lx g (some (.int r)) ν) args s 0 0 (Ax Lx g)) (F0 m 201 ls []) := by
  obtain ⟨hx, hb, hr, hml, hown, hts, hlocks, hK⟩ := id C0
  unfold X1_worth_201 at h
  refine lv_iinc (v := (x7 + (1 : Int32))) (lv' := [(7, .int (x7 + (1 : Int32))), (0, .ref (g.2.2.1 + 8)), (1, .int x1), (2, .ref (g.2.2.1 + a2)), (3, .int x3), (4, .int x4), (5, .int x5), (6, .int x6)]) hx hb dX1_worth_201 hl (k := 7) rfl rfl (by decide) rfl (fun ls hl => ?_)
  refine lv_goto (tgt := 22) hx hb dX1_worth_204 (by decide) ?_
  exact hK22 x1 a2 ha2 x3 x4 x5 x6 (x7 + (1 : Int32)) μ _ _ _ hP hS (lv_sub hl [1, 2, 3, 4, 5, 6, 7, 0] rfl) h
def X1_worth_161 (K22 : Int32 → Nat → Int32 → Int32 → Int32 → Int32 → Int32 → Mem → Option (Int32 × Mem)) (x1 : Int32) (a2 : Nat) (x3 : Int32) (x4 : Int32) (x5 : Int32) (x6 : Int32) (x7 : Int32) (x8 : Int32) (μ : Mem) : Option (Int32 × Mem) :=
  (if x6 < (2 : Int32) then X1_worth_201 K22 x1 a2 x3 x4 x5 x6 x7 μ else gd (inB ((x6 + (-1 : Int32)) - (1 : Int32)) 60) (gd (inB (x6 + (-1 : Int32)) 60) (ob2 (X1_joined (μ 13 ((x6 + (-1 : Int32)) - (1 : Int32)).toNatClampNeg) (-x8) (μ 13 (x6 + (-1 : Int32)).toNatClampNeg) μ) fun r13 μ13 => gd (inB ((x6 + (-1 : Int32)) - (1 : Int32)) 60) (lt (st μ13 13 ((x6 + (-1 : Int32)) - (1 : Int32)).toNatClampNeg r13) fun μ15 => X1_worth_201 K22 x1 a2 x3 x4 x5 (x6 + (-1 : Int32)) x7 μ15))))
set_option maxRecDepth 100000 in
set_option maxHeartbeats 4000000 in
theorem w_X1_worth_161 {g : Gx} {p : Program} {l : Launch} {e : Env} {s : State} {m : MethodId} {args : Array Value} {below : List Frame} {meth : Method} {c : Code} (C0 : Cx Lx g p s m args meth c cX1_worth 10 (some .int) RX1) {r : Int32} {ν : Mem} (K22 : Int32 → Nat → Int32 → Int32 → Int32 → Int32 → Int32 → Mem → Option (Int32 × Mem)) (hK22 : ∀ (x1 : Int32) (a2 : Nat) (ha2 : Id2 a2) (x3 : Int32) (x4 : Int32) (x5 : Int32) (x6 : Int32) (x7 : Int32) (μ : Mem) (H : Heap) (locs : List Loc) (ls : Array Slot), Px Lx g μ H → va_S (Ax Lx g) s.heap H locs → lv_has ls 10 [(0, .ref (g.2.2.1 + 8)), (1, .int x1), (2, .ref (g.2.2.1 + a2)), (3, .int x3), (4, .int x4), (5, .int x5), (6, .int x6), (7, .int x7)] → K22 x1 a2 x3 x4 x5 x6 x7 μ = some (r, ν) → W p l e { frames := 1, cells := 0, slots := 0, locals := 23 } s m args below meth c H locs 0 0 (MQ below (Qx Lx g (some (.int r)) ν) args s 0 0 (Ax Lx g)) (F0 m 22 ls [])) (x1 : Int32) (a2 : Nat) (ha2 : Id2 a2) (x3 : Int32) (x4 : Int32) (x5 : Int32) (x6 : Int32) (x7 : Int32) (x8 : Int32) (μ : Mem) (H : Heap) (locs : List Loc) (ls : Array Slot) (hP : Px Lx g μ H) (hS : va_S (Ax Lx g) s.heap H locs) (hl : lv_has ls 10 [(0, .ref (g.2.2.1 + 8)), (1, .int x1), (2, .ref (g.2.2.1 + a2)), (3, .int x3), (4, .int x4), (5, .int x5), (6, .int x6), (7, .int x7), (8, .int x8)]) (h : X1_worth_161 K22 x1 a2 x3 x4 x5 x6 x7 x8 μ = some (r, ν)) : W p l e { frames := 1, cells := 0, slots := 0, locals := 23 } s m args below meth c H locs 0 0 (MQ below (Qx Lx g (some (.int r)) ν) args s 0 0 (Ax Lx g)) (F0 m 161 ls []) := by
  obtain ⟨hx, hb, hr, hml, hown, hts, hlocks, hK⟩ := id C0
  unfold X1_worth_161 at h
  refine lv_iload hx hb dX1_worth_161 (lv_at hl 6 rfl) ?_
  refine lv_iconst (v := (2 : Int32)) hx hb dX1_worth_163 rfl ?_
  refine lv_icmp_lt (tgt := 201) hx hb dX1_worth_164 (by decide) (fun c10 => ?_) (fun c10 => ?_)
  · rw [if_pos c10] at h
    exact w_X1_worth_201 C0 K22 hK22 x1 a2 ha2 x3 x4 x5 x6 x7 μ _ _ _ hP hS (lv_sub hl [0, 1, 2, 3, 4, 5, 6, 7] rfl) h
  · rw [if_neg c10] at h
    refine lv_iinc (v := (x6 + (-1 : Int32))) (lv' := [(6, .int (x6 + (-1 : Int32))), (0, .ref (g.2.2.1 + 8)), (1, .int x1), (2, .ref (g.2.2.1 + a2)), (3, .int x3), (4, .int x4), (5, .int x5), (7, .int x7), (8, .int x8)]) hx hb dX1_worth_167 hl (k := 6) rfl rfl (by decide) rfl (fun ls hl => ?_)
    refine lv_aload_n hx hb dX1_worth_170 rfl (lv_at hl 1 rfl) ?_
    refine x_get C0 hP inu1 (k := 8) cx_8 (by decide) rfl 4 (by decide) q1_65 rfl (v := .ref (g.2.2.1 + 13)) rfl dX1_worth_171 ?_
    refine lv_iload hx hb dX1_worth_174 (lv_at hl 0 rfl) ?_
    refine lv_iconst (v := (1 : Int32)) hx hb dX1_worth_176 rfl ?_
    refine lv_isub hx hb dX1_worth_177 ?_
    refine lv_aload_n hx hb dX1_worth_178 rfl (lv_at hl 1 rfl) ?_
    refine x_get C0 hP inu1 (k := 8) cx_8 (by decide) rfl 4 (by decide) q1_65 rfl (v := .ref (g.2.2.1 + 13)) rfl dX1_worth_179 ?_
    refine lv_iload hx hb dX1_worth_182 (lv_at hl 0 rfl) ?_
    refine lv_iconst (v := (1 : Int32)) hx hb dX1_worth_184 rfl ?_
    refine lv_isub hx hb dX1_worth_185 ?_
    obtain ⟨z11, h⟩ := gd_some h
    refine x_iald C0 hP (k := 13) cx_13 (j := ((x6 + (-1 : Int32)) - (1 : Int32)).toNatClampNeg) z11 rfl dX1_worth_186 ?_
    refine lv_iload hx hb dX1_worth_187 (lv_at hl 8 rfl) ?_
    refine lv_ineg hx hb dX1_worth_189 ?_
    refine lv_aload_n hx hb dX1_worth_190 rfl (lv_at hl 1 rfl) ?_
    refine x_get C0 hP inu1 (k := 8) cx_8 (by decide) rfl 4 (by decide) q1_65 rfl (v := .ref (g.2.2.1 + 13)) rfl dX1_worth_191 ?_
    refine lv_iload hx hb dX1_worth_194 (lv_at hl 0 rfl) ?_
    obtain ⟨z12, h⟩ := gd_some h
    refine x_iald C0 hP (k := 13) cx_13 (j := (x6 + (-1 : Int32)).toNatClampNeg) z12 rfl dX1_worth_196 ?_
    obtain ⟨r13, μ13, h1, h⟩ := ob2_some h
    refine x_callS C0 (rest := [.int ((x6 + (-1 : Int32)) - (1 : Int32)), .ref (g.2.2.1 + 13)]) (c_X1_joined l g (μ 13 ((x6 + (-1 : Int32)) - (1 : Int32)).toNatClampNeg) (-x8) (μ 13 (x6 + (-1 : Int32)).toNatClampNeg) μ h1) q2_219 q2_217 q2_218 q1_4 hd_X1_joined ⟨rfl, rfl⟩ ⟨Nat.le_of_ble_eq_true rfl, Nat.le_of_ble_eq_true rfl⟩ hP hS hl.1 rfl rfl (Nat.le_of_ble_eq_true rfl) dX1_worth_197 (fun H locs hP hS => ?_)
    refine W.eq (g2 := F0 m 200 ls [.int r13, .int ((x6 + (-1 : Int32)) - (1 : Int32)), .ref (g.2.2.1 + 13)]) rfl ?_
    obtain ⟨z14, h⟩ := gd_some h
    obtain ⟨μ15, e15, h⟩ := lt_some h
    refine x_iast C0 hP hS (k := 13) cx_13 (j := ((x6 + (-1 : Int32)) - (1 : Int32)).toNatClampNeg) z14 rfl dX1_worth_200 (fun H locs hP hS => ?_)
    rw [← e15] at hP
    exact w_X1_worth_201 C0 K22 hK22 x1 a2 ha2 x3 x4 x5 (x6 + (-1 : Int32)) x7 μ15 _ _ _ hP hS (lv_sub hl [1, 2, 3, 4, 5, 6, 0, 7] rfl) h
def X1_worth_157 (K22 : Int32 → Nat → Int32 → Int32 → Int32 → Int32 → Int32 → Mem → Option (Int32 × Mem)) (x1 : Int32) (a2 : Nat) (x3 : Int32) (x4 : Int32) (x5 : Int32) (x6 : Int32) (x7 : Int32) (t1 : Int32) (t2 : Int32) (μ : Mem) : Option (Int32 × Mem) :=
  gd (inB t1 60) (lt (st μ 13 t1.toNatClampNeg t2) fun μ20 => X1_worth_201 K22 x1 a2 x3 x4 x5 x6 x7 μ20)
set_option maxRecDepth 100000 in
set_option maxHeartbeats 4000000 in
theorem w_X1_worth_157 {g : Gx} {p : Program} {l : Launch} {e : Env} {s : State} {m : MethodId} {args : Array Value} {below : List Frame} {meth : Method} {c : Code} (C0 : Cx Lx g p s m args meth c cX1_worth 10 (some .int) RX1) {r : Int32} {ν : Mem} (K22 : Int32 → Nat → Int32 → Int32 → Int32 → Int32 → Int32 → Mem → Option (Int32 × Mem)) (hK22 : ∀ (x1 : Int32) (a2 : Nat) (ha2 : Id2 a2) (x3 : Int32) (x4 : Int32) (x5 : Int32) (x6 : Int32) (x7 : Int32) (μ : Mem) (H : Heap) (locs : List Loc) (ls : Array Slot), Px Lx g μ H → va_S (Ax Lx g) s.heap H locs → lv_has ls 10 [(0, .ref (g.2.2.1 + 8)), (1, .int x1), (2, .ref (g.2.2.1 + a2)), (3, .int x3), (4, .int x4), (5, .int x5), (6, .int x6), (7, .int x7)] → K22 x1 a2 x3 x4 x5 x6 x7 μ = some (r, ν) → W p l e { frames := 1, cells := 0, slots := 0, locals := 23 } s m args below meth c H locs 0 0 (MQ below (Qx Lx g (some (.int r)) ν) args s 0 0 (Ax Lx g)) (F0 m 22 ls [])) (x1 : Int32) (a2 : Nat) (ha2 : Id2 a2) (x3 : Int32) (x4 : Int32) (x5 : Int32) (x6 : Int32) (x7 : Int32) (t1 : Int32) (t2 : Int32) (μ : Mem) (H : Heap) (locs : List Loc) (ls : Array Slot) (hP : Px Lx g μ H) (hS : va_S (Ax Lx g) s.heap H locs) (hl : lv_has ls 10 [(0, .ref (g.2.2.1 + 8)), (1, .int x1), (2, .ref (g.2.2.1 + a2)), (3, .int x3), (4, .int x4), (5, .int x5), (6, .int x6), (7, .int x7)]) (h : X1_worth_157 K22 x1 a2 x3 x4 x5 x6 x7 t1 t2 μ = some (r, ν)) : W p l e { frames := 1, cells := 0, slots := 0, locals := 23 } s m args below meth c H locs 0 0 (MQ below (Qx Lx g (some (.int r)) ν) args s 0 0 (Ax Lx g)) (F0 m 157 ls [.int t2, .int t1, .ref (g.2.2.1 + 13)]) := by
  obtain ⟨hx, hb, hr, hml, hown, hts, hlocks, hK⟩ := id C0
  unfold X1_worth_157 at h
  obtain ⟨z19, h⟩ := gd_some h
  obtain ⟨μ20, e20, h⟩ := lt_some h
  refine x_iast C0 hP hS (k := 13) cx_13 (j := t1.toNatClampNeg) z19 rfl dX1_worth_157 (fun H locs hP hS => ?_)
  rw [← e20] at hP
  refine lv_goto (tgt := 201) hx hb dX1_worth_158 (by decide) ?_
  exact w_X1_worth_201 C0 K22 hK22 x1 a2 ha2 x3 x4 x5 x6 x7 μ20 _ _ _ hP hS (lv_sub hl [0, 1, 2, 3, 4, 5, 6, 7] rfl) h
def X1_worth_119 (K22 : Int32 → Nat → Int32 → Int32 → Int32 → Int32 → Int32 → Mem → Option (Int32 × Mem)) (x1 : Int32) (a2 : Nat) (x3 : Int32) (x4 : Int32) (x5 : Int32) (x6 : Int32) (x7 : Int32) (x8 : Int32) (μ : Mem) : Option (Int32 × Mem) :=
  (if x8 = (-33 : Int32) then (if x6 < (1 : Int32) then X1_worth_161 K22 x1 a2 x3 x4 x5 x6 x7 x8 μ else gd (inB (x6 - (1 : Int32)) 60) ((if (μ 13 (x6 - (1 : Int32)).toNatClampNeg) = (0 : Int32) then X1_worth_157 K22 x1 a2 x3 x4 x5 x6 x7 (x6 - (1 : Int32)) (1 : Int32) μ else X1_worth_157 K22 x1 a2 x3 x4 x5 x6 x7 (x6 - (1 : Int32)) (0 : Int32) μ))) else X1_worth_161 K22 x1 a2 x3 x4 x5 x6 x7 x8 μ)
set_option maxRecDepth 100000 in
set_option maxHeartbeats 4000000 in
theorem w_X1_worth_119 {g : Gx} {p : Program} {l : Launch} {e : Env} {s : State} {m : MethodId} {args : Array Value} {below : List Frame} {meth : Method} {c : Code} (C0 : Cx Lx g p s m args meth c cX1_worth 10 (some .int) RX1) {r : Int32} {ν : Mem} (K22 : Int32 → Nat → Int32 → Int32 → Int32 → Int32 → Int32 → Mem → Option (Int32 × Mem)) (hK22 : ∀ (x1 : Int32) (a2 : Nat) (ha2 : Id2 a2) (x3 : Int32) (x4 : Int32) (x5 : Int32) (x6 : Int32) (x7 : Int32) (μ : Mem) (H : Heap) (locs : List Loc) (ls : Array Slot), Px Lx g μ H → va_S (Ax Lx g) s.heap H locs → lv_has ls 10 [(0, .ref (g.2.2.1 + 8)), (1, .int x1), (2, .ref (g.2.2.1 + a2)), (3, .int x3), (4, .int x4), (5, .int x5), (6, .int x6), (7, .int x7)] → K22 x1 a2 x3 x4 x5 x6 x7 μ = some (r, ν) → W p l e { frames := 1, cells := 0, slots := 0, locals := 23 } s m args below meth c H locs 0 0 (MQ below (Qx Lx g (some (.int r)) ν) args s 0 0 (Ax Lx g)) (F0 m 22 ls [])) (x1 : Int32) (a2 : Nat) (ha2 : Id2 a2) (x3 : Int32) (x4 : Int32) (x5 : Int32) (x6 : Int32) (x7 : Int32) (x8 : Int32) (μ : Mem) (H : Heap) (locs : List Loc) (ls : Array Slot) (hP : Px Lx g μ H) (hS : va_S (Ax Lx g) s.heap H locs) (hl : lv_has ls 10 [(0, .ref (g.2.2.1 + 8)), (1, .int x1), (2, .ref (g.2.2.1 + a2)), (3, .int x3), (4, .int x4), (5, .int x5), (6, .int x6), (7, .int x7), (8, .int x8)]) (h : X1_worth_119 K22 x1 a2 x3 x4 x5 x6 x7 x8 μ = some (r, ν)) : W p l e { frames := 1, cells := 0, slots := 0, locals := 23 } s m args below meth c H locs 0 0 (MQ below (Qx Lx g (some (.int r)) ν) args s 0 0 (Ax Lx g)) (F0 m 119 ls []) := by
  obtain ⟨hx, hb, hr, hml, hown, hts, hlocks, hK⟩ := id C0
  unfold X1_worth_119 at h
  refine lv_iload hx hb dX1_worth_119 (lv_at hl 8 rfl) ?_
  refine lv_bipush (v := (-33 : Int32)) hx hb dX1_worth_121 (by decide +kernel) ?_
  refine lv_icmp_ne (tgt := 161) hx hb dX1_worth_123 (by decide) (fun c9 => ?_) (fun c9 => ?_)
  · rw [if_neg c9] at h
    exact w_X1_worth_161 C0 K22 hK22 x1 a2 ha2 x3 x4 x5 x6 x7 x8 μ _ _ _ hP hS (lv_sub hl [0, 1, 2, 3, 4, 5, 6, 7, 8] rfl) h
  · rw [if_pos c9] at h
    refine lv_iload hx hb dX1_worth_126 (lv_at hl 6 rfl) ?_
    refine lv_iconst (v := (1 : Int32)) hx hb dX1_worth_128 rfl ?_
    refine lv_icmp_lt (tgt := 161) hx hb dX1_worth_129 (by decide) (fun c16 => ?_) (fun c16 => ?_)
    · rw [if_pos c16] at h
      exact w_X1_worth_161 C0 K22 hK22 x1 a2 ha2 x3 x4 x5 x6 x7 x8 μ _ _ _ hP hS (lv_sub hl [0, 1, 2, 3, 4, 5, 6, 7, 8] rfl) h
    · rw [if_neg c16] at h
      refine lv_aload_n hx hb dX1_worth_132 rfl (lv_at hl 0 rfl) ?_
      refine x_get C0 hP inu1 (k := 8) cx_8 (by decide) rfl 4 (by decide) q1_65 rfl (v := .ref (g.2.2.1 + 13)) rfl dX1_worth_133 ?_
      refine lv_iload hx hb dX1_worth_136 (lv_at hl 6 rfl) ?_
      refine lv_iconst (v := (1 : Int32)) hx hb dX1_worth_138 rfl ?_
      refine lv_isub hx hb dX1_worth_139 ?_
      refine lv_aload_n hx hb dX1_worth_140 rfl (lv_at hl 0 rfl) ?_
      refine x_get C0 hP inu1 (k := 8) cx_8 (by decide) rfl 4 (by decide) q1_65 rfl (v := .ref (g.2.2.1 + 13)) rfl dX1_worth_141 ?_
      refine lv_iload hx hb dX1_worth_144 (lv_at hl 6 rfl) ?_
      refine lv_iconst (v := (1 : Int32)) hx hb dX1_worth_146 rfl ?_
      refine lv_isub hx hb dX1_worth_147 ?_
      obtain ⟨z17, h⟩ := gd_some h
      refine x_iald C0 hP (k := 13) cx_13 (j := (x6 - (1 : Int32)).toNatClampNeg) z17 rfl dX1_worth_148 ?_
      refine lv_if_ne (tgt := 156) hx hb dX1_worth_149 (by decide) (fun c18 => ?_) (fun c18 => ?_)
      · rw [if_neg c18] at h
        refine lv_iconst (v := (0 : Int32)) hx hb dX1_worth_156 rfl ?_
        exact w_X1_worth_157 C0 K22 hK22 x1 a2 ha2 x3 x4 x5 x6 x7 (x6 - (1 : Int32)) (0 : Int32) μ _ _ _ hP hS (lv_sub hl [0, 1, 2, 3, 4, 5, 6, 7] rfl) h
      · rw [if_pos c18] at h
        refine lv_iconst (v := (1 : Int32)) hx hb dX1_worth_152 rfl ?_
        refine lv_goto (tgt := 157) hx hb dX1_worth_153 (by decide) ?_
        exact w_X1_worth_157 C0 K22 hK22 x1 a2 ha2 x3 x4 x5 x6 x7 (x6 - (1 : Int32)) (1 : Int32) μ _ _ _ hP hS (lv_sub hl [0, 1, 2, 3, 4, 5, 6, 7] rfl) h
def X1_worth_112 (K22 : Int32 → Nat → Int32 → Int32 → Int32 → Int32 → Int32 → Mem → Option (Int32 × Mem)) (x1 : Int32) (a2 : Nat) (x3 : Int32) (x4 : Int32) (x5 : Int32) (x6 : Int32) (x7 : Int32) (t1 : Int32) (t2 : Int32) (μ : Mem) : Option (Int32 × Mem) :=
  gd (inB t1 60) (lt (st μ 13 t1.toNatClampNeg t2) fun μ23 => X1_worth_201 K22 x1 a2 x3 x4 x5 (x6 + (1 : Int32)) x7 μ23)
set_option maxRecDepth 100000 in
set_option maxHeartbeats 4000000 in
theorem w_X1_worth_112 {g : Gx} {p : Program} {l : Launch} {e : Env} {s : State} {m : MethodId} {args : Array Value} {below : List Frame} {meth : Method} {c : Code} (C0 : Cx Lx g p s m args meth c cX1_worth 10 (some .int) RX1) {r : Int32} {ν : Mem} (K22 : Int32 → Nat → Int32 → Int32 → Int32 → Int32 → Int32 → Mem → Option (Int32 × Mem)) (hK22 : ∀ (x1 : Int32) (a2 : Nat) (ha2 : Id2 a2) (x3 : Int32) (x4 : Int32) (x5 : Int32) (x6 : Int32) (x7 : Int32) (μ : Mem) (H : Heap) (locs : List Loc) (ls : Array Slot), Px Lx g μ H → va_S (Ax Lx g) s.heap H locs → lv_has ls 10 [(0, .ref (g.2.2.1 + 8)), (1, .int x1), (2, .ref (g.2.2.1 + a2)), (3, .int x3), (4, .int x4), (5, .int x5), (6, .int x6), (7, .int x7)] → K22 x1 a2 x3 x4 x5 x6 x7 μ = some (r, ν) → W p l e { frames := 1, cells := 0, slots := 0, locals := 23 } s m args below meth c H locs 0 0 (MQ below (Qx Lx g (some (.int r)) ν) args s 0 0 (Ax Lx g)) (F0 m 22 ls [])) (x1 : Int32) (a2 : Nat) (ha2 : Id2 a2) (x3 : Int32) (x4 : Int32) (x5 : Int32) (x6 : Int32) (x7 : Int32) (t1 : Int32) (t2 : Int32) (μ : Mem) (H : Heap) (locs : List Loc) (ls : Array Slot) (hP : Px Lx g μ H) (hS : va_S (Ax Lx g) s.heap H locs) (hl : lv_has ls 10 [(0, .ref (g.2.2.1 + 8)), (1, .int x1), (2, .ref (g.2.2.1 + a2)), (3, .int x3), (4, .int x4), (5, .int x5), (6, .int x6), (7, .int x7)]) (h : X1_worth_112 K22 x1 a2 x3 x4 x5 x6 x7 t1 t2 μ = some (r, ν)) : W p l e { frames := 1, cells := 0, slots := 0, locals := 23 } s m args below meth c H locs 0 0 (MQ below (Qx Lx g (some (.int r)) ν) args s 0 0 (Ax Lx g)) (F0 m 112 ls [.int t2, .int t1, .ref (g.2.2.1 + 13)]) := by
  obtain ⟨hx, hb, hr, hml, hown, hts, hlocks, hK⟩ := id C0
  unfold X1_worth_112 at h
  obtain ⟨z22, h⟩ := gd_some h
  obtain ⟨μ23, e23, h⟩ := lt_some h
  refine x_iast C0 hP hS (k := 13) cx_13 (j := t1.toNatClampNeg) z22 rfl dX1_worth_112 (fun H locs hP hS => ?_)
  rw [← e23] at hP
  refine lv_iinc (v := (x6 + (1 : Int32))) (lv' := [(6, .int (x6 + (1 : Int32))), (0, .ref (g.2.2.1 + 8)), (1, .int x1), (2, .ref (g.2.2.1 + a2)), (3, .int x3), (4, .int x4), (5, .int x5), (7, .int x7)]) hx hb dX1_worth_113 hl (k := 6) rfl rfl (by decide) rfl (fun ls hl => ?_)
  refine lv_goto (tgt := 201) hx hb dX1_worth_116 (by decide) ?_
  exact w_X1_worth_201 C0 K22 hK22 x1 a2 ha2 x3 x4 x5 (x6 + (1 : Int32)) x7 μ23 _ _ _ hP hS (lv_sub hl [1, 2, 3, 4, 5, 6, 0, 7] rfl) h
def X1_worth_76 (K22 : Int32 → Nat → Int32 → Int32 → Int32 → Int32 → Int32 → Mem → Option (Int32 × Mem)) (x1 : Int32) (a2 : Nat) (x3 : Int32) (x4 : Int32) (x5 : Int32) (x6 : Int32) (x7 : Int32) (x8 : Int32) (x9 : Int32) (μ : Mem) : Option (Int32 × Mem) :=
  (if (60 : Int32) ≤ x6 then X1_worth_119 K22 x1 a2 x3 x4 x5 x6 x7 x8 μ else (if x9 = (0 : Int32) then X1_worth_112 K22 x1 a2 x3 x4 x5 x6 x7 x6 x8 μ else ob2 (X1_named (-x8) a2 x3 x4 μ) fun r24 μ24 => X1_worth_112 K22 x1 a2 x3 x4 x5 x6 x7 x6 r24 μ24))
set_option maxRecDepth 100000 in
set_option maxHeartbeats 4000000 in
theorem w_X1_worth_76 {g : Gx} {p : Program} {l : Launch} {e : Env} {s : State} {m : MethodId} {args : Array Value} {below : List Frame} {meth : Method} {c : Code} (C0 : Cx Lx g p s m args meth c cX1_worth 10 (some .int) RX1) {r : Int32} {ν : Mem} (K22 : Int32 → Nat → Int32 → Int32 → Int32 → Int32 → Int32 → Mem → Option (Int32 × Mem)) (hK22 : ∀ (x1 : Int32) (a2 : Nat) (ha2 : Id2 a2) (x3 : Int32) (x4 : Int32) (x5 : Int32) (x6 : Int32) (x7 : Int32) (μ : Mem) (H : Heap) (locs : List Loc) (ls : Array Slot), Px Lx g μ H → va_S (Ax Lx g) s.heap H locs → lv_has ls 10 [(0, .ref (g.2.2.1 + 8)), (1, .int x1), (2, .ref (g.2.2.1 + a2)), (3, .int x3), (4, .int x4), (5, .int x5), (6, .int x6), (7, .int x7)] → K22 x1 a2 x3 x4 x5 x6 x7 μ = some (r, ν) → W p l e { frames := 1, cells := 0, slots := 0, locals := 23 } s m args below meth c H locs 0 0 (MQ below (Qx Lx g (some (.int r)) ν) args s 0 0 (Ax Lx g)) (F0 m 22 ls [])) (x1 : Int32) (a2 : Nat) (ha2 : Id2 a2) (x3 : Int32) (x4 : Int32) (x5 : Int32) (x6 : Int32) (x7 : Int32) (x8 : Int32) (x9 : Int32) (μ : Mem) (H : Heap) (locs : List Loc) (ls : Array Slot) (hP : Px Lx g μ H) (hS : va_S (Ax Lx g) s.heap H locs) (hl : lv_has ls 10 [(0, .ref (g.2.2.1 + 8)), (1, .int x1), (2, .ref (g.2.2.1 + a2)), (3, .int x3), (4, .int x4), (5, .int x5), (6, .int x6), (7, .int x7), (8, .int x8), (9, .int x9)]) (h : X1_worth_76 K22 x1 a2 x3 x4 x5 x6 x7 x8 x9 μ = some (r, ν)) : W p l e { frames := 1, cells := 0, slots := 0, locals := 23 } s m args below meth c H locs 0 0 (MQ below (Qx Lx g (some (.int r)) ν) args s 0 0 (Ax Lx g)) (F0 m 76 ls []) := by
  obtain ⟨hx, hb, hr, hml, hown, hts, hlocks, hK⟩ := id C0
  unfold X1_worth_76 at h
  refine lv_iload hx hb dX1_worth_76 (lv_at hl 6 rfl) ?_
  refine lv_aload_n hx hb dX1_worth_78 rfl (lv_at hl 0 rfl) ?_
  refine x_get C0 hP inu1 (k := 8) cx_8 (by decide) rfl 4 (by decide) q1_65 rfl (v := .ref (g.2.2.1 + 13)) rfl dX1_worth_79 ?_
  refine x_alen C0 hP (k := 13) (Or.inl cx_13) (v := (60 : Int32)) rfl dX1_worth_82 ?_
  refine lv_icmp_ge (tgt := 119) hx hb dX1_worth_83 (by decide) (fun c8 => ?_) (fun c8 => ?_)
  · rw [if_pos c8] at h
    exact w_X1_worth_119 C0 K22 hK22 x1 a2 ha2 x3 x4 x5 x6 x7 x8 μ _ _ _ hP hS (lv_sub hl [0, 1, 2, 3, 4, 5, 6, 7, 8] rfl) h
  · rw [if_neg c8] at h
    refine lv_aload_n hx hb dX1_worth_86 rfl (lv_at hl 0 rfl) ?_
    refine x_get C0 hP inu1 (k := 8) cx_8 (by decide) rfl 4 (by decide) q1_65 rfl (v := .ref (g.2.2.1 + 13)) rfl dX1_worth_87 ?_
    refine lv_iload hx hb dX1_worth_90 (lv_at hl 6 rfl) ?_
    refine lv_iload hx hb dX1_worth_92 (lv_at hl 9 rfl) ?_
    refine lv_if_eq (tgt := 110) hx hb dX1_worth_94 (by decide) (fun c21 => ?_) (fun c21 => ?_)
    · rw [if_pos c21] at h
      refine lv_iload hx hb dX1_worth_110 (lv_at hl 8 rfl) ?_
      exact w_X1_worth_112 C0 K22 hK22 x1 a2 ha2 x3 x4 x5 x6 x7 x6 x8 μ _ _ _ hP hS (lv_sub hl [0, 1, 2, 3, 4, 5, 6, 7] rfl) h
    · rw [if_neg c21] at h
      refine lv_iload hx hb dX1_worth_97 (lv_at hl 8 rfl) ?_
      refine lv_ineg hx hb dX1_worth_99 ?_
      refine lv_aload_n hx hb dX1_worth_100 rfl (lv_at hl 2 rfl) ?_
      refine lv_iload_n hx hb dX1_worth_101 rfl (lv_at hl 3 rfl) ?_
      refine lv_iload hx hb dX1_worth_102 (lv_at hl 4 rfl) ?_
      obtain ⟨r24, μ24, h1, h⟩ := ob2_some h
      refine x_callS C0 (rest := [.int x6, .ref (g.2.2.1 + 13)]) (c_X1_named l g (-x8) a2 ha2 x3 x4 μ h1) q2_216 q2_214 q2_215 q1_4 hd_X1_named ⟨rfl, rfl⟩ ⟨Nat.le_of_ble_eq_true rfl, Nat.le_of_ble_eq_true rfl⟩ hP hS hl.1 rfl rfl (Nat.le_of_ble_eq_true rfl) dX1_worth_104 (fun H locs hP hS => ?_)
      refine W.eq (g2 := F0 m 107 ls [.int r24, .int x6, .ref (g.2.2.1 + 13)]) rfl ?_
      refine lv_goto (tgt := 112) hx hb dX1_worth_107 (by decide) ?_
      exact w_X1_worth_112 C0 K22 hK22 x1 a2 ha2 x3 x4 x5 x6 x7 x6 r24 μ24 _ _ _ hP hS (lv_sub hl [0, 1, 2, 3, 4, 5, 6, 7] rfl) h
def X1_worth_64 (K22 : Int32 → Nat → Int32 → Int32 → Int32 → Int32 → Int32 → Mem → Option (Int32 × Mem)) (x1 : Int32) (a2 : Nat) (x3 : Int32) (x4 : Int32) (x5 : Int32) (x6 : Int32) (x7 : Int32) (x8 : Int32) (t0 : Int32) (μ : Mem) : Option (Int32 × Mem) :=
  (if (0 : Int32) ≤ x8 then X1_worth_76 K22 x1 a2 x3 x4 x5 x6 x7 x8 t0 μ else (if t0 = (0 : Int32) then X1_worth_119 K22 x1 a2 x3 x4 x5 x6 x7 x8 μ else X1_worth_76 K22 x1 a2 x3 x4 x5 x6 x7 x8 t0 μ))
set_option maxRecDepth 100000 in
set_option maxHeartbeats 4000000 in
theorem w_X1_worth_64 {g : Gx} {p : Program} {l : Launch} {e : Env} {s : State} {m : MethodId} {args : Array Value} {below : List Frame} {meth : Method} {c : Code} (C0 : Cx Lx g p s m args meth c cX1_worth 10 (some .int) RX1) {r : Int32} {ν : Mem} (K22 : Int32 → Nat → Int32 → Int32 → Int32 → Int32 → Int32 → Mem → Option (Int32 × Mem)) (hK22 : ∀ (x1 : Int32) (a2 : Nat) (ha2 : Id2 a2) (x3 : Int32) (x4 : Int32) (x5 : Int32) (x6 : Int32) (x7 : Int32) (μ : Mem) (H : Heap) (locs : List Loc) (ls : Array Slot), Px Lx g μ H → va_S (Ax Lx g) s.heap H locs → lv_has ls 10 [(0, .ref (g.2.2.1 + 8)), (1, .int x1), (2, .ref (g.2.2.1 + a2)), (3, .int x3), (4, .int x4), (5, .int x5), (6, .int x6), (7, .int x7)] → K22 x1 a2 x3 x4 x5 x6 x7 μ = some (r, ν) → W p l e { frames := 1, cells := 0, slots := 0, locals := 23 } s m args below meth c H locs 0 0 (MQ below (Qx Lx g (some (.int r)) ν) args s 0 0 (Ax Lx g)) (F0 m 22 ls [])) (x1 : Int32) (a2 : Nat) (ha2 : Id2 a2) (x3 : Int32) (x4 : Int32) (x5 : Int32) (x6 : Int32) (x7 : Int32) (x8 : Int32) (t0 : Int32) (μ : Mem) (H : Heap) (locs : List Loc) (ls : Array Slot) (hP : Px Lx g μ H) (hS : va_S (Ax Lx g) s.heap H locs) (hl : lv_has ls 10 [(0, .ref (g.2.2.1 + 8)), (1, .int x1), (2, .ref (g.2.2.1 + a2)), (3, .int x3), (4, .int x4), (5, .int x5), (6, .int x6), (7, .int x7), (8, .int x8)]) (h : X1_worth_64 K22 x1 a2 x3 x4 x5 x6 x7 x8 t0 μ = some (r, ν)) : W p l e { frames := 1, cells := 0, slots := 0, locals := 23 } s m args below meth c H locs 0 0 (MQ below (Qx Lx g (some (.int r)) ν) args s 0 0 (Ax Lx g)) (F0 m 64 ls [.int t0]) := by
  obtain ⟨hx, hb, hr, hml, hown, hts, hlocks, hK⟩ := id C0
  unfold X1_worth_64 at h
  refine lv_istore (lv' := [(9, .int t0), (0, .ref (g.2.2.1 + 8)), (1, .int x1), (2, .ref (g.2.2.1 + a2)), (3, .int x3), (4, .int x4), (5, .int x5), (6, .int x6), (7, .int x7), (8, .int x8)]) hx hb dX1_worth_64 hl (by decide) rfl (fun ls hl => ?_)
  refine lv_iload hx hb dX1_worth_66 (lv_at hl 9 rfl) ?_
  refine lv_if_ge (tgt := 76) hx hb dX1_worth_68 (by decide) (fun c7 => ?_) (fun c7 => ?_)
  · rw [if_pos c7] at h
    exact w_X1_worth_76 C0 K22 hK22 x1 a2 ha2 x3 x4 x5 x6 x7 x8 t0 μ _ _ _ hP hS (lv_sub hl [1, 2, 3, 4, 5, 6, 7, 8, 9, 0] rfl) h
  · rw [if_neg c7] at h
    refine lv_iload hx hb dX1_worth_71 (lv_at hl 0 rfl) ?_
    refine lv_if_eq (tgt := 119) hx hb dX1_worth_73 (by decide) (fun c25 => ?_) (fun c25 => ?_)
    · rw [if_pos c25] at h
      exact w_X1_worth_119 C0 K22 hK22 x1 a2 ha2 x3 x4 x5 x6 x7 x8 μ _ _ _ hP hS (lv_sub hl [1, 2, 3, 4, 5, 6, 7, 8, 9] rfl) h
    · rw [if_neg c25] at h
      exact w_X1_worth_76 C0 K22 hK22 x1 a2 ha2 x3 x4 x5 x6 x7 x8 t0 μ _ _ _ hP hS (lv_sub hl [1, 2, 3, 4, 5, 6, 7, 8, 9, 0] rfl) h
def X1_worth_63 (K22 : Int32 → Nat → Int32 → Int32 → Int32 → Int32 → Int32 → Mem → Option (Int32 × Mem)) (x1 : Int32) (a2 : Nat) (x3 : Int32) (x4 : Int32) (x5 : Int32) (x6 : Int32) (x7 : Int32) (x8 : Int32) (μ : Mem) : Option (Int32 × Mem) :=
  X1_worth_64 K22 x1 a2 x3 x4 x5 x6 x7 x8 (0 : Int32) μ
set_option maxRecDepth 100000 in
set_option maxHeartbeats 4000000 in
theorem w_X1_worth_63 {g : Gx} {p : Program} {l : Launch} {e : Env} {s : State} {m : MethodId} {args : Array Value} {below : List Frame} {meth : Method} {c : Code} (C0 : Cx Lx g p s m args meth c cX1_worth 10 (some .int) RX1) {r : Int32} {ν : Mem} (K22 : Int32 → Nat → Int32 → Int32 → Int32 → Int32 → Int32 → Mem → Option (Int32 × Mem)) (hK22 : ∀ (x1 : Int32) (a2 : Nat) (ha2 : Id2 a2) (x3 : Int32) (x4 : Int32) (x5 : Int32) (x6 : Int32) (x7 : Int32) (μ : Mem) (H : Heap) (locs : List Loc) (ls : Array Slot), Px Lx g μ H → va_S (Ax Lx g) s.heap H locs → lv_has ls 10 [(0, .ref (g.2.2.1 + 8)), (1, .int x1), (2, .ref (g.2.2.1 + a2)), (3, .int x3), (4, .int x4), (5, .int x5), (6, .int x6), (7, .int x7)] → K22 x1 a2 x3 x4 x5 x6 x7 μ = some (r, ν) → W p l e { frames := 1, cells := 0, slots := 0, locals := 23 } s m args below meth c H locs 0 0 (MQ below (Qx Lx g (some (.int r)) ν) args s 0 0 (Ax Lx g)) (F0 m 22 ls [])) (x1 : Int32) (a2 : Nat) (ha2 : Id2 a2) (x3 : Int32) (x4 : Int32) (x5 : Int32) (x6 : Int32) (x7 : Int32) (x8 : Int32) (μ : Mem) (H : Heap) (locs : List Loc) (ls : Array Slot) (hP : Px Lx g μ H) (hS : va_S (Ax Lx g) s.heap H locs) (hl : lv_has ls 10 [(0, .ref (g.2.2.1 + 8)), (1, .int x1), (2, .ref (g.2.2.1 + a2)), (3, .int x3), (4, .int x4), (5, .int x5), (6, .int x6), (7, .int x7), (8, .int x8)]) (h : X1_worth_63 K22 x1 a2 x3 x4 x5 x6 x7 x8 μ = some (r, ν)) : W p l e { frames := 1, cells := 0, slots := 0, locals := 23 } s m args below meth c H locs 0 0 (MQ below (Qx Lx g (some (.int r)) ν) args s 0 0 (Ax Lx g)) (F0 m 63 ls []) := by
  obtain ⟨hx, hb, hr, hml, hown, hts, hlocks, hK⟩ := id C0
  unfold X1_worth_63 at h
  refine lv_iconst (v := (0 : Int32)) hx hb dX1_worth_63 rfl ?_
  exact w_X1_worth_64 C0 K22 hK22 x1 a2 ha2 x3 x4 x5 x6 x7 x8 (0 : Int32) μ _ _ _ hP hS (lv_sub hl [0, 1, 2, 3, 4, 5, 6, 7, 8] rfl) h
def X1_worth_22  : Nat → Int32 → Nat → Int32 → Int32 → Int32 → Int32 → Int32 → Mem → Option (Int32 × Mem)
  | 0, _, _, _, _, _, _, _, _ => none
  | n + 1, x1, a2, x3, x4, x5, x6, x7, μ => gd (inB x1 12) ((if (μ 11 x1.toNatClampNeg) ≤ x7 then some ((μ 13 0), μ) else gd (inB (x5 + x7) 720) ((if (-97 : Int32) < (μ 12 (x5 + x7).toNatClampNeg) then X1_worth_63 (X1_worth_22 n) x1 a2 x3 x4 x5 x6 x7 (μ 12 (x5 + x7).toNatClampNeg) μ else (if (μ 12 (x5 + x7).toNatClampNeg) < (-122 : Int32) then X1_worth_63 (X1_worth_22 n) x1 a2 x3 x4 x5 x6 x7 (μ 12 (x5 + x7).toNatClampNeg) μ else X1_worth_64 (X1_worth_22 n) x1 a2 x3 x4 x5 x6 x7 (μ 12 (x5 + x7).toNatClampNeg) (1 : Int32) μ)))))
set_option maxRecDepth 100000 in
set_option maxHeartbeats 4000000 in
theorem w_X1_worth_22 {g : Gx} {p : Program} {l : Launch} {e : Env} {s : State} {m : MethodId} {args : Array Value} {below : List Frame} {meth : Method} {c : Code} (C0 : Cx Lx g p s m args meth c cX1_worth 10 (some .int) RX1) {r : Int32} {ν : Mem}  (n : Nat) : ∀ (x1 : Int32) (a2 : Nat) (ha2 : Id2 a2) (x3 : Int32) (x4 : Int32) (x5 : Int32) (x6 : Int32) (x7 : Int32) (μ : Mem) (H : Heap) (locs : List Loc) (ls : Array Slot), Px Lx g μ H → va_S (Ax Lx g) s.heap H locs → lv_has ls 10 [(0, .ref (g.2.2.1 + 8)), (1, .int x1), (2, .ref (g.2.2.1 + a2)), (3, .int x3), (4, .int x4), (5, .int x5), (6, .int x6), (7, .int x7)] → X1_worth_22  n x1 a2 x3 x4 x5 x6 x7 μ = some (r, ν) → W p l e { frames := 1, cells := 0, slots := 0, locals := 23 } s m args below meth c H locs 0 0 (MQ below (Qx Lx g (some (.int r)) ν) args s 0 0 (Ax Lx g)) (F0 m 22 ls []) := by
  obtain ⟨hx, hb, hr, hml, hown, hts, hlocks, hK⟩ := id C0
  induction n with
  | zero =>
    intro x1 a2 ha2 x3 x4 x5 x6 x7 μ H locs ls hP hS hl h
    have h : (none : Option (Int32 × Mem)) = some (r, ν) := h
    cases h
  | succ n ih =>
    intro x1 a2 ha2 x3 x4 x5 x6 x7 μ H locs ls hP hS hl h
    rw [X1_worth_22.eq_2] at h
    refine lv_iload hx hb dX1_worth_22 (lv_at hl 7 rfl) ?_
    refine lv_aload_n hx hb dX1_worth_24 rfl (lv_at hl 0 rfl) ?_
    refine x_get C0 hP inu1 (k := 8) cx_8 (by decide) rfl 2 (by decide) q1_63 rfl (v := .ref (g.2.2.1 + 11)) rfl dX1_worth_25 ?_
    refine lv_iload_n hx hb dX1_worth_28 rfl (lv_at hl 1 rfl) ?_
    obtain ⟨z3, h⟩ := gd_some h
    refine x_iald C0 hP (k := 11) cx_11 (j := x1.toNatClampNeg) z3 rfl dX1_worth_29 ?_
    refine lv_icmp_ge (tgt := 207) hx hb dX1_worth_30 (by decide) (fun c4 => ?_) (fun c4 => ?_)
    · rw [if_pos c4] at h
      refine lv_aload_n hx hb dX1_worth_207 rfl (lv_at hl 0 rfl) ?_
      refine x_get C0 hP inu1 (k := 8) cx_8 (by decide) rfl 4 (by decide) q1_65 rfl (v := .ref (g.2.2.1 + 13)) rfl dX1_worth_208 ?_
      refine lv_iconst (v := (0 : Int32)) hx hb dX1_worth_211 rfl ?_
      refine x_iald C0 hP (k := 13) cx_13 (j := 0) (by decide) rfl dX1_worth_212 ?_
      obtain ⟨rfl, rfl⟩ := some2 h
      exact x_iret C0 hP hS dX1_worth_213
    · rw [if_neg c4] at h
      refine lv_aload_n hx hb dX1_worth_33 rfl (lv_at hl 0 rfl) ?_
      refine x_get C0 hP inu1 (k := 8) cx_8 (by decide) rfl 3 (by decide) q1_64 rfl (v := .ref (g.2.2.1 + 12)) rfl dX1_worth_34 ?_
      refine lv_iload hx hb dX1_worth_37 (lv_at hl 5 rfl) ?_
      refine lv_iload hx hb dX1_worth_39 (lv_at hl 7 rfl) ?_
      refine lv_iadd hx hb dX1_worth_41 ?_
      obtain ⟨z5, h⟩ := gd_some h
      refine x_iald C0 hP (k := 12) cx_12 (j := (x5 + x7).toNatClampNeg) z5 rfl dX1_worth_42 ?_
      refine lv_istore (lv' := [(8, .int (μ 12 (x5 + x7).toNatClampNeg)), (0, .ref (g.2.2.1 + 8)), (1, .int x1), (2, .ref (g.2.2.1 + a2)), (3, .int x3), (4, .int x4), (5, .int x5), (6, .int x6), (7, .int x7)]) hx hb dX1_worth_43 hl (by decide) rfl (fun ls hl => ?_)
      refine lv_iload hx hb dX1_worth_45 (lv_at hl 0 rfl) ?_
      refine lv_bipush (v := (-97 : Int32)) hx hb dX1_worth_47 (by decide +kernel) ?_
      refine lv_icmp_gt (tgt := 63) hx hb dX1_worth_49 (by decide) (fun c6 => ?_) (fun c6 => ?_)
      · rw [if_pos c6] at h
        exact w_X1_worth_63 C0 (X1_worth_22  n) ih x1 a2 ha2 x3 x4 x5 x6 x7 (μ 12 (x5 + x7).toNatClampNeg) μ _ _ _ hP hS (lv_sub hl [1, 2, 3, 4, 5, 6, 7, 8, 0] rfl) h
      · rw [if_neg c6] at h
        refine lv_iload hx hb dX1_worth_52 (lv_at hl 0 rfl) ?_
        refine lv_bipush (v := (-122 : Int32)) hx hb dX1_worth_54 (by decide +kernel) ?_
        refine lv_icmp_lt (tgt := 63) hx hb dX1_worth_56 (by decide) (fun c26 => ?_) (fun c26 => ?_)
        · rw [if_pos c26] at h
          exact w_X1_worth_63 C0 (X1_worth_22  n) ih x1 a2 ha2 x3 x4 x5 x6 x7 (μ 12 (x5 + x7).toNatClampNeg) μ _ _ _ hP hS (lv_sub hl [1, 2, 3, 4, 5, 6, 7, 8, 0] rfl) h
        · rw [if_neg c26] at h
          refine lv_iconst (v := (1 : Int32)) hx hb dX1_worth_59 rfl ?_
          refine lv_goto (tgt := 64) hx hb dX1_worth_60 (by decide) ?_
          exact w_X1_worth_64 C0 (X1_worth_22  n) ih x1 a2 ha2 x3 x4 x5 x6 x7 (μ 12 (x5 + x7).toNatClampNeg) (1 : Int32) μ _ _ _ hP hS (lv_sub hl [1, 2, 3, 4, 5, 6, 7, 8, 0] rfl) h
def X1_worth (x1 : Int32) (a2 : Nat) (x3 : Int32) (x4 : Int32) (μ : Mem) : Option (Int32 × Mem) :=
  ob2 (X1_has x1 μ) fun r1 μ1 => (if r1 = (0 : Int32) then some ((0 : Int32), μ1) else X1_worth_22 FU x1 a2 x3 x4 (x1 * (60 : Int32)) (0 : Int32) (0 : Int32) μ1)
set_option maxRecDepth 100000 in
set_option maxHeartbeats 4000000 in
theorem c_X1_worth (l : Launch) (g : Gx) (x1 : Int32) (a2 : Nat) (hi2 : Id2 a2) (x3 : Int32) (x4 : Int32) (μ : Mem) {r : Int32} {ν : Mem} (h : X1_worth x1 a2 x3 x4 μ = some (r, ν)) : Ct Lx g l yX1_worth cX1_worth 10 (some .int) { frames := 1, cells := 0, slots := 0, locals := 23 } [.ref (g.2.2.1 + 8), .int x1, .ref (g.2.2.1 + a2), .int x3, .int x4] μ (some (.int r)) ν := by
  refine x_met (lv := [(0, .ref (g.2.2.1 + 8)), (1, .int x1), (2, .ref (g.2.2.1 + a2)), (3, .int x3), (4, .int x4)]) rfl (Nat.le_of_ble_eq_true rfl) rfl ?_
  intro p e s m below meth c C0 hP ls hl
  generalize ([.ref (g.2.2.1 + 8), .int x1, .ref (g.2.2.1 + a2), .int x3, .int x4] : List Value).toArray = args at C0 ⊢
  have C0 : Cx Lx g p s m args meth c cX1_worth 10 (some .int) RX1 := C0
  have hS : va_S (Ax Lx g) s.heap s.heap [] := va_S.rf
  obtain ⟨hx, hb, hr, hml, hown, hts, hlocks, hK⟩ := id C0
  unfold X1_worth at h
  skip
  refine lv_aload_n hx hb dX1_worth_0 rfl (lv_at hl 0 rfl) ?_
  refine lv_iload_n hx hb dX1_worth_1 rfl (lv_at hl 1 rfl) ?_
  obtain ⟨r1, μ1, h1, h⟩ := ob2_some h
  refine x_callV C0 (rest := []) (q := (RX1, TX1, 6)) (c_X1_has l g x1 μ h1) q2_209 q2_206 q2_207 q2_208 q1_4 hd_X1_has ⟨rfl, rfl⟩ ⟨Nat.le_of_ble_eq_true rfl, Nat.le_of_ble_eq_true rfl⟩ cx_8 (by decide) rfl hP hS hl.1 rfl rfl (Nat.le_of_ble_eq_true rfl) dX1_worth_2 (fun H locs hP hS => ?_)
  refine W.eq (g2 := F0 m 5 ls [.int r1]) rfl ?_
  refine lv_if_ne (tgt := 10) hx hb dX1_worth_5 (by decide) (fun c2 => ?_) (fun c2 => ?_)
  · rw [if_neg c2] at h
    refine lv_iload_n hx hb dX1_worth_10 rfl (lv_at hl 1 rfl) ?_
    refine lv_bipush (v := (60 : Int32)) hx hb dX1_worth_11 (by decide +kernel) ?_
    refine lv_imul hx hb dX1_worth_13 ?_
    refine lv_istore (lv' := [(5, .int (x1 * (60 : Int32))), (0, .ref (g.2.2.1 + 8)), (1, .int x1), (2, .ref (g.2.2.1 + a2)), (3, .int x3), (4, .int x4)]) hx hb dX1_worth_14 hl (by decide) rfl (fun ls hl => ?_)
    refine lv_iconst (v := (0 : Int32)) hx hb dX1_worth_16 rfl ?_
    refine lv_istore (lv' := [(6, .int (0 : Int32)), (5, .int (x1 * (60 : Int32))), (0, .ref (g.2.2.1 + 8)), (1, .int x1), (2, .ref (g.2.2.1 + a2)), (3, .int x3), (4, .int x4)]) hx hb dX1_worth_17 hl (by decide) rfl (fun ls hl => ?_)
    refine lv_iconst (v := (0 : Int32)) hx hb dX1_worth_19 rfl ?_
    refine lv_istore (lv' := [(7, .int (0 : Int32)), (6, .int (0 : Int32)), (5, .int (x1 * (60 : Int32))), (0, .ref (g.2.2.1 + 8)), (1, .int x1), (2, .ref (g.2.2.1 + a2)), (3, .int x3), (4, .int x4)]) hx hb dX1_worth_20 hl (by decide) rfl (fun ls hl => ?_)
    exact w_X1_worth_22 C0  FU x1 a2 hi2 x3 x4 (x1 * (60 : Int32)) (0 : Int32) (0 : Int32) μ1 _ _ _ hP hS (lv_sub hl [3, 4, 5, 6, 7, 2, 1, 0] rfl) h
  · rw [if_pos c2] at h
    refine lv_iconst (v := (0 : Int32)) hx hb dX1_worth_8 rfl ?_
    obtain ⟨rfl, rfl⟩ := some2 h
    exact x_iret C0 hP hS dX1_worth_9
def X9_within (x0 : Int32) (x1 : Int32) (x2 : Int32) (μ : Mem) : Option (Int32 × Mem) :=
  some ((if x0 < (if x2 < x1 then x2 else x1) then (if x2 < x1 then x2 else x1) else x0), μ)
set_option maxRecDepth 100000 in
set_option maxHeartbeats 4000000 in
theorem c_X9_within (l : Launch) (g : Gx) (x0 : Int32) (x1 : Int32) (x2 : Int32) (μ : Mem) {r : Int32} {ν : Mem} (h : X9_within x0 x1 x2 μ = some (r, ν)) : Ct Lx g l yX9_within cX9_within 3 (some .int) { frames := 1, cells := 0, slots := 0, locals := 14 } [.int x0, .int x1, .int x2] μ (some (.int r)) ν := by
  refine x_met (lv := [(0, .int x0), (1, .int x1), (2, .int x2)]) rfl (Nat.le_of_ble_eq_true rfl) rfl ?_
  intro p e s m below meth c C0 hP ls hl
  generalize ([.int x0, .int x1, .int x2] : List Value).toArray = args at C0 ⊢
  have C0 : Cx Lx g p s m args meth c cX9_within 3 (some .int) RX9 := C0
  have hS : va_S (Ax Lx g) s.heap s.heap [] := va_S.rf
  obtain ⟨hx, hb, hr, hml, hown, hts, hlocks, hK⟩ := id C0
  unfold X9_within at h
  skip
  refine lv_iload_n hx hb dX9_within_0 rfl (lv_at hl 0 rfl) ?_
  refine lv_iload_n hx hb dX9_within_1 rfl (lv_at hl 1 rfl) ?_
  refine lv_iload_n hx hb dX9_within_2 rfl (lv_at hl 2 rfl) ?_
  refine va_mmin hx hb (hml.trans hl.1.symm) hown (hts _ q3_41) (hts _ q3_42) (hts _ q1_12) (hts _ q3_43) (Nat.le_of_ble_eq_true rfl) (Nat.le_of_ble_eq_true rfl) (Nat.zero_le _) (Nat.zero_le _) dX9_within_3 ?_
  refine va_mmax hx hb (hml.trans hl.1.symm) hown (hts _ q2_194) (hts _ q2_195) (hts _ q1_12) (hts _ q2_196) (Nat.le_of_ble_eq_true rfl) (Nat.le_of_ble_eq_true rfl) (Nat.zero_le _) (Nat.zero_le _) dX9_within_6 ?_
  obtain ⟨rfl, rfl⟩ := some2 h
  exact x_iret C0 hP hS dX9_within_9
def X1_unitPrice (x1 : Int32) (a2 : Nat) (x3 : Int32) (μ : Mem) : Option (Int32 × Mem) :=
  ob2 (X1_has x1 μ) fun r1 μ1 => (if r1 = (0 : Int32) then some ((20 : Int32), μ1) else ob2 (X1_worth x1 a2 x3 (0 : Int32) μ1) fun r3 μ3 => ob2 (X9_within (0 : Int32) r3 (99 : Int32) μ3) fun r4 μ4 => some (r4, μ4))
set_option maxRecDepth 100000 in
set_option maxHeartbeats 4000000 in
theorem c_X1_unitPrice (l : Launch) (g : Gx) (x1 : Int32) (a2 : Nat) (hi2 : Id2 a2) (x3 : Int32) (μ : Mem) {r : Int32} {ν : Mem} (h : X1_unitPrice x1 a2 x3 μ = some (r, ν)) : Ct Lx g l yX1_unitPrice cX1_unitPrice 4 (some .int) { frames := 2, cells := 0, slots := 0, locals := 52 } [.ref (g.2.2.1 + 8), .int x1, .ref (g.2.2.1 + a2), .int x3] μ (some (.int r)) ν := by
  refine x_met (lv := [(0, .ref (g.2.2.1 + 8)), (1, .int x1), (2, .ref (g.2.2.1 + a2)), (3, .int x3)]) rfl (Nat.le_of_ble_eq_true rfl) rfl ?_
  intro p e s m below meth c C0 hP ls hl
  generalize ([.ref (g.2.2.1 + 8), .int x1, .ref (g.2.2.1 + a2), .int x3] : List Value).toArray = args at C0 ⊢
  have C0 : Cx Lx g p s m args meth c cX1_unitPrice 4 (some .int) RX1 := C0
  have hS : va_S (Ax Lx g) s.heap s.heap [] := va_S.rf
  obtain ⟨hx, hb, hr, hml, hown, hts, hlocks, hK⟩ := id C0
  unfold X1_unitPrice at h
  skip
  refine lv_aload_n hx hb dX1_unitPrice_0 rfl (lv_at hl 0 rfl) ?_
  refine lv_iload_n hx hb dX1_unitPrice_1 rfl (lv_at hl 1 rfl) ?_
  obtain ⟨r1, μ1, h1, h⟩ := ob2_some h
  refine x_callV C0 (rest := []) (q := (RX1, TX1, 6)) (c_X1_has l g x1 μ h1) q2_209 q2_206 q2_207 q2_208 q1_4 hd_X1_has ⟨rfl, rfl⟩ ⟨Nat.le_of_ble_eq_true rfl, Nat.le_of_ble_eq_true rfl⟩ cx_8 (by decide) rfl hP hS hl.1 rfl rfl (Nat.le_of_ble_eq_true rfl) dX1_unitPrice_2 (fun H locs hP hS => ?_)
  refine W.eq (g2 := F0 m 5 ls [.int r1]) rfl ?_
  refine lv_if_eq (tgt := 25) hx hb dX1_unitPrice_5 (by decide) (fun c2 => ?_) (fun c2 => ?_)
  · rw [if_pos c2] at h
    refine lv_bipush (v := (20 : Int32)) hx hb dX1_unitPrice_25 (by decide +kernel) ?_
    obtain ⟨rfl, rfl⟩ := some2 h
    exact x_iret C0 hP hS dX1_unitPrice_27
  · rw [if_neg c2] at h
    refine lv_iconst (v := (0 : Int32)) hx hb dX1_unitPrice_8 rfl ?_
    refine lv_aload_n hx hb dX1_unitPrice_9 rfl (lv_at hl 0 rfl) ?_
    refine lv_iload_n hx hb dX1_unitPrice_10 rfl (lv_at hl 1 rfl) ?_
    refine lv_aload_n hx hb dX1_unitPrice_11 rfl (lv_at hl 2 rfl) ?_
    refine lv_iload_n hx hb dX1_unitPrice_12 rfl (lv_at hl 3 rfl) ?_
    refine lv_iconst (v := (0 : Int32)) hx hb dX1_unitPrice_13 rfl ?_
    obtain ⟨r3, μ3, h1, h⟩ := ob2_some h
    refine x_callV C0 (rest := [.int (0 : Int32)]) (q := (RX1, TX1, 6)) (c_X1_worth l g x1 a2 hi2 x3 (0 : Int32) μ1 h1) q2_213 q2_210 q2_211 q2_212 q1_4 hd_X1_worth ⟨rfl, rfl⟩ ⟨Nat.le_of_ble_eq_true rfl, Nat.le_of_ble_eq_true rfl⟩ cx_8 (by decide) rfl hP hS hl.1 rfl rfl (Nat.le_of_ble_eq_true rfl) dX1_unitPrice_14 (fun H locs hP hS => ?_)
    refine W.eq (g2 := F0 m 17 ls [.int r3, .int (0 : Int32)]) rfl ?_
    refine lv_bipush (v := (99 : Int32)) hx hb dX1_unitPrice_17 (by decide +kernel) ?_
    obtain ⟨r4, μ4, h1, h⟩ := ob2_some h
    refine x_callSN C0 (rest := []) (c_X9_within l g (0 : Int32) r3 (99 : Int32) μ3 h1) q3_40 (by decide +kernel) q3_39 q1_1 hd_X9_within ⟨rfl, rfl⟩ ⟨Nat.le_of_ble_eq_true rfl, Nat.le_of_ble_eq_true rfl⟩ hP hS hl.1 rfl rfl (Nat.le_of_ble_eq_true rfl) dX1_unitPrice_19 (fun H locs hP hS => ?_)
    refine W.eq (g2 := F0 m 22 ls [.int r4]) rfl ?_
    refine lv_goto (tgt := 27) hx hb dX1_unitPrice_22 (by decide) ?_
    obtain ⟨rfl, rfl⟩ := some2 h
    exact x_iret C0 hP hS dX1_unitPrice_27
def X1_standingOf (a1 : Nat) (x2 : Int32) (μ : Mem) : Option (Int32 × Mem) :=
  ob2 (X1_ruling (1 : Int32) x2 μ) fun r1 μ1 => ob2 (X1_has r1 μ1) fun r2 μ2 => (if r2 = (0 : Int32) then some ((30 : Int32), μ2) else ob2 (X1_worth r1 a1 x2 (0 : Int32) μ2) fun r4 μ4 => ob2 (X9_within (0 : Int32) r4 (999 : Int32) μ4) fun r5 μ5 => some (r5, μ5))
set_option maxRecDepth 100000 in
set_option maxHeartbeats 4000000 in
theorem c_X1_standingOf (l : Launch) (g : Gx) (a1 : Nat) (hi1 : Id2 a1) (x2 : Int32) (μ : Mem) {r : Int32} {ν : Mem} (h : X1_standingOf a1 x2 μ = some (r, ν)) : Ct Lx g l yX1_standingOf cX1_standingOf 4 (some .int) { frames := 2, cells := 0, slots := 0, locals := 52 } [.ref (g.2.2.1 + 8), .ref (g.2.2.1 + a1), .int x2] μ (some (.int r)) ν := by
  refine x_met (lv := [(0, .ref (g.2.2.1 + 8)), (1, .ref (g.2.2.1 + a1)), (2, .int x2)]) rfl (Nat.le_of_ble_eq_true rfl) rfl ?_
  intro p e s m below meth c C0 hP ls hl
  generalize ([.ref (g.2.2.1 + 8), .ref (g.2.2.1 + a1), .int x2] : List Value).toArray = args at C0 ⊢
  have C0 : Cx Lx g p s m args meth c cX1_standingOf 4 (some .int) RX1 := C0
  have hS : va_S (Ax Lx g) s.heap s.heap [] := va_S.rf
  obtain ⟨hx, hb, hr, hml, hown, hts, hlocks, hK⟩ := id C0
  unfold X1_standingOf at h
  skip
  refine lv_aload_n hx hb dX1_standingOf_0 rfl (lv_at hl 0 rfl) ?_
  refine lv_iconst (v := (1 : Int32)) hx hb dX1_standingOf_1 rfl ?_
  refine lv_iload_n hx hb dX1_standingOf_2 rfl (lv_at hl 2 rfl) ?_
  obtain ⟨r1, μ1, h1, h⟩ := ob2_some h
  refine x_callV C0 (rest := []) (q := (RX1, TX1, 6)) (c_X1_ruling l g (1 : Int32) x2 μ h1) q2_135 q2_205 q2_133 q2_134 q1_4 hd_X1_ruling ⟨rfl, rfl⟩ ⟨Nat.le_of_ble_eq_true rfl, Nat.le_of_ble_eq_true rfl⟩ cx_8 (by decide) rfl hP hS hl.1 rfl rfl (Nat.le_of_ble_eq_true rfl) dX1_standingOf_3 (fun H locs hP hS => ?_)
  refine W.eq (g2 := F0 m 6 ls [.int r1]) rfl ?_
  refine lv_istore_n (lv' := [(3, .int r1), (0, .ref (g.2.2.1 + 8)), (1, .ref (g.2.2.1 + a1)), (2, .int x2)]) hx hb dX1_standingOf_6 rfl hl (by decide) rfl (fun ls hl => ?_)
  refine lv_aload_n hx hb dX1_standingOf_7 rfl (lv_at hl 1 rfl) ?_
  refine lv_iload_n hx hb dX1_standingOf_8 rfl (lv_at hl 0 rfl) ?_
  obtain ⟨r2, μ2, h1, h⟩ := ob2_some h
  refine x_callV C0 (rest := []) (q := (RX1, TX1, 6)) (c_X1_has l g r1 μ1 h1) q2_209 q2_206 q2_207 q2_208 q1_4 hd_X1_has ⟨rfl, rfl⟩ ⟨Nat.le_of_ble_eq_true rfl, Nat.le_of_ble_eq_true rfl⟩ cx_8 (by decide) rfl hP hS hl.1 rfl rfl (Nat.le_of_ble_eq_true rfl) dX1_standingOf_9 (fun H locs hP hS => ?_)
  refine W.eq (g2 := F0 m 12 ls [.int r2]) rfl ?_
  refine lv_if_eq (tgt := 33) hx hb dX1_standingOf_12 (by decide) (fun c3 => ?_) (fun c3 => ?_)
  · rw [if_pos c3] at h
    refine lv_bipush (v := (30 : Int32)) hx hb dX1_standingOf_33 (by decide +kernel) ?_
    obtain ⟨rfl, rfl⟩ := some2 h
    exact x_iret C0 hP hS dX1_standingOf_35
  · rw [if_neg c3] at h
    refine lv_iconst (v := (0 : Int32)) hx hb dX1_standingOf_15 rfl ?_
    refine lv_aload_n hx hb dX1_standingOf_16 rfl (lv_at hl 1 rfl) ?_
    refine lv_iload_n hx hb dX1_standingOf_17 rfl (lv_at hl 0 rfl) ?_
    refine lv_aload_n hx hb dX1_standingOf_18 rfl (lv_at hl 2 rfl) ?_
    refine lv_iload_n hx hb dX1_standingOf_19 rfl (lv_at hl 3 rfl) ?_
    refine lv_iconst (v := (0 : Int32)) hx hb dX1_standingOf_20 rfl ?_
    obtain ⟨r4, μ4, h1, h⟩ := ob2_some h
    refine x_callV C0 (rest := [.int (0 : Int32)]) (q := (RX1, TX1, 6)) (c_X1_worth l g r1 a1 hi1 x2 (0 : Int32) μ2 h1) q2_213 q2_210 q2_211 q2_212 q1_4 hd_X1_worth ⟨rfl, rfl⟩ ⟨Nat.le_of_ble_eq_true rfl, Nat.le_of_ble_eq_true rfl⟩ cx_8 (by decide) rfl hP hS hl.1 rfl rfl (Nat.le_of_ble_eq_true rfl) dX1_standingOf_21 (fun H locs hP hS => ?_)
    refine W.eq (g2 := F0 m 24 ls [.int r4, .int (0 : Int32)]) rfl ?_
    refine lv_sipush (v := (999 : Int32)) hx hb dX1_standingOf_24 (by decide +kernel) ?_
    obtain ⟨r5, μ5, h1, h⟩ := ob2_some h
    refine x_callSN C0 (rest := []) (c_X9_within l g (0 : Int32) r4 (999 : Int32) μ4 h1) q3_40 (by decide +kernel) q3_39 q1_1 hd_X9_within ⟨rfl, rfl⟩ ⟨Nat.le_of_ble_eq_true rfl, Nat.le_of_ble_eq_true rfl⟩ hP hS hl.1 rfl rfl (Nat.le_of_ble_eq_true rfl) dX1_standingOf_27 (fun H locs hP hS => ?_)
    refine W.eq (g2 := F0 m 30 ls [.int r5]) rfl ?_
    refine lv_goto (tgt := 35) hx hb dX1_standingOf_30 (by decide) ?_
    obtain ⟨rfl, rfl⟩ := some2 h
    exact x_iret C0 hP hS dX1_standingOf_35
def X1_takenFrom (a1 : Nat) (x2 : Int32) (x3 : Int32) (μ : Mem) : Option (Int32 × Mem) :=
  ob2 (X1_ruling (2 : Int32) x2 μ) fun r1 μ1 => ob2 (X1_has r1 μ1) fun r2 μ2 => (if r2 = (0 : Int32) then some ((0 : Int32), μ2) else ob2 (X1_worth r1 a1 x2 x3 μ2) fun r4 μ4 => ob2 (X9_within (0 : Int32) r4 x3 μ4) fun r5 μ5 => some ((if (μ5 a1 6) < r5 then (μ5 a1 6) else r5), μ5))
set_option maxRecDepth 100000 in
set_option maxHeartbeats 4000000 in
theorem c_X1_takenFrom (l : Launch) (g : Gx) (a1 : Nat) (hi1 : Id2 a1) (x2 : Int32) (x3 : Int32) (μ : Mem) {r : Int32} {ν : Mem} (h : X1_takenFrom a1 x2 x3 μ = some (r, ν)) : Ct Lx g l yX1_takenFrom cX1_takenFrom 5 (some .int) { frames := 2, cells := 0, slots := 0, locals := 52 } [.ref (g.2.2.1 + 8), .ref (g.2.2.1 + a1), .int x2, .int x3] μ (some (.int r)) ν := by
  refine x_met (lv := [(0, .ref (g.2.2.1 + 8)), (1, .ref (g.2.2.1 + a1)), (2, .int x2), (3, .int x3)]) rfl (Nat.le_of_ble_eq_true rfl) rfl ?_
  intro p e s m below meth c C0 hP ls hl
  generalize ([.ref (g.2.2.1 + 8), .ref (g.2.2.1 + a1), .int x2, .int x3] : List Value).toArray = args at C0 ⊢
  have C0 : Cx Lx g p s m args meth c cX1_takenFrom 5 (some .int) RX1 := C0
  have hS : va_S (Ax Lx g) s.heap s.heap [] := va_S.rf
  obtain ⟨hx, hb, hr, hml, hown, hts, hlocks, hK⟩ := id C0
  unfold X1_takenFrom at h
  skip
  refine lv_aload_n hx hb dX1_takenFrom_0 rfl (lv_at hl 0 rfl) ?_
  refine lv_iconst (v := (2 : Int32)) hx hb dX1_takenFrom_1 rfl ?_
  refine lv_iload_n hx hb dX1_takenFrom_2 rfl (lv_at hl 2 rfl) ?_
  obtain ⟨r1, μ1, h1, h⟩ := ob2_some h
  refine x_callV C0 (rest := []) (q := (RX1, TX1, 6)) (c_X1_ruling l g (2 : Int32) x2 μ h1) q2_135 q2_205 q2_133 q2_134 q1_4 hd_X1_ruling ⟨rfl, rfl⟩ ⟨Nat.le_of_ble_eq_true rfl, Nat.le_of_ble_eq_true rfl⟩ cx_8 (by decide) rfl hP hS hl.1 rfl rfl (Nat.le_of_ble_eq_true rfl) dX1_takenFrom_3 (fun H locs hP hS => ?_)
  refine W.eq (g2 := F0 m 6 ls [.int r1]) rfl ?_
  refine lv_istore (lv' := [(4, .int r1), (0, .ref (g.2.2.1 + 8)), (1, .ref (g.2.2.1 + a1)), (2, .int x2), (3, .int x3)]) hx hb dX1_takenFrom_6 hl (by decide) rfl (fun ls hl => ?_)
  refine lv_aload_n hx hb dX1_takenFrom_8 rfl (lv_at hl 1 rfl) ?_
  refine lv_iload hx hb dX1_takenFrom_9 (lv_at hl 0 rfl) ?_
  obtain ⟨r2, μ2, h1, h⟩ := ob2_some h
  refine x_callV C0 (rest := []) (q := (RX1, TX1, 6)) (c_X1_has l g r1 μ1 h1) q2_209 q2_206 q2_207 q2_208 q1_4 hd_X1_has ⟨rfl, rfl⟩ ⟨Nat.le_of_ble_eq_true rfl, Nat.le_of_ble_eq_true rfl⟩ cx_8 (by decide) rfl hP hS hl.1 rfl rfl (Nat.le_of_ble_eq_true rfl) dX1_takenFrom_11 (fun H locs hP hS => ?_)
  refine W.eq (g2 := F0 m 14 ls [.int r2]) rfl ?_
  refine lv_if_eq (tgt := 41) hx hb dX1_takenFrom_14 (by decide) (fun c3 => ?_) (fun c3 => ?_)
  · rw [if_pos c3] at h
    refine lv_iconst (v := (0 : Int32)) hx hb dX1_takenFrom_41 rfl ?_
    obtain ⟨rfl, rfl⟩ := some2 h
    exact x_iret C0 hP hS dX1_takenFrom_42
  · rw [if_neg c3] at h
    refine lv_iconst (v := (0 : Int32)) hx hb dX1_takenFrom_17 rfl ?_
    refine lv_aload_n hx hb dX1_takenFrom_18 rfl (lv_at hl 1 rfl) ?_
    refine lv_iload hx hb dX1_takenFrom_19 (lv_at hl 0 rfl) ?_
    refine lv_aload_n hx hb dX1_takenFrom_21 rfl (lv_at hl 2 rfl) ?_
    refine lv_iload_n hx hb dX1_takenFrom_22 rfl (lv_at hl 3 rfl) ?_
    refine lv_iload_n hx hb dX1_takenFrom_23 rfl (lv_at hl 4 rfl) ?_
    obtain ⟨r4, μ4, h1, h⟩ := ob2_some h
    refine x_callV C0 (rest := [.int (0 : Int32)]) (q := (RX1, TX1, 6)) (c_X1_worth l g r1 a1 hi1 x2 x3 μ2 h1) q2_213 q2_210 q2_211 q2_212 q1_4 hd_X1_worth ⟨rfl, rfl⟩ ⟨Nat.le_of_ble_eq_true rfl, Nat.le_of_ble_eq_true rfl⟩ cx_8 (by decide) rfl hP hS hl.1 rfl rfl (Nat.le_of_ble_eq_true rfl) dX1_takenFrom_24 (fun H locs hP hS => ?_)
    refine W.eq (g2 := F0 m 27 ls [.int r4, .int (0 : Int32)]) rfl ?_
    refine lv_iload_n hx hb dX1_takenFrom_27 rfl (lv_at hl 4 rfl) ?_
    obtain ⟨r5, μ5, h1, h⟩ := ob2_some h
    refine x_callSN C0 (rest := []) (c_X9_within l g (0 : Int32) r4 x3 μ4 h1) q3_40 (by decide +kernel) q3_39 q1_1 hd_X9_within ⟨rfl, rfl⟩ ⟨Nat.le_of_ble_eq_true rfl, Nat.le_of_ble_eq_true rfl⟩ hP hS hl.1 rfl rfl (Nat.le_of_ble_eq_true rfl) dX1_takenFrom_28 (fun H locs hP hS => ?_)
    refine W.eq (g2 := F0 m 31 ls [.int r5]) rfl ?_
    refine lv_aload_n hx hb dX1_takenFrom_31 rfl (lv_at hl 2 rfl) ?_
    refine x_get C0 hP inu2 (k := a1) (id2_0 hi1) (by decide) rfl 6 (by decide) q1_163 rfl (v := .int (μ5 a1 6)) rfl dX1_takenFrom_32 ?_
    refine va_mmin hx hb (hml.trans hl.1.symm) hown (hts _ q3_44) (hts _ q3_42) (hts _ q1_12) (hts _ q3_43) (Nat.le_of_ble_eq_true rfl) (Nat.le_of_ble_eq_true rfl) (Nat.zero_le _) (Nat.zero_le _) dX1_takenFrom_35 ?_
    refine lv_goto (tgt := 42) hx hb dX1_takenFrom_38 (by decide) ?_
    obtain ⟨rfl, rfl⟩ := some2 h
    exact x_iret C0 hP hS dX1_takenFrom_42
