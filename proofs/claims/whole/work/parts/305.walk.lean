def X7_topUp_61  (a1 : Nat) (x4 : Int32) (μ : Mem) : Option (Int32 × Mem) :=
  ob (X2_connectAboveLimit a1 μ) fun μ7 => some (x4, μ7)
set_option maxRecDepth 100000 in
set_option maxHeartbeats 4000000 in
theorem w_X7_topUp_61 {g : Gx} {p : Program} {l : Launch} {e : Env} {s : State} {m : MethodId} {args : Array Value} {below : List Frame} {meth : Method} {c : Code} (C0 : Cx Lx g p s m args meth c cX7_topUp 5 (some .int) RX7) {r : Int32} {ν : Mem}  (a1 : Nat) (ha1 : Id2 a1) (x4 : Int32) (μ : Mem) (H : Heap) (locs : List Loc) (ls : Array Slot) (hP : Px Lx g μ H) (hS : va_S (Ax Lx g) s.heap H locs) (hl : lv_has ls 5 [(1, .ref (g.2.2.1 + a1)), (4, .int x4)]) (h : X7_topUp_61  a1 x4 μ = some (r, ν)) : W p l e { frames := 3, cells := 0, slots := 0, locals := 76 } s m args below meth c H locs 0 0 (MQ below (Qx Lx g (some (.int r)) ν) args s 0 0 (Ax Lx g)) (F0 m 61 ls []) := by
  obtain ⟨hx, hb, hr, hml, hown, hts, hlocks, hK⟩ := id C0
  unfold X7_topUp_61 at h
  refine lv_aload_n hx hb dX7_topUp_61 rfl (lv_at hl 0 rfl) ?_
  obtain ⟨μ7, h1, h⟩ := ob_some h
  refine x_callV C0 (rest := []) (q := (RX2, TX2, 15)) (c_X2_connectAboveLimit l g a1 ha1 μ h1) q2_227 q3_45 q2_225 q2_226 q1_7 hd_X2_connectAboveLimit ⟨rfl, rfl⟩ ⟨Nat.le_of_ble_eq_true rfl, Nat.le_of_ble_eq_true rfl⟩ (id2_0 ha1) (by decide) rfl hP hS hl.1 rfl rfl (Nat.le_of_ble_eq_true rfl) dX7_topUp_62 (fun H locs hP hS => ?_)
  refine W.eq (g2 := F0 m 65 ls []) rfl ?_
  refine lv_iload hx hb dX7_topUp_65 (lv_at hl 1 rfl) ?_
  obtain ⟨rfl, rfl⟩ := some2 h
  exact x_iret C0 hP hS dX7_topUp_67
def X7_topUp (a1 : Nat) (x2 : Int32) (x3 : Int32) (μ : Mem) : Option (Int32 × Mem) :=
  ob2 (X1_takenFrom a1 x2 x3 μ) fun r1 μ1 => lt (st μ1 a1 6 ((μ1 a1 6) - r1)) fun μ2 => lt (st μ2 a1 5 ((μ2 a1 5) + (x3 - r1))) fun μ3 => ob2 (X1_ruling (0 : Int32) x2 μ3) fun r4 μ4 => lt (st μ4 a1 14 r4) fun μ5 => (if (μ5 a1 5) < (0 : Int32) then X7_topUp_61 a1 r1 μ5 else lt (st μ5 a1 9 (0 : Int32)) fun μ8 => X7_topUp_61 a1 r1 μ8)
set_option maxRecDepth 100000 in
set_option maxHeartbeats 4000000 in
theorem c_X7_topUp (l : Launch) (g : Gx) (a1 : Nat) (hi1 : Id2 a1) (x2 : Int32) (x3 : Int32) (μ : Mem) {r : Int32} {ν : Mem} (h : X7_topUp a1 x2 x3 μ = some (r, ν)) : Ct Lx g l yX7_topUp cX7_topUp 5 (some .int) { frames := 3, cells := 0, slots := 0, locals := 76 } [.ref (g.2.2.1 + 1), .ref (g.2.2.1 + a1), .int x2, .int x3] μ (some (.int r)) ν := by
  refine x_met (lv := [(0, .ref (g.2.2.1 + 1)), (1, .ref (g.2.2.1 + a1)), (2, .int x2), (3, .int x3)]) rfl (Nat.le_of_ble_eq_true rfl) rfl ?_
  intro p e s m below meth c C0 hP ls hl
  generalize ([.ref (g.2.2.1 + 1), .ref (g.2.2.1 + a1), .int x2, .int x3] : List Value).toArray = args at C0 ⊢
  have C0 : Cx Lx g p s m args meth c cX7_topUp 5 (some .int) RX7 := C0
  have hS : va_S (Ax Lx g) s.heap s.heap [] := va_S.rf
  obtain ⟨hx, hb, hr, hml, hown, hts, hlocks, hK⟩ := id C0
  unfold X7_topUp at h
  skip
  refine lv_aload_n hx hb dX7_topUp_0 rfl (lv_at hl 0 rfl) ?_
  refine x_get C0 hP inu7 (k := 1) cx_1 (by decide) rfl 2 (by decide) q1_224 rfl (v := .ref (g.2.2.1 + 8)) rfl dX7_topUp_1 ?_
  refine lv_aload_n hx hb dX7_topUp_4 rfl (lv_at hl 1 rfl) ?_
  refine lv_iload_n hx hb dX7_topUp_5 rfl (lv_at hl 2 rfl) ?_
  refine lv_iload_n hx hb dX7_topUp_6 rfl (lv_at hl 3 rfl) ?_
  obtain ⟨r1, μ1, h1, h⟩ := ob2_some h
  refine x_callV C0 (rest := []) (q := (RX1, TX1, 6)) (c_X1_takenFrom l g a1 hi1 x2 x3 μ h1) q3_37 q3_34 q3_35 q3_36 q1_4 hd_X1_takenFrom ⟨rfl, rfl⟩ ⟨Nat.le_of_ble_eq_true rfl, Nat.le_of_ble_eq_true rfl⟩ cx_8 (by decide) rfl hP hS hl.1 rfl rfl (Nat.le_of_ble_eq_true rfl) dX7_topUp_7 (fun H locs hP hS => ?_)
  refine W.eq (g2 := F0 m 10 ls [.int r1]) rfl ?_
  refine lv_istore (lv' := [(4, .int r1), (0, .ref (g.2.2.1 + 1)), (1, .ref (g.2.2.1 + a1)), (2, .int x2), (3, .int x3)]) hx hb dX7_topUp_10 hl (by decide) rfl (fun ls hl => ?_)
  refine lv_aload_n hx hb dX7_topUp_12 rfl (lv_at hl 2 rfl) ?_
  refine lv_dup hx hb dX7_topUp_13 rfl ?_
  refine x_get C0 hP inu2 (k := a1) (id2_0 hi1) (by decide) rfl 6 (by decide) q1_161 rfl (v := .int (μ1 a1 6)) rfl dX7_topUp_14 ?_
  refine lv_iload hx hb dX7_topUp_17 (lv_at hl 0 rfl) ?_
  refine lv_isub hx hb dX7_topUp_19 ?_
  obtain ⟨μ2, e2, h⟩ := lt_some h
  refine x_put C0 hP hS inu2 tyX2 tyX2_ok nmX2 (k := a1) (id2_0 hi1) (by decide) rfl 6 (by decide) q1_161 rfl rfl (v := .int ((μ1 a1 6) - r1)) (x := ((μ1 a1 6) - r1)) rfl rfl (Nat.le_of_ble_eq_true rfl) (os_2_6 _ _ _ _) dX7_topUp_20 (fun H locs hP hS => ?_)
  rw [← e2] at hP
  refine lv_aload_n hx hb dX7_topUp_23 rfl (lv_at hl 2 rfl) ?_
  refine lv_dup hx hb dX7_topUp_24 rfl ?_
  refine x_get C0 hP inu2 (k := a1) (id2_0 hi1) (by decide) rfl 5 (by decide) q1_158 rfl (v := .int (μ2 a1 5)) rfl dX7_topUp_25 ?_
  refine lv_iload_n hx hb dX7_topUp_28 rfl (lv_at hl 4 rfl) ?_
  refine lv_iload hx hb dX7_topUp_29 (lv_at hl 0 rfl) ?_
  refine lv_isub hx hb dX7_topUp_31 ?_
  refine lv_iadd hx hb dX7_topUp_32 ?_
  obtain ⟨μ3, e3, h⟩ := lt_some h
  refine x_put C0 hP hS inu2 tyX2 tyX2_ok nmX2 (k := a1) (id2_0 hi1) (by decide) rfl 5 (by decide) q1_158 rfl rfl (v := .int ((μ2 a1 5) + (x3 - r1))) (x := ((μ2 a1 5) + (x3 - r1))) rfl rfl (Nat.le_of_ble_eq_true rfl) (os_2_5 _ _ _ _) dX7_topUp_33 (fun H locs hP hS => ?_)
  rw [← e3] at hP
  refine lv_aload_n hx hb dX7_topUp_36 rfl (lv_at hl 2 rfl) ?_
  refine lv_aload_n hx hb dX7_topUp_37 rfl (lv_at hl 1 rfl) ?_
  refine x_get C0 hP inu7 (k := 1) cx_1 (by decide) rfl 2 (by decide) q1_224 rfl (v := .ref (g.2.2.1 + 8)) rfl dX7_topUp_38 ?_
  refine lv_iconst (v := (0 : Int32)) hx hb dX7_topUp_41 rfl ?_
  refine lv_iload_n hx hb dX7_topUp_42 rfl (lv_at hl 3 rfl) ?_
  obtain ⟨r4, μ4, h1, h⟩ := ob2_some h
  refine x_callV C0 (rest := [.ref (g.2.2.1 + a1)]) (q := (RX1, TX1, 6)) (c_X1_ruling l g (0 : Int32) x2 μ3 h1) q2_135 q2_132 q2_133 q2_134 q1_4 hd_X1_ruling ⟨rfl, rfl⟩ ⟨Nat.le_of_ble_eq_true rfl, Nat.le_of_ble_eq_true rfl⟩ cx_8 (by decide) rfl hP hS hl.1 rfl rfl (Nat.le_of_ble_eq_true rfl) dX7_topUp_43 (fun H locs hP hS => ?_)
  refine W.eq (g2 := F0 m 46 ls [.int r4, .ref (g.2.2.1 + a1)]) rfl ?_
  obtain ⟨μ5, e5, h⟩ := lt_some h
  refine x_put C0 hP hS inu2 tyX2 tyX2_ok nmX2 (k := a1) (id2_0 hi1) (by decide) rfl 14 (by decide) q1_187 rfl rfl (v := .int r4) (x := r4) rfl rfl (Nat.le_of_ble_eq_true rfl) (os_2_14 _ _ _ _) dX7_topUp_46 (fun H locs hP hS => ?_)
  rw [← e5] at hP
  refine lv_aload_n hx hb dX7_topUp_49 rfl (lv_at hl 2 rfl) ?_
  refine x_get C0 hP inu2 (k := a1) (id2_0 hi1) (by decide) rfl 5 (by decide) q1_158 rfl (v := .int (μ5 a1 5)) rfl dX7_topUp_50 ?_
  refine lv_if_lt (tgt := 61) hx hb dX7_topUp_53 (by decide) (fun c6 => ?_) (fun c6 => ?_)
  · rw [if_pos c6] at h
    exact w_X7_topUp_61 C0  a1 hi1 r1 μ5 _ _ _ hP hS (lv_sub hl [2, 0] rfl) h
  · rw [if_neg c6] at h
    refine lv_aload_n hx hb dX7_topUp_56 rfl (lv_at hl 2 rfl) ?_
    refine lv_iconst (v := (0 : Int32)) hx hb dX7_topUp_57 rfl ?_
    obtain ⟨μ8, e8, h⟩ := lt_some h
    refine x_put C0 hP hS inu2 tyX2 tyX2_ok nmX2 (k := a1) (id2_0 hi1) (by decide) rfl 9 (by decide) q1_171 rfl rfl (v := .int (0 : Int32)) (x := (0 : Int32)) rfl rfl (Nat.le_of_ble_eq_true rfl) (os_2_9 _ _ _ _) dX7_topUp_58 (fun H locs hP hS => ?_)
    rw [← e8] at hP
    exact w_X7_topUp_61 C0  a1 hi1 r1 μ8 _ _ _ hP hS (lv_sub hl [2, 0] rfl) h
def X7_beginDay_57  (a1 : Nat) (μ : Mem) : Option Mem :=
  lt (st μ a1 11 (0 : Int32)) fun μ4 => some μ4
set_option maxRecDepth 100000 in
set_option maxHeartbeats 4000000 in
theorem w_X7_beginDay_57 {g : Gx} {p : Program} {l : Launch} {e : Env} {s : State} {m : MethodId} {args : Array Value} {below : List Frame} {meth : Method} {c : Code} (C0 : Cx Lx g p s m args meth c cX7_beginDay 4 none RX7) {ν : Mem}  (a1 : Nat) (ha1 : Id2 a1) (μ : Mem) (H : Heap) (locs : List Loc) (ls : Array Slot) (hP : Px Lx g μ H) (hS : va_S (Ax Lx g) s.heap H locs) (hl : lv_has ls 4 [(1, .ref (g.2.2.1 + a1))]) (h : X7_beginDay_57  a1 μ = some ν) : W p l e { frames := 3, cells := 0, slots := 0, locals := 75 } s m args below meth c H locs 0 0 (MQ below (Qx Lx g none ν) args s 0 0 (Ax Lx g)) (F0 m 57 ls []) := by
  obtain ⟨hx, hb, hr, hml, hown, hts, hlocks, hK⟩ := id C0
  unfold X7_beginDay_57 at h
  refine lv_aload_n hx hb dX7_beginDay_57 rfl (lv_at hl 0 rfl) ?_
  refine lv_iconst (v := (0 : Int32)) hx hb dX7_beginDay_58 rfl ?_
  obtain ⟨μ4, e4, h⟩ := lt_some h
  refine x_put C0 hP hS inu2 tyX2 tyX2_ok nmX2 (k := a1) (id2_0 ha1) (by decide) rfl 11 (by decide) q1_178 rfl rfl (v := .int (0 : Int32)) (x := (0 : Int32)) rfl rfl (Nat.le_of_ble_eq_true rfl) (os_2_11 _ _ _ _) dX7_beginDay_59 (fun H locs hP hS => ?_)
  rw [← e4] at hP
  obtain rfl := some1 h
  exact x_vret C0 hP hS dX7_beginDay_62
def X7_beginDay (a1 : Nat) (x2 : Int32) (μ : Mem) : Option Mem :=
  ob2 (X1_standingOf a1 x2 μ) fun r1 μ1 => lt (st μ1 a1 5 ((μ a1 5) - r1)) fun μ2 => (if (μ2 a1 8) = (0 : Int32) then X7_beginDay_57 a1 μ2 else lt (st μ2 a1 5 ((μ2 a1 5) - (if (μ2 a1 6) < (μ2 a1 7) then (μ2 a1 6) else (μ2 a1 7)))) fun μ5 => lt (st μ5 a1 6 ((μ5 a1 6) - (if (μ2 a1 6) < (μ2 a1 7) then (μ2 a1 6) else (μ2 a1 7)))) fun μ6 => X7_beginDay_57 a1 μ6)
set_option maxRecDepth 100000 in
set_option maxHeartbeats 4000000 in
theorem c_X7_beginDay (l : Launch) (g : Gx) (a1 : Nat) (hi1 : Id2 a1) (x2 : Int32) (μ : Mem) {ν : Mem} (h : X7_beginDay a1 x2 μ = some ν) : Ct Lx g l yX7_beginDay cX7_beginDay 4 none { frames := 3, cells := 0, slots := 0, locals := 75 } [.ref (g.2.2.1 + 1), .ref (g.2.2.1 + a1), .int x2] μ none ν := by
  refine x_met (lv := [(0, .ref (g.2.2.1 + 1)), (1, .ref (g.2.2.1 + a1)), (2, .int x2)]) rfl (Nat.le_of_ble_eq_true rfl) rfl ?_
  intro p e s m below meth c C0 hP ls hl
  generalize ([.ref (g.2.2.1 + 1), .ref (g.2.2.1 + a1), .int x2] : List Value).toArray = args at C0 ⊢
  have C0 : Cx Lx g p s m args meth c cX7_beginDay 4 none RX7 := C0
  have hS : va_S (Ax Lx g) s.heap s.heap [] := va_S.rf
  obtain ⟨hx, hb, hr, hml, hown, hts, hlocks, hK⟩ := id C0
  unfold X7_beginDay at h
  skip
  refine lv_aload_n hx hb dX7_beginDay_0 rfl (lv_at hl 1 rfl) ?_
  refine lv_dup hx hb dX7_beginDay_1 rfl ?_
  refine x_get C0 hP inu2 (k := a1) (id2_0 hi1) (by decide) rfl 5 (by decide) q1_158 rfl (v := .int (μ a1 5)) rfl dX7_beginDay_2 ?_
  refine lv_aload_n hx hb dX7_beginDay_5 rfl (lv_at hl 0 rfl) ?_
  refine x_get C0 hP inu7 (k := 1) cx_1 (by decide) rfl 2 (by decide) q1_224 rfl (v := .ref (g.2.2.1 + 8)) rfl dX7_beginDay_6 ?_
  refine lv_aload_n hx hb dX7_beginDay_9 rfl (lv_at hl 1 rfl) ?_
  refine lv_iload_n hx hb dX7_beginDay_10 rfl (lv_at hl 2 rfl) ?_
  obtain ⟨r1, μ1, h1, h⟩ := ob2_some h
  refine x_callV C0 (rest := [.int (μ a1 5), .ref (g.2.2.1 + a1)]) (q := (RX1, TX1, 6)) (c_X1_standingOf l g a1 hi1 x2 μ h1) q3_146 q3_163 q3_144 q3_145 q1_4 hd_X1_standingOf ⟨rfl, rfl⟩ ⟨Nat.le_of_ble_eq_true rfl, Nat.le_of_ble_eq_true rfl⟩ cx_8 (by decide) rfl hP hS hl.1 rfl rfl (Nat.le_of_ble_eq_true rfl) dX7_beginDay_11 (fun H locs hP hS => ?_)
  refine W.eq (g2 := F0 m 14 ls [.int r1, .int (μ a1 5), .ref (g.2.2.1 + a1)]) rfl ?_
  refine lv_isub hx hb dX7_beginDay_14 ?_
  obtain ⟨μ2, e2, h⟩ := lt_some h
  refine x_put C0 hP hS inu2 tyX2 tyX2_ok nmX2 (k := a1) (id2_0 hi1) (by decide) rfl 5 (by decide) q1_158 rfl rfl (v := .int ((μ a1 5) - r1)) (x := ((μ a1 5) - r1)) rfl rfl (Nat.le_of_ble_eq_true rfl) (os_2_5 _ _ _ _) dX7_beginDay_15 (fun H locs hP hS => ?_)
  rw [← e2] at hP
  refine lv_aload_n hx hb dX7_beginDay_18 rfl (lv_at hl 1 rfl) ?_
  refine x_get C0 hP inu2 (k := a1) (id2_0 hi1) (by decide) rfl 8 (by decide) q1_169 rfl (v := .int (μ2 a1 8)) rfl dX7_beginDay_19 ?_
  refine lv_if_eq (tgt := 57) hx hb dX7_beginDay_22 (by decide) (fun c3 => ?_) (fun c3 => ?_)
  · rw [if_pos c3] at h
    exact w_X7_beginDay_57 C0  a1 hi1 μ2 _ _ _ hP hS (lv_sub hl [1] rfl) h
  · rw [if_neg c3] at h
    refine lv_aload_n hx hb dX7_beginDay_25 rfl (lv_at hl 1 rfl) ?_
    refine x_get C0 hP inu2 (k := a1) (id2_0 hi1) (by decide) rfl 7 (by decide) q1_166 rfl (v := .int (μ2 a1 7)) rfl dX7_beginDay_26 ?_
    refine lv_aload_n hx hb dX7_beginDay_29 rfl (lv_at hl 1 rfl) ?_
    refine x_get C0 hP inu2 (k := a1) (id2_0 hi1) (by decide) rfl 6 (by decide) q1_161 rfl (v := .int (μ2 a1 6)) rfl dX7_beginDay_30 ?_
    refine va_mmin hx hb (hml.trans hl.1.symm) hown (hts _ q3_164) (hts _ q3_42) (hts _ q1_12) (hts _ q3_43) (Nat.le_of_ble_eq_true rfl) (Nat.le_of_ble_eq_true rfl) (Nat.zero_le _) (Nat.zero_le _) dX7_beginDay_33 ?_
    refine lv_istore_n (lv' := [(3, .int (if (μ2 a1 6) < (μ2 a1 7) then (μ2 a1 6) else (μ2 a1 7))), (0, .ref (g.2.2.1 + 1)), (1, .ref (g.2.2.1 + a1)), (2, .int x2)]) hx hb dX7_beginDay_36 rfl hl (by decide) rfl (fun ls hl => ?_)
    refine lv_aload_n hx hb dX7_beginDay_37 rfl (lv_at hl 2 rfl) ?_
    refine lv_dup hx hb dX7_beginDay_38 rfl ?_
    refine x_get C0 hP inu2 (k := a1) (id2_0 hi1) (by decide) rfl 5 (by decide) q1_158 rfl (v := .int (μ2 a1 5)) rfl dX7_beginDay_39 ?_
    refine lv_iload_n hx hb dX7_beginDay_42 rfl (lv_at hl 0 rfl) ?_
    refine lv_isub hx hb dX7_beginDay_43 ?_
    obtain ⟨μ5, e5, h⟩ := lt_some h
    refine x_put C0 hP hS inu2 tyX2 tyX2_ok nmX2 (k := a1) (id2_0 hi1) (by decide) rfl 5 (by decide) q1_158 rfl rfl (v := .int ((μ2 a1 5) - (if (μ2 a1 6) < (μ2 a1 7) then (μ2 a1 6) else (μ2 a1 7)))) (x := ((μ2 a1 5) - (if (μ2 a1 6) < (μ2 a1 7) then (μ2 a1 6) else (μ2 a1 7)))) rfl rfl (Nat.le_of_ble_eq_true rfl) (os_2_5 _ _ _ _) dX7_beginDay_44 (fun H locs hP hS => ?_)
    rw [← e5] at hP
    refine lv_aload_n hx hb dX7_beginDay_47 rfl (lv_at hl 2 rfl) ?_
    refine lv_dup hx hb dX7_beginDay_48 rfl ?_
    refine x_get C0 hP inu2 (k := a1) (id2_0 hi1) (by decide) rfl 6 (by decide) q1_161 rfl (v := .int (μ5 a1 6)) rfl dX7_beginDay_49 ?_
    refine lv_iload_n hx hb dX7_beginDay_52 rfl (lv_at hl 0 rfl) ?_
    refine lv_isub hx hb dX7_beginDay_53 ?_
    obtain ⟨μ6, e6, h⟩ := lt_some h
    refine x_put C0 hP hS inu2 tyX2 tyX2_ok nmX2 (k := a1) (id2_0 hi1) (by decide) rfl 6 (by decide) q1_161 rfl rfl (v := .int ((μ5 a1 6) - (if (μ2 a1 6) < (μ2 a1 7) then (μ2 a1 6) else (μ2 a1 7)))) (x := ((μ5 a1 6) - (if (μ2 a1 6) < (μ2 a1 7) then (μ2 a1 6) else (μ2 a1 7)))) rfl rfl (Nat.le_of_ble_eq_true rfl) (os_2_6 _ _ _ _) dX7_beginDay_54 (fun H locs hP hS => ?_)
    rw [← e6] at hP
    exact w_X7_beginDay_57 C0  a1 hi1 μ6 _ _ _ hP hS (lv_sub hl [2] rfl) h
def X7_useLoad_65  (a1 : Nat) (x3 : Int32) (x6 : Int32) (t0 : Int32) (μ : Mem) : Option Mem :=
  lt (st μ a1 5 ((μ a1 5) - (x3 * x6))) fun μ7 => lt (st μ7 a1 13 ((μ7 a1 13) + (x3 * (t0 - x6)))) fun μ8 => lt (st μ8 a1 11 ((μ8 a1 11) + x3)) fun μ9 => lt (st μ9 a1 10 ((μ9 a1 10) + x3)) fun μ10 => some μ10
set_option maxRecDepth 100000 in
set_option maxHeartbeats 4000000 in
theorem w_X7_useLoad_65 {g : Gx} {p : Program} {l : Launch} {e : Env} {s : State} {m : MethodId} {args : Array Value} {below : List Frame} {meth : Method} {c : Code} (C0 : Cx Lx g p s m args meth c cX7_useLoad 8 none RX7) {ν : Mem}  (a1 : Nat) (ha1 : Id2 a1) (x3 : Int32) (x6 : Int32) (t0 : Int32) (μ : Mem) (H : Heap) (locs : List Loc) (ls : Array Slot) (hP : Px Lx g μ H) (hS : va_S (Ax Lx g) s.heap H locs) (hl : lv_has ls 8 [(1, .ref (g.2.2.1 + a1)), (3, .int x3), (6, .int x6)]) (h : X7_useLoad_65  a1 x3 x6 t0 μ = some ν) : W p l e { frames := 3, cells := 0, slots := 0, locals := 75 } s m args below meth c H locs 0 0 (MQ below (Qx Lx g none ν) args s 0 0 (Ax Lx g)) (F0 m 65 ls [.int t0]) := by
  obtain ⟨hx, hb, hr, hml, hown, hts, hlocks, hK⟩ := id C0
  unfold X7_useLoad_65 at h
  refine lv_istore (lv' := [(7, .int t0), (1, .ref (g.2.2.1 + a1)), (3, .int x3), (6, .int x6)]) hx hb dX7_useLoad_65 hl (by decide) rfl (fun ls hl => ?_)
  refine lv_aload_n hx hb dX7_useLoad_67 rfl (lv_at hl 1 rfl) ?_
  refine lv_dup hx hb dX7_useLoad_68 rfl ?_
  refine x_get C0 hP inu2 (k := a1) (id2_0 ha1) (by decide) rfl 5 (by decide) q1_158 rfl (v := .int (μ a1 5)) rfl dX7_useLoad_69 ?_
  refine lv_iload_n hx hb dX7_useLoad_72 rfl (lv_at hl 2 rfl) ?_
  refine lv_iload hx hb dX7_useLoad_73 (lv_at hl 3 rfl) ?_
  refine lv_imul hx hb dX7_useLoad_75 ?_
  refine lv_isub hx hb dX7_useLoad_76 ?_
  obtain ⟨μ7, e7, h⟩ := lt_some h
  refine x_put C0 hP hS inu2 tyX2 tyX2_ok nmX2 (k := a1) (id2_0 ha1) (by decide) rfl 5 (by decide) q1_158 rfl rfl (v := .int ((μ a1 5) - (x3 * x6))) (x := ((μ a1 5) - (x3 * x6))) rfl rfl (Nat.le_of_ble_eq_true rfl) (os_2_5 _ _ _ _) dX7_useLoad_77 (fun H locs hP hS => ?_)
  rw [← e7] at hP
  refine lv_aload_n hx hb dX7_useLoad_80 rfl (lv_at hl 1 rfl) ?_
  refine lv_dup hx hb dX7_useLoad_81 rfl ?_
  refine x_get C0 hP inu2 (k := a1) (id2_0 ha1) (by decide) rfl 13 (by decide) q1_185 rfl (v := .int (μ7 a1 13)) rfl dX7_useLoad_82 ?_
  refine lv_iload_n hx hb dX7_useLoad_85 rfl (lv_at hl 2 rfl) ?_
  refine lv_iload hx hb dX7_useLoad_86 (lv_at hl 0 rfl) ?_
  refine lv_iload hx hb dX7_useLoad_88 (lv_at hl 3 rfl) ?_
  refine lv_isub hx hb dX7_useLoad_90 ?_
  refine lv_imul hx hb dX7_useLoad_91 ?_
  refine lv_iadd hx hb dX7_useLoad_92 ?_
  obtain ⟨μ8, e8, h⟩ := lt_some h
  refine x_put C0 hP hS inu2 tyX2 tyX2_ok nmX2 (k := a1) (id2_0 ha1) (by decide) rfl 13 (by decide) q1_185 rfl rfl (v := .int ((μ7 a1 13) + (x3 * (t0 - x6)))) (x := ((μ7 a1 13) + (x3 * (t0 - x6)))) rfl rfl (Nat.le_of_ble_eq_true rfl) (os_2_13 _ _ _ _) dX7_useLoad_93 (fun H locs hP hS => ?_)
  rw [← e8] at hP
  refine lv_aload_n hx hb dX7_useLoad_96 rfl (lv_at hl 1 rfl) ?_
  refine lv_dup hx hb dX7_useLoad_97 rfl ?_
  refine x_get C0 hP inu2 (k := a1) (id2_0 ha1) (by decide) rfl 11 (by decide) q1_178 rfl (v := .int (μ8 a1 11)) rfl dX7_useLoad_98 ?_
  refine lv_iload_n hx hb dX7_useLoad_101 rfl (lv_at hl 2 rfl) ?_
  refine lv_iadd hx hb dX7_useLoad_102 ?_
  obtain ⟨μ9, e9, h⟩ := lt_some h
  refine x_put C0 hP hS inu2 tyX2 tyX2_ok nmX2 (k := a1) (id2_0 ha1) (by decide) rfl 11 (by decide) q1_178 rfl rfl (v := .int ((μ8 a1 11) + x3)) (x := ((μ8 a1 11) + x3)) rfl rfl (Nat.le_of_ble_eq_true rfl) (os_2_11 _ _ _ _) dX7_useLoad_103 (fun H locs hP hS => ?_)
  rw [← e9] at hP
  refine lv_aload_n hx hb dX7_useLoad_106 rfl (lv_at hl 1 rfl) ?_
  refine lv_dup hx hb dX7_useLoad_107 rfl ?_
  refine x_get C0 hP inu2 (k := a1) (id2_0 ha1) (by decide) rfl 10 (by decide) q1_175 rfl (v := .int (μ9 a1 10)) rfl dX7_useLoad_108 ?_
  refine lv_iload_n hx hb dX7_useLoad_111 rfl (lv_at hl 2 rfl) ?_
  refine lv_iadd hx hb dX7_useLoad_112 ?_
  obtain ⟨μ10, e10, h⟩ := lt_some h
  refine x_put C0 hP hS inu2 tyX2 tyX2_ok nmX2 (k := a1) (id2_0 ha1) (by decide) rfl 10 (by decide) q1_175 rfl rfl (v := .int ((μ9 a1 10) + x3)) (x := ((μ9 a1 10) + x3)) rfl rfl (Nat.le_of_ble_eq_true rfl) (os_2_10 _ _ _ _) dX7_useLoad_113 (fun H locs hP hS => ?_)
  rw [← e10] at hP
  obtain rfl := some1 h
  exact x_vret C0 hP hS dX7_useLoad_116
def X7_useLoad (a1 : Nat) (x2 : Int32) (μ : Mem) : Option Mem :=
  gd (inB (x2 - x2 / (24 : Int32) * (24 : Int32)) 24) (ob2 (X1_ruling (0 : Int32) x2 μ) fun r2 μ2 => ob2 (X2_loadedUnder a1 r2 μ2) fun r3 μ3 => ob2 (X1_unitPrice r3 a1 x2 μ3) fun r4 μ4 => (if r2 = r3 then X7_useLoad_65 a1 (μ (a1 + 1) (x2 - x2 / (24 : Int32) * (24 : Int32)).toNatClampNeg) r4 r4 μ4 else ob2 (X1_unitPrice r2 a1 x2 μ4) fun r6 μ6 => X7_useLoad_65 a1 (μ (a1 + 1) (x2 - x2 / (24 : Int32) * (24 : Int32)).toNatClampNeg) r4 r6 μ6))
set_option maxRecDepth 100000 in
set_option maxHeartbeats 4000000 in
theorem c_X7_useLoad (l : Launch) (g : Gx) (a1 : Nat) (hi1 : Id2 a1) (x2 : Int32) (μ : Mem) {ν : Mem} (h : X7_useLoad a1 x2 μ = some ν) : Ct Lx g l yX7_useLoad cX7_useLoad 8 none { frames := 3, cells := 0, slots := 0, locals := 75 } [.ref (g.2.2.1 + 1), .ref (g.2.2.1 + a1), .int x2] μ none ν := by
  refine x_met (lv := [(0, .ref (g.2.2.1 + 1)), (1, .ref (g.2.2.1 + a1)), (2, .int x2)]) rfl (Nat.le_of_ble_eq_true rfl) rfl ?_
  intro p e s m below meth c C0 hP ls hl
  generalize ([.ref (g.2.2.1 + 1), .ref (g.2.2.1 + a1), .int x2] : List Value).toArray = args at C0 ⊢
  have C0 : Cx Lx g p s m args meth c cX7_useLoad 8 none RX7 := C0
  have hS : va_S (Ax Lx g) s.heap s.heap [] := va_S.rf
  obtain ⟨hx, hb, hr, hml, hown, hts, hlocks, hK⟩ := id C0
  unfold X7_useLoad at h
  skip
  refine lv_aload_n hx hb dX7_useLoad_0 rfl (lv_at hl 1 rfl) ?_
  refine x_get C0 hP inu2 (k := a1) (id2_0 hi1) (by decide) rfl 0 (by decide) q1_141 rfl (v := .ref (g.2.2.1 + (a1 + 1))) rfl dX7_useLoad_1 ?_
  refine lv_iload_n hx hb dX7_useLoad_4 rfl (lv_at hl 2 rfl) ?_
  refine lv_bipush (v := (24 : Int32)) hx hb dX7_useLoad_5 (by decide +kernel) ?_
  refine lv_irem hx hb dX7_useLoad_7 (by decide) ?_
  obtain ⟨z1, h⟩ := gd_some h
  refine x_iald C0 hP (k := (a1 + 1)) (id2_1 hi1) (j := (x2 - x2 / (24 : Int32) * (24 : Int32)).toNatClampNeg) z1 rfl dX7_useLoad_8 ?_
  refine lv_istore_n (lv' := [(3, .int (μ (a1 + 1) (x2 - x2 / (24 : Int32) * (24 : Int32)).toNatClampNeg)), (0, .ref (g.2.2.1 + 1)), (1, .ref (g.2.2.1 + a1)), (2, .int x2)]) hx hb dX7_useLoad_9 rfl hl (by decide) rfl (fun ls hl => ?_)
  refine lv_aload_n hx hb dX7_useLoad_10 rfl (lv_at hl 1 rfl) ?_
  refine x_get C0 hP inu7 (k := 1) cx_1 (by decide) rfl 2 (by decide) q1_224 rfl (v := .ref (g.2.2.1 + 8)) rfl dX7_useLoad_11 ?_
  refine lv_iconst (v := (0 : Int32)) hx hb dX7_useLoad_14 rfl ?_
  refine lv_iload_n hx hb dX7_useLoad_15 rfl (lv_at hl 3 rfl) ?_
  obtain ⟨r2, μ2, h1, h⟩ := ob2_some h
  refine x_callV C0 (rest := []) (q := (RX1, TX1, 6)) (c_X1_ruling l g (0 : Int32) x2 μ h1) q2_135 q2_132 q2_133 q2_134 q1_4 hd_X1_ruling ⟨rfl, rfl⟩ ⟨Nat.le_of_ble_eq_true rfl, Nat.le_of_ble_eq_true rfl⟩ cx_8 (by decide) rfl hP hS hl.1 rfl rfl (Nat.le_of_ble_eq_true rfl) dX7_useLoad_16 (fun H locs hP hS => ?_)
  refine W.eq (g2 := F0 m 19 ls [.int r2]) rfl ?_
  refine lv_istore (lv' := [(4, .int r2), (3, .int (μ (a1 + 1) (x2 - x2 / (24 : Int32) * (24 : Int32)).toNatClampNeg)), (0, .ref (g.2.2.1 + 1)), (1, .ref (g.2.2.1 + a1)), (2, .int x2)]) hx hb dX7_useLoad_19 hl (by decide) rfl (fun ls hl => ?_)
  refine lv_aload_n hx hb dX7_useLoad_21 rfl (lv_at hl 3 rfl) ?_
  refine lv_iload hx hb dX7_useLoad_22 (lv_at hl 0 rfl) ?_
  obtain ⟨r3, μ3, h1, h⟩ := ob2_some h
  refine x_callV C0 (rest := []) (q := (RX2, TX2, 15)) (c_X2_loadedUnder l g a1 hi1 r2 μ2 h1) q2_159 q3_169 q2_157 q2_158 q1_7 hd_X2_loadedUnder ⟨rfl, rfl⟩ ⟨Nat.le_of_ble_eq_true rfl, Nat.le_of_ble_eq_true rfl⟩ (id2_0 hi1) (by decide) rfl hP hS hl.1 rfl rfl (Nat.le_of_ble_eq_true rfl) dX7_useLoad_24 (fun H locs hP hS => ?_)
  refine W.eq (g2 := F0 m 27 ls [.int r3]) rfl ?_
  refine lv_istore (lv' := [(5, .int r3), (4, .int r2), (3, .int (μ (a1 + 1) (x2 - x2 / (24 : Int32) * (24 : Int32)).toNatClampNeg)), (0, .ref (g.2.2.1 + 1)), (1, .ref (g.2.2.1 + a1)), (2, .int x2)]) hx hb dX7_useLoad_27 hl (by decide) rfl (fun ls hl => ?_)
  refine lv_aload_n hx hb dX7_useLoad_29 rfl (lv_at hl 3 rfl) ?_
  refine x_get C0 hP inu7 (k := 1) cx_1 (by decide) rfl 2 (by decide) q1_224 rfl (v := .ref (g.2.2.1 + 8)) rfl dX7_useLoad_30 ?_
  refine lv_iload hx hb dX7_useLoad_33 (lv_at hl 0 rfl) ?_
  refine lv_aload_n hx hb dX7_useLoad_35 rfl (lv_at hl 4 rfl) ?_
  refine lv_iload_n hx hb dX7_useLoad_36 rfl (lv_at hl 5 rfl) ?_
  obtain ⟨r4, μ4, h1, h⟩ := ob2_some h
  refine x_callV C0 (rest := []) (q := (RX1, TX1, 6)) (c_X1_unitPrice l g r3 a1 hi1 x2 μ3 h1) q3_142 q3_170 q3_140 q3_141 q1_4 hd_X1_unitPrice ⟨rfl, rfl⟩ ⟨Nat.le_of_ble_eq_true rfl, Nat.le_of_ble_eq_true rfl⟩ cx_8 (by decide) rfl hP hS hl.1 rfl rfl (Nat.le_of_ble_eq_true rfl) dX7_useLoad_37 (fun H locs hP hS => ?_)
  refine W.eq (g2 := F0 m 40 ls [.int r4]) rfl ?_
  refine lv_istore (lv' := [(6, .int r4), (5, .int r3), (4, .int r2), (3, .int (μ (a1 + 1) (x2 - x2 / (24 : Int32) * (24 : Int32)).toNatClampNeg)), (0, .ref (g.2.2.1 + 1)), (1, .ref (g.2.2.1 + a1)), (2, .int x2)]) hx hb dX7_useLoad_40 hl (by decide) rfl (fun ls hl => ?_)
  refine lv_iload hx hb dX7_useLoad_42 (lv_at hl 2 rfl) ?_
  refine lv_iload hx hb dX7_useLoad_44 (lv_at hl 1 rfl) ?_
  refine lv_icmp_ne (tgt := 54) hx hb dX7_useLoad_46 (by decide) (fun c5 => ?_) (fun c5 => ?_)
  · rw [if_neg c5] at h
    refine lv_aload_n hx hb dX7_useLoad_54 rfl (lv_at hl 4 rfl) ?_
    refine x_get C0 hP inu7 (k := 1) cx_1 (by decide) rfl 2 (by decide) q1_224 rfl (v := .ref (g.2.2.1 + 8)) rfl dX7_useLoad_55 ?_
    refine lv_iload hx hb dX7_useLoad_58 (lv_at hl 2 rfl) ?_
    refine lv_aload_n hx hb dX7_useLoad_60 rfl (lv_at hl 5 rfl) ?_
    refine lv_iload_n hx hb dX7_useLoad_61 rfl (lv_at hl 6 rfl) ?_
    obtain ⟨r6, μ6, h1, h⟩ := ob2_some h
    refine x_callV C0 (rest := []) (q := (RX1, TX1, 6)) (c_X1_unitPrice l g r2 a1 hi1 x2 μ4 h1) q3_142 q3_170 q3_140 q3_141 q1_4 hd_X1_unitPrice ⟨rfl, rfl⟩ ⟨Nat.le_of_ble_eq_true rfl, Nat.le_of_ble_eq_true rfl⟩ cx_8 (by decide) rfl hP hS hl.1 rfl rfl (Nat.le_of_ble_eq_true rfl) dX7_useLoad_62 (fun H locs hP hS => ?_)
    refine W.eq (g2 := F0 m 65 ls [.int r6]) rfl ?_
    exact w_X7_useLoad_65 C0  a1 hi1 (μ (a1 + 1) (x2 - x2 / (24 : Int32) * (24 : Int32)).toNatClampNeg) r4 r6 μ6 _ _ _ hP hS (lv_sub hl [5, 3, 0] rfl) h
  · rw [if_pos c5] at h
    refine lv_iload hx hb dX7_useLoad_49 (lv_at hl 0 rfl) ?_
    refine lv_goto (tgt := 65) hx hb dX7_useLoad_51 (by decide) ?_
    exact w_X7_useLoad_65 C0  a1 hi1 (μ (a1 + 1) (x2 - x2 / (24 : Int32) * (24 : Int32)).toNatClampNeg) r4 r4 μ4 _ _ _ hP hS (lv_sub hl [5, 3, 0] rfl) h
def X9_isFriendly (x0 : Int32) (μ : Mem) : Option (Int32 × Mem) :=
  (if (18 : Int32) ≤ (x0 - x0 / (24 : Int32) * (24 : Int32)) then some ((1 : Int32), μ) else (if (x0 - x0 / (24 : Int32) * (24 : Int32)) < (9 : Int32) then some ((1 : Int32), μ) else (if ((x0 / (24 : Int32)) - (x0 / (24 : Int32)) / (7 : Int32) * (7 : Int32)) < (5 : Int32) then some ((0 : Int32), μ) else some ((1 : Int32), μ))))
set_option maxRecDepth 100000 in
set_option maxHeartbeats 4000000 in
theorem c_X9_isFriendly (l : Launch) (g : Gx) (x0 : Int32) (μ : Mem) {r : Int32} {ν : Mem} (h : X9_isFriendly x0 μ = some (r, ν)) : Ct Lx g l yX9_isFriendly cX9_isFriendly 2 (some .boolean) { frames := 0, cells := 0, slots := 0, locals := 0 } [.int x0] μ (some (.int r)) ν := by
  refine x_met (lv := [(0, .int x0)]) rfl (Nat.le_of_ble_eq_true rfl) rfl ?_
  intro p e s m below meth c C0 hP ls hl
  generalize ([.int x0] : List Value).toArray = args at C0 ⊢
  have C0 : Cx Lx g p s m args meth c cX9_isFriendly 2 (some .boolean) RX9 := C0
  have hS : va_S (Ax Lx g) s.heap s.heap [] := va_S.rf
  obtain ⟨hx, hb, hr, hml, hown, hts, hlocks, hK⟩ := id C0
  unfold X9_isFriendly at h
  skip
  refine lv_iload_n hx hb dX9_isFriendly_0 rfl (lv_at hl 0 rfl) ?_
  refine lv_bipush (v := (24 : Int32)) hx hb dX9_isFriendly_1 (by decide +kernel) ?_
  refine lv_irem hx hb dX9_isFriendly_3 (by decide) ?_
  refine lv_istore_n (lv' := [(1, .int (x0 - x0 / (24 : Int32) * (24 : Int32))), (0, .int x0)]) hx hb dX9_isFriendly_4 rfl hl (by decide) rfl (fun ls hl => ?_)
  refine lv_iload_n hx hb dX9_isFriendly_5 rfl (lv_at hl 0 rfl) ?_
  refine lv_bipush (v := (18 : Int32)) hx hb dX9_isFriendly_6 (by decide +kernel) ?_
  refine lv_icmp_ge (tgt := 28) hx hb dX9_isFriendly_8 (by decide) (fun c1 => ?_) (fun c1 => ?_)
  · rw [if_pos c1] at h
    refine lv_iconst (v := (1 : Int32)) hx hb dX9_isFriendly_28 rfl ?_
    refine lv_goto (tgt := 33) hx hb dX9_isFriendly_29 (by decide) ?_
    obtain ⟨rfl, rfl⟩ := some2 h
    exact x_zret C0 hP hS (by decide) dX9_isFriendly_33
  · rw [if_neg c1] at h
    refine lv_iload_n hx hb dX9_isFriendly_11 rfl (lv_at hl 0 rfl) ?_
    refine lv_bipush (v := (9 : Int32)) hx hb dX9_isFriendly_12 (by decide +kernel) ?_
    refine lv_icmp_lt (tgt := 28) hx hb dX9_isFriendly_14 (by decide) (fun c2 => ?_) (fun c2 => ?_)
    · rw [if_pos c2] at h
      refine lv_iconst (v := (1 : Int32)) hx hb dX9_isFriendly_28 rfl ?_
      refine lv_goto (tgt := 33) hx hb dX9_isFriendly_29 (by decide) ?_
      obtain ⟨rfl, rfl⟩ := some2 h
      exact x_zret C0 hP hS (by decide) dX9_isFriendly_33
    · rw [if_neg c2] at h
      refine lv_iload_n hx hb dX9_isFriendly_17 rfl (lv_at hl 1 rfl) ?_
      refine lv_bipush (v := (24 : Int32)) hx hb dX9_isFriendly_18 (by decide +kernel) ?_
      refine lv_idiv hx hb dX9_isFriendly_20 (by decide) ?_
      refine lv_bipush (v := (7 : Int32)) hx hb dX9_isFriendly_21 (by decide +kernel) ?_
      refine lv_irem hx hb dX9_isFriendly_23 (by decide) ?_
      refine lv_iconst (v := (5 : Int32)) hx hb dX9_isFriendly_24 rfl ?_
      refine lv_icmp_lt (tgt := 32) hx hb dX9_isFriendly_25 (by decide) (fun c3 => ?_) (fun c3 => ?_)
      · rw [if_pos c3] at h
        refine lv_iconst (v := (0 : Int32)) hx hb dX9_isFriendly_32 rfl ?_
        obtain ⟨rfl, rfl⟩ := some2 h
        exact x_zret C0 hP hS (by decide) dX9_isFriendly_33
      · rw [if_neg c3] at h
        refine lv_iconst (v := (1 : Int32)) hx hb dX9_isFriendly_28 rfl ?_
        refine lv_goto (tgt := 33) hx hb dX9_isFriendly_29 (by decide) ?_
        obtain ⟨rfl, rfl⟩ := some2 h
        exact x_zret C0 hP hS (by decide) dX9_isFriendly_33
def X7_endHour_79  (a1 : Nat) (t0 : Int32) (μ : Mem) : Option (Int32 × Mem) :=
  (if t0 = (0 : Int32) then gd (t0 = 0 ∨ t0 = 1) (some (t0, μ)) else lt (st μ a1 8 (0 : Int32)) fun μ7 => gd (t0 = 0 ∨ t0 = 1) (some (t0, μ7)))
set_option maxRecDepth 100000 in
set_option maxHeartbeats 4000000 in
theorem w_X7_endHour_79 {g : Gx} {p : Program} {l : Launch} {e : Env} {s : State} {m : MethodId} {args : Array Value} {below : List Frame} {meth : Method} {c : Code} (C0 : Cx Lx g p s m args meth c cX7_endHour 4 (some .boolean) RX7) {r : Int32} {ν : Mem}  (a1 : Nat) (ha1 : Id2 a1) (t0 : Int32) (μ : Mem) (H : Heap) (locs : List Loc) (ls : Array Slot) (hP : Px Lx g μ H) (hS : va_S (Ax Lx g) s.heap H locs) (hl : lv_has ls 4 [(1, .ref (g.2.2.1 + a1))]) (h : X7_endHour_79  a1 t0 μ = some (r, ν)) : W p l e { frames := 4, cells := 0, slots := 0, locals := 102 } s m args below meth c H locs 0 0 (MQ below (Qx Lx g (some (.int r)) ν) args s 0 0 (Ax Lx g)) (F0 m 79 ls [.int t0]) := by
  obtain ⟨hx, hb, hr, hml, hown, hts, hlocks, hK⟩ := id C0
  unfold X7_endHour_79 at h
  refine lv_istore_n (lv' := [(3, .int t0), (1, .ref (g.2.2.1 + a1))]) hx hb dX7_endHour_79 rfl hl (by decide) rfl (fun ls hl => ?_)
  refine lv_iload_n hx hb dX7_endHour_80 rfl (lv_at hl 0 rfl) ?_
  refine lv_if_eq (tgt := 89) hx hb dX7_endHour_81 (by decide) (fun c5 => ?_) (fun c5 => ?_)
  · rw [if_pos c5] at h
    refine lv_iload_n hx hb dX7_endHour_89 rfl (lv_at hl 0 rfl) ?_
    obtain ⟨z6, h⟩ := gd_some h
    obtain ⟨rfl, rfl⟩ := some2 h
    exact x_zret C0 hP hS z6 dX7_endHour_90
  · rw [if_neg c5] at h
    refine lv_aload_n hx hb dX7_endHour_84 rfl (lv_at hl 1 rfl) ?_
    refine lv_iconst (v := (0 : Int32)) hx hb dX7_endHour_85 rfl ?_
    obtain ⟨μ7, e7, h⟩ := lt_some h
    refine x_put C0 hP hS inu2 tyX2 tyX2_ok nmX2 (k := a1) (id2_0 ha1) (by decide) rfl 8 (by decide) q1_169 rfl rfl (v := .int (0 : Int32)) (x := (0 : Int32)) rfl rfl (Nat.le_of_ble_eq_true rfl) (os_2_8 _ _ _ _) dX7_endHour_86 (fun H locs hP hS => ?_)
    rw [← e7] at hP
    refine lv_iload_n hx hb dX7_endHour_89 rfl (lv_at hl 0 rfl) ?_
    obtain ⟨z8, h⟩ := gd_some h
    obtain ⟨rfl, rfl⟩ := some2 h
    exact x_zret C0 hP hS z8 dX7_endHour_90
def X7_endHour_78  (a1 : Nat) (μ : Mem) : Option (Int32 × Mem) :=
  X7_endHour_79 a1 (0 : Int32) μ
set_option maxRecDepth 100000 in
set_option maxHeartbeats 4000000 in
theorem w_X7_endHour_78 {g : Gx} {p : Program} {l : Launch} {e : Env} {s : State} {m : MethodId} {args : Array Value} {below : List Frame} {meth : Method} {c : Code} (C0 : Cx Lx g p s m args meth c cX7_endHour 4 (some .boolean) RX7) {r : Int32} {ν : Mem}  (a1 : Nat) (ha1 : Id2 a1) (μ : Mem) (H : Heap) (locs : List Loc) (ls : Array Slot) (hP : Px Lx g μ H) (hS : va_S (Ax Lx g) s.heap H locs) (hl : lv_has ls 4 [(1, .ref (g.2.2.1 + a1))]) (h : X7_endHour_78  a1 μ = some (r, ν)) : W p l e { frames := 4, cells := 0, slots := 0, locals := 102 } s m args below meth c H locs 0 0 (MQ below (Qx Lx g (some (.int r)) ν) args s 0 0 (Ax Lx g)) (F0 m 78 ls []) := by
  obtain ⟨hx, hb, hr, hml, hown, hts, hlocks, hK⟩ := id C0
  unfold X7_endHour_78 at h
  refine lv_iconst (v := (0 : Int32)) hx hb dX7_endHour_78 rfl ?_
  exact w_X7_endHour_79 C0  a1 ha1 (0 : Int32) μ _ _ _ hP hS (lv_sub hl [0] rfl) h
def X7_endHour_39  (a1 : Nat) (x2 : Int32) (μ : Mem) : Option (Int32 × Mem) :=
  (if (μ a1 8) = (0 : Int32) then X7_endHour_78 a1 μ else (if (μ a1 2) = (4 : Int32) then X7_endHour_78 a1 μ else ob2 (X2_limit a1 μ) fun r10 μ10 => (if r10 ≤ (μ a1 5) then X7_endHour_78 a1 μ10 else ob2 (X9_isFriendly (x2 + (1 : Int32)) μ10) fun r12 μ12 => (if r12 = (0 : Int32) then X7_endHour_79 a1 (1 : Int32) μ12 else X7_endHour_78 a1 μ12))))
set_option maxRecDepth 100000 in
set_option maxHeartbeats 4000000 in
theorem w_X7_endHour_39 {g : Gx} {p : Program} {l : Launch} {e : Env} {s : State} {m : MethodId} {args : Array Value} {below : List Frame} {meth : Method} {c : Code} (C0 : Cx Lx g p s m args meth c cX7_endHour 4 (some .boolean) RX7) {r : Int32} {ν : Mem}  (a1 : Nat) (ha1 : Id2 a1) (x2 : Int32) (μ : Mem) (H : Heap) (locs : List Loc) (ls : Array Slot) (hP : Px Lx g μ H) (hS : va_S (Ax Lx g) s.heap H locs) (hl : lv_has ls 4 [(1, .ref (g.2.2.1 + a1)), (2, .int x2)]) (h : X7_endHour_39  a1 x2 μ = some (r, ν)) : W p l e { frames := 4, cells := 0, slots := 0, locals := 102 } s m args below meth c H locs 0 0 (MQ below (Qx Lx g (some (.int r)) ν) args s 0 0 (Ax Lx g)) (F0 m 39 ls []) := by
  obtain ⟨hx, hb, hr, hml, hown, hts, hlocks, hK⟩ := id C0
  unfold X7_endHour_39 at h
  refine lv_aload_n hx hb dX7_endHour_39 rfl (lv_at hl 0 rfl) ?_
  refine x_get C0 hP inu2 (k := a1) (id2_0 ha1) (by decide) rfl 8 (by decide) q1_169 rfl (v := .int (μ a1 8)) rfl dX7_endHour_40 ?_
  refine lv_if_eq (tgt := 78) hx hb dX7_endHour_43 (by decide) (fun c4 => ?_) (fun c4 => ?_)
  · rw [if_pos c4] at h
    exact w_X7_endHour_78 C0  a1 ha1 μ _ _ _ hP hS (lv_sub hl [0] rfl) h
  · rw [if_neg c4] at h
    refine lv_aload_n hx hb dX7_endHour_46 rfl (lv_at hl 0 rfl) ?_
    refine x_get C0 hP inu2 (k := a1) (id2_0 ha1) (by decide) rfl 2 (by decide) q1_148 rfl (v := .int (μ a1 2)) rfl dX7_endHour_47 ?_
    refine lv_iconst (v := (4 : Int32)) hx hb dX7_endHour_50 rfl ?_
    refine lv_icmp_eq (tgt := 78) hx hb dX7_endHour_51 (by decide) (fun c9 => ?_) (fun c9 => ?_)
    · rw [if_pos c9] at h
      exact w_X7_endHour_78 C0  a1 ha1 μ _ _ _ hP hS (lv_sub hl [0] rfl) h
    · rw [if_neg c9] at h
      refine lv_aload_n hx hb dX7_endHour_54 rfl (lv_at hl 0 rfl) ?_
      refine x_get C0 hP inu2 (k := a1) (id2_0 ha1) (by decide) rfl 5 (by decide) q1_158 rfl (v := .int (μ a1 5)) rfl dX7_endHour_55 ?_
      refine lv_aload_n hx hb dX7_endHour_58 rfl (lv_at hl 0 rfl) ?_
      obtain ⟨r10, μ10, h1, h⟩ := ob2_some h
      refine x_callV C0 (rest := [.int (μ a1 5)]) (q := (RX2, TX2, 15)) (c_X2_limit l g a1 ha1 μ h1) q2_167 q3_171 q2_165 q2_166 q1_7 hd_X2_limit ⟨rfl, rfl⟩ ⟨Nat.le_of_ble_eq_true rfl, Nat.le_of_ble_eq_true rfl⟩ (id2_0 ha1) (by decide) rfl hP hS hl.1 rfl rfl (Nat.le_of_ble_eq_true rfl) dX7_endHour_59 (fun H locs hP hS => ?_)
      refine W.eq (g2 := F0 m 62 ls [.int r10, .int (μ a1 5)]) rfl ?_
      refine lv_icmp_ge (tgt := 78) hx hb dX7_endHour_62 (by decide) (fun c11 => ?_) (fun c11 => ?_)
      · rw [if_pos c11] at h
        exact w_X7_endHour_78 C0  a1 ha1 μ10 _ _ _ hP hS (lv_sub hl [0] rfl) h
      · rw [if_neg c11] at h
        refine lv_iload_n hx hb dX7_endHour_65 rfl (lv_at hl 1 rfl) ?_
        refine lv_iconst (v := (1 : Int32)) hx hb dX7_endHour_66 rfl ?_
        refine lv_iadd hx hb dX7_endHour_67 ?_
        obtain ⟨r12, μ12, h1, h⟩ := ob2_some h
        refine x_callSN C0 (rest := []) (c_X9_isFriendly l g (x2 + (1 : Int32)) μ10 h1) q3_174 (by decide +kernel) q3_173 q1_1 hd_X9_isFriendly ⟨rfl, rfl⟩ ⟨Nat.le_of_ble_eq_true rfl, Nat.le_of_ble_eq_true rfl⟩ hP hS hl.1 rfl rfl (Nat.le_of_ble_eq_true rfl) dX7_endHour_68 (fun H locs hP hS => ?_)
        refine W.eq (g2 := F0 m 71 ls [.int r12]) rfl ?_
        refine lv_if_ne (tgt := 78) hx hb dX7_endHour_71 (by decide) (fun c13 => ?_) (fun c13 => ?_)
        · rw [if_neg c13] at h
          exact w_X7_endHour_78 C0  a1 ha1 μ12 _ _ _ hP hS (lv_sub hl [0] rfl) h
        · rw [if_pos c13] at h
          refine lv_iconst (v := (1 : Int32)) hx hb dX7_endHour_74 rfl ?_
          refine lv_goto (tgt := 79) hx hb dX7_endHour_75 (by decide) ?_
          exact w_X7_endHour_79 C0  a1 ha1 (1 : Int32) μ12 _ _ _ hP hS (lv_sub hl [0] rfl) h
def X7_endHour_13  (a1 : Nat) (x2 : Int32) (μ : Mem) : Option (Int32 × Mem) :=
  (if (μ a1 8) = (0 : Int32) then lt (st μ a1 12 ((μ a1 12) + (1 : Int32))) fun μ3 => X7_endHour_39 a1 x2 μ3 else ob (X7_useLoad a1 x2 μ) fun μ14 => X7_endHour_39 a1 x2 μ14)
set_option maxRecDepth 100000 in
set_option maxHeartbeats 4000000 in
theorem w_X7_endHour_13 {g : Gx} {p : Program} {l : Launch} {e : Env} {s : State} {m : MethodId} {args : Array Value} {below : List Frame} {meth : Method} {c : Code} (C0 : Cx Lx g p s m args meth c cX7_endHour 4 (some .boolean) RX7) {r : Int32} {ν : Mem}  (a1 : Nat) (ha1 : Id2 a1) (x2 : Int32) (μ : Mem) (H : Heap) (locs : List Loc) (ls : Array Slot) (hP : Px Lx g μ H) (hS : va_S (Ax Lx g) s.heap H locs) (hl : lv_has ls 4 [(0, .ref (g.2.2.1 + 1)), (1, .ref (g.2.2.1 + a1)), (2, .int x2)]) (h : X7_endHour_13  a1 x2 μ = some (r, ν)) : W p l e { frames := 4, cells := 0, slots := 0, locals := 102 } s m args below meth c H locs 0 0 (MQ below (Qx Lx g (some (.int r)) ν) args s 0 0 (Ax Lx g)) (F0 m 13 ls []) := by
  obtain ⟨hx, hb, hr, hml, hown, hts, hlocks, hK⟩ := id C0
  unfold X7_endHour_13 at h
  refine lv_aload_n hx hb dX7_endHour_13 rfl (lv_at hl 1 rfl) ?_
  refine x_get C0 hP inu2 (k := a1) (id2_0 ha1) (by decide) rfl 8 (by decide) q1_169 rfl (v := .int (μ a1 8)) rfl dX7_endHour_14 ?_
  refine lv_if_eq (tgt := 29) hx hb dX7_endHour_17 (by decide) (fun c2 => ?_) (fun c2 => ?_)
  · rw [if_pos c2] at h
    refine lv_aload_n hx hb dX7_endHour_29 rfl (lv_at hl 1 rfl) ?_
    refine lv_dup hx hb dX7_endHour_30 rfl ?_
    refine x_get C0 hP inu2 (k := a1) (id2_0 ha1) (by decide) rfl 12 (by decide) q1_182 rfl (v := .int (μ a1 12)) rfl dX7_endHour_31 ?_
    refine lv_iconst (v := (1 : Int32)) hx hb dX7_endHour_34 rfl ?_
    refine lv_iadd hx hb dX7_endHour_35 ?_
    obtain ⟨μ3, e3, h⟩ := lt_some h
    refine x_put C0 hP hS inu2 tyX2 tyX2_ok nmX2 (k := a1) (id2_0 ha1) (by decide) rfl 12 (by decide) q1_182 rfl rfl (v := .int ((μ a1 12) + (1 : Int32))) (x := ((μ a1 12) + (1 : Int32))) rfl rfl (Nat.le_of_ble_eq_true rfl) (os_2_12 _ _ _ _) dX7_endHour_36 (fun H locs hP hS => ?_)
    rw [← e3] at hP
    exact w_X7_endHour_39 C0  a1 ha1 x2 μ3 _ _ _ hP hS (lv_sub hl [1, 2] rfl) h
  · rw [if_neg c2] at h
    refine lv_aload_n hx hb dX7_endHour_20 rfl (lv_at hl 0 rfl) ?_
    refine lv_aload_n hx hb dX7_endHour_21 rfl (lv_at hl 1 rfl) ?_
    refine lv_iload_n hx hb dX7_endHour_22 rfl (lv_at hl 2 rfl) ?_
    obtain ⟨μ14, h1, h⟩ := ob_some h
    refine x_callV C0 (rest := []) (q := (RX7, TX7, 9)) (c_X7_useLoad l g a1 ha1 x2 μ h1) q3_168 q3_165 q3_167 r1_13 q1_2 hd_X7_useLoad ⟨rfl, rfl⟩ ⟨Nat.le_of_ble_eq_true rfl, Nat.le_of_ble_eq_true rfl⟩ cx_1 (by decide) rfl hP hS hl.1 rfl rfl (Nat.le_of_ble_eq_true rfl) dX7_endHour_23 (fun H locs hP hS => ?_)
    refine W.eq (g2 := F0 m 26 ls []) rfl ?_
    refine lv_goto (tgt := 39) hx hb dX7_endHour_26 (by decide) ?_
    exact w_X7_endHour_39 C0  a1 ha1 x2 μ14 _ _ _ hP hS (lv_sub hl [1, 2] rfl) h
def X7_endHour (a1 : Nat) (x2 : Int32) (μ : Mem) : Option (Int32 × Mem) :=
  (if (x2 - x2 / (24 : Int32) * (24 : Int32)) = (0 : Int32) then ob (X7_beginDay a1 x2 μ) fun μ15 => X7_endHour_13 a1 x2 μ15 else X7_endHour_13 a1 x2 μ)
set_option maxRecDepth 100000 in
set_option maxHeartbeats 4000000 in
theorem c_X7_endHour (l : Launch) (g : Gx) (a1 : Nat) (hi1 : Id2 a1) (x2 : Int32) (μ : Mem) {r : Int32} {ν : Mem} (h : X7_endHour a1 x2 μ = some (r, ν)) : Ct Lx g l yX7_endHour cX7_endHour 4 (some .boolean) { frames := 4, cells := 0, slots := 0, locals := 102 } [.ref (g.2.2.1 + 1), .ref (g.2.2.1 + a1), .int x2] μ (some (.int r)) ν := by
  refine x_met (lv := [(0, .ref (g.2.2.1 + 1)), (1, .ref (g.2.2.1 + a1)), (2, .int x2)]) rfl (Nat.le_of_ble_eq_true rfl) rfl ?_
  intro p e s m below meth c C0 hP ls hl
  generalize ([.ref (g.2.2.1 + 1), .ref (g.2.2.1 + a1), .int x2] : List Value).toArray = args at C0 ⊢
  have C0 : Cx Lx g p s m args meth c cX7_endHour 4 (some .boolean) RX7 := C0
  have hS : va_S (Ax Lx g) s.heap s.heap [] := va_S.rf
  obtain ⟨hx, hb, hr, hml, hown, hts, hlocks, hK⟩ := id C0
  unfold X7_endHour at h
  skip
  refine lv_iload_n hx hb dX7_endHour_0 rfl (lv_at hl 2 rfl) ?_
  refine lv_bipush (v := (24 : Int32)) hx hb dX7_endHour_1 (by decide +kernel) ?_
  refine lv_irem hx hb dX7_endHour_3 (by decide) ?_
  refine lv_if_ne (tgt := 13) hx hb dX7_endHour_4 (by decide) (fun c1 => ?_) (fun c1 => ?_)
  · rw [if_neg c1] at h
    exact w_X7_endHour_13 C0  a1 hi1 x2 μ _ _ _ hP hS (lv_sub hl [0, 1, 2] rfl) h
  · rw [if_pos c1] at h
    refine lv_aload_n hx hb dX7_endHour_7 rfl (lv_at hl 0 rfl) ?_
    refine lv_aload_n hx hb dX7_endHour_8 rfl (lv_at hl 1 rfl) ?_
    refine lv_iload_n hx hb dX7_endHour_9 rfl (lv_at hl 2 rfl) ?_
    obtain ⟨μ15, h1, h⟩ := ob_some h
    refine x_callV C0 (rest := []) (q := (RX7, TX7, 9)) (c_X7_beginDay l g a1 hi1 x2 μ h1) q3_162 q3_159 q3_161 r1_12 q1_2 hd_X7_beginDay ⟨rfl, rfl⟩ ⟨Nat.le_of_ble_eq_true rfl, Nat.le_of_ble_eq_true rfl⟩ cx_1 (by decide) rfl hP hS hl.1 rfl rfl (Nat.le_of_ble_eq_true rfl) dX7_endHour_10 (fun H locs hP hS => ?_)
    refine W.eq (g2 := F0 m 13 ls []) rfl ?_
    exact w_X7_endHour_13 C0  a1 hi1 x2 μ15 _ _ _ hP hS (lv_sub hl [0, 1, 2] rfl) h
def X7_endHourForAll_32 (K4 : Int32 → Int32 → Mem → Option (Int32 × Mem)) (x1 : Int32) (x2 : Int32) (μ : Mem) : Option (Int32 × Mem) :=
  K4 x1 (x2 + (1 : Int32)) μ
set_option maxRecDepth 100000 in
set_option maxHeartbeats 4000000 in
theorem w_X7_endHourForAll_32 {g : Gx} {p : Program} {l : Launch} {e : Env} {s : State} {m : MethodId} {args : Array Value} {below : List Frame} {meth : Method} {c : Code} (C0 : Cx Lx g p s m args meth c cX7_endHourForAll 3 (some .int) RX7) {r : Int32} {ν : Mem} (K4 : Int32 → Int32 → Mem → Option (Int32 × Mem)) (hK4 : ∀ (x1 : Int32) (x2 : Int32) (μ : Mem) (H : Heap) (locs : List Loc) (ls : Array Slot), Px Lx g μ H → va_S (Ax Lx g) s.heap H locs → lv_has ls 3 [(0, .ref (g.2.2.1 + 1)), (1, .int x1), (2, .int x2)] → K4 x1 x2 μ = some (r, ν) → W p l e { frames := 5, cells := 0, slots := 0, locals := 125 } s m args below meth c H locs 0 0 (MQ below (Qx Lx g (some (.int r)) ν) args s 0 0 (Ax Lx g)) (F0 m 4 ls [])) (x1 : Int32) (x2 : Int32) (μ : Mem) (H : Heap) (locs : List Loc) (ls : Array Slot) (hP : Px Lx g μ H) (hS : va_S (Ax Lx g) s.heap H locs) (hl : lv_has ls 3 [(0, .ref (g.2.2.1 + 1)), (1, .int x1), (2, .int x2)]) (h : X7_endHourForAll_32 K4 x1 x2 μ = some (r, ν)) : W p l e { frames := 5, cells := 0, slots := 0, locals := 125 } s m args below meth c H locs 0 0 (MQ below (Qx Lx g (some (.int r)) ν) args s 0 0 (Ax Lx g)) (F0 m 32 ls []) := by
  obtain ⟨hx, hb, hr, hml, hown, hts, hlocks, hK⟩ := id C0
  unfold X7_endHourForAll_32 at h
  refine lv_iinc (v := (x2 + (1 : Int32))) (lv' := [(2, .int (x2 + (1 : Int32))), (0, .ref (g.2.2.1 + 1)), (1, .int x1)]) hx hb dX7_endHourForAll_32 hl (k := 2) rfl rfl (by decide) rfl (fun ls hl => ?_)
  refine lv_goto (tgt := 4) hx hb dX7_endHourForAll_35 (by decide) ?_
  exact hK4 x1 (x2 + (1 : Int32)) μ _ _ _ hP hS (lv_sub hl [1, 2, 0] rfl) h
def X7_endHourForAll_4  : Nat → Int32 → Int32 → Mem → Option (Int32 × Mem)
  | 0, _, _, _ => none
  | n + 1, x1, x2, μ => (if (μ 1 6) ≤ x2 then lt (st μ 1 8 ((μ 1 8) + (1 : Int32))) fun μ2 => some (x1, μ2) else gd (inB x2 8) (ob2 (X7_endHour (24 + 2 * x2.toNatClampNeg) (μ 1 8) μ) fun r4 μ4 => (if r4 = (0 : Int32) then X7_endHourForAll_32 (X7_endHourForAll_4 n) x1 x2 μ4 else X7_endHourForAll_32 (X7_endHourForAll_4 n) (x1 + (1 : Int32)) x2 μ4)))
set_option maxRecDepth 100000 in
set_option maxHeartbeats 4000000 in
theorem w_X7_endHourForAll_4 {g : Gx} {p : Program} {l : Launch} {e : Env} {s : State} {m : MethodId} {args : Array Value} {below : List Frame} {meth : Method} {c : Code} (C0 : Cx Lx g p s m args meth c cX7_endHourForAll 3 (some .int) RX7) {r : Int32} {ν : Mem}  (n : Nat) : ∀ (x1 : Int32) (x2 : Int32) (μ : Mem) (H : Heap) (locs : List Loc) (ls : Array Slot), Px Lx g μ H → va_S (Ax Lx g) s.heap H locs → lv_has ls 3 [(0, .ref (g.2.2.1 + 1)), (1, .int x1), (2, .int x2)] → X7_endHourForAll_4  n x1 x2 μ = some (r, ν) → W p l e { frames := 5, cells := 0, slots := 0, locals := 125 } s m args below meth c H locs 0 0 (MQ below (Qx Lx g (some (.int r)) ν) args s 0 0 (Ax Lx g)) (F0 m 4 ls []) := by
  obtain ⟨hx, hb, hr, hml, hown, hts, hlocks, hK⟩ := id C0
  induction n with
  | zero =>
    intro x1 x2 μ H locs ls hP hS hl h
    have h : (none : Option (Int32 × Mem)) = some (r, ν) := h
    cases h
  | succ n ih =>
    intro x1 x2 μ H locs ls hP hS hl h
    rw [X7_endHourForAll_4.eq_2] at h
    refine lv_iload_n hx hb dX7_endHourForAll_4 rfl (lv_at hl 2 rfl) ?_
    refine lv_aload_n hx hb dX7_endHourForAll_5 rfl (lv_at hl 0 rfl) ?_
    refine x_get C0 hP inu7 (k := 1) cx_1 (by decide) rfl 6 (by decide) q1_232 rfl (v := .int (μ 1 6)) rfl dX7_endHourForAll_6 ?_
    refine lv_icmp_ge (tgt := 38) hx hb dX7_endHourForAll_9 (by decide) (fun c1 => ?_) (fun c1 => ?_)
    · rw [if_pos c1] at h
      refine lv_aload_n hx hb dX7_endHourForAll_38 rfl (lv_at hl 0 rfl) ?_
      refine lv_dup hx hb dX7_endHourForAll_39 rfl ?_
      refine x_get C0 hP inu7 (k := 1) cx_1 (by decide) rfl 8 (by decide) q1_236 rfl (v := .int (μ 1 8)) rfl dX7_endHourForAll_40 ?_
      refine lv_iconst (v := (1 : Int32)) hx hb dX7_endHourForAll_43 rfl ?_
      refine lv_iadd hx hb dX7_endHourForAll_44 ?_
      obtain ⟨μ2, e2, h⟩ := lt_some h
      refine x_put C0 hP hS inu7 tyX7 tyX7_ok nmX7 (k := 1) cx_1 (by decide) rfl 8 (by decide) q1_236 rfl rfl (v := .int ((μ 1 8) + (1 : Int32))) (x := ((μ 1 8) + (1 : Int32))) rfl rfl (Nat.le_of_ble_eq_true rfl) (os_7_8 _ _ _ _) dX7_endHourForAll_45 (fun H locs hP hS => ?_)
      rw [← e2] at hP
      refine lv_iload_n hx hb dX7_endHourForAll_48 rfl (lv_at hl 1 rfl) ?_
      obtain ⟨rfl, rfl⟩ := some2 h
      exact x_iret C0 hP hS dX7_endHourForAll_49
    · rw [if_neg c1] at h
      refine lv_aload_n hx hb dX7_endHourForAll_12 rfl (lv_at hl 0 rfl) ?_
      refine lv_aload_n hx hb dX7_endHourForAll_13 rfl (lv_at hl 0 rfl) ?_
      refine x_get C0 hP inu7 (k := 1) cx_1 (by decide) rfl 0 (by decide) q1_220 rfl (v := .ref (g.2.2.1 + 2)) rfl dX7_endHourForAll_14 ?_
      refine lv_iload_n hx hb dX7_endHourForAll_17 rfl (lv_at hl 2 rfl) ?_
      obtain ⟨z3, h⟩ := gd_some h
      refine x_maald C0 hP (k := 2) cx_2 (j := x2.toNatClampNeg) z3 rfl dX7_endHourForAll_18 ?_
      refine W.eq (g2 := F0 m 19 ls [.ref (g.2.2.1 + (24 + 2 * x2.toNatClampNeg)), .ref (g.2.2.1 + 1)]) rfl ?_
      refine lv_aload_n hx hb dX7_endHourForAll_19 rfl (lv_at hl 0 rfl) ?_
      refine x_get C0 hP inu7 (k := 1) cx_1 (by decide) rfl 8 (by decide) q1_236 rfl (v := .int (μ 1 8)) rfl dX7_endHourForAll_20 ?_
      obtain ⟨r4, μ4, h1, h⟩ := ob2_some h
      refine x_callV C0 (rest := []) (q := (RX7, TX7, 9)) (c_X7_endHour l g (24 + 2 * x2.toNatClampNeg) (met_i z3) (μ 1 8) μ h1) q3_158 q3_155 q3_156 q3_157 q1_2 hd_X7_endHour ⟨rfl, rfl⟩ ⟨Nat.le_of_ble_eq_true rfl, Nat.le_of_ble_eq_true rfl⟩ cx_1 (by decide) rfl hP hS hl.1 rfl rfl (Nat.le_of_ble_eq_true rfl) dX7_endHourForAll_23 (fun H locs hP hS => ?_)
      refine W.eq (g2 := F0 m 26 ls [.int r4]) rfl ?_
      refine lv_if_eq (tgt := 32) hx hb dX7_endHourForAll_26 (by decide) (fun c5 => ?_) (fun c5 => ?_)
      · rw [if_pos c5] at h
        exact w_X7_endHourForAll_32 C0 (X7_endHourForAll_4  n) ih x1 x2 μ4 _ _ _ hP hS (lv_sub hl [0, 1, 2] rfl) h
      · rw [if_neg c5] at h
        refine lv_iinc (v := (x1 + (1 : Int32))) (lv' := [(1, .int (x1 + (1 : Int32))), (0, .ref (g.2.2.1 + 1)), (2, .int x2)]) hx hb dX7_endHourForAll_29 hl (k := 1) rfl rfl (by decide) rfl (fun ls hl => ?_)
        exact w_X7_endHourForAll_32 C0 (X7_endHourForAll_4  n) ih (x1 + (1 : Int32)) x2 μ4 _ _ _ hP hS (lv_sub hl [1, 0, 2] rfl) h
def X7_endHourForAll  (μ : Mem) : Option (Int32 × Mem) :=
  X7_endHourForAll_4 FU (0 : Int32) (0 : Int32) μ
set_option maxRecDepth 100000 in
set_option maxHeartbeats 4000000 in
theorem c_X7_endHourForAll (l : Launch) (g : Gx)  (μ : Mem) {r : Int32} {ν : Mem} (h : X7_endHourForAll  μ = some (r, ν)) : Ct Lx g l yX7_endHourForAll cX7_endHourForAll 3 (some .int) { frames := 5, cells := 0, slots := 0, locals := 125 } [.ref (g.2.2.1 + 1)] μ (some (.int r)) ν := by
  refine x_met (lv := [(0, .ref (g.2.2.1 + 1))]) rfl (Nat.le_of_ble_eq_true rfl) rfl ?_
  intro p e s m below meth c C0 hP ls hl
  generalize ([.ref (g.2.2.1 + 1)] : List Value).toArray = args at C0 ⊢
  have C0 : Cx Lx g p s m args meth c cX7_endHourForAll 3 (some .int) RX7 := C0
  have hS : va_S (Ax Lx g) s.heap s.heap [] := va_S.rf
  obtain ⟨hx, hb, hr, hml, hown, hts, hlocks, hK⟩ := id C0
  unfold X7_endHourForAll at h
  skip
  refine lv_iconst (v := (0 : Int32)) hx hb dX7_endHourForAll_0 rfl ?_
  refine lv_istore_n (lv' := [(1, .int (0 : Int32)), (0, .ref (g.2.2.1 + 1))]) hx hb dX7_endHourForAll_1 rfl hl (by decide) rfl (fun ls hl => ?_)
  refine lv_iconst (v := (0 : Int32)) hx hb dX7_endHourForAll_2 rfl ?_
  refine lv_istore_n (lv' := [(2, .int (0 : Int32)), (1, .int (0 : Int32)), (0, .ref (g.2.2.1 + 1))]) hx hb dX7_endHourForAll_3 rfl hl (by decide) rfl (fun ls hl => ?_)
  exact w_X7_endHourForAll_4 C0  FU (0 : Int32) (0 : Int32) μ _ _ _ hP hS (lv_sub hl [2, 1, 0] rfl) h
def X7_countCut_30 (K4 : Int32 → Int32 → Mem → Option (Int32 × Mem)) (x2 : Int32) (t0 : Int32) (t1 : Int32) (μ : Mem) : Option (Int32 × Mem) :=
  K4 (t0 + t1) (x2 + (1 : Int32)) μ
set_option maxRecDepth 100000 in
set_option maxHeartbeats 4000000 in
theorem w_X7_countCut_30 {g : Gx} {p : Program} {l : Launch} {e : Env} {s : State} {m : MethodId} {args : Array Value} {below : List Frame} {meth : Method} {c : Code} (C0 : Cx Lx g p s m args meth c cX7_countCut 3 (some .int) RX7) {r : Int32} {ν : Mem} (K4 : Int32 → Int32 → Mem → Option (Int32 × Mem)) (hK4 : ∀ (x1 : Int32) (x2 : Int32) (μ : Mem) (H : Heap) (locs : List Loc) (ls : Array Slot), Px Lx g μ H → va_S (Ax Lx g) s.heap H locs → lv_has ls 3 [(0, .ref (g.2.2.1 + 1)), (1, .int x1), (2, .int x2)] → K4 x1 x2 μ = some (r, ν) → W p l e { frames := 0, cells := 0, slots := 0, locals := 0 } s m args below meth c H locs 0 0 (MQ below (Qx Lx g (some (.int r)) ν) args s 0 0 (Ax Lx g)) (F0 m 4 ls [])) (x2 : Int32) (t0 : Int32) (t1 : Int32) (μ : Mem) (H : Heap) (locs : List Loc) (ls : Array Slot) (hP : Px Lx g μ H) (hS : va_S (Ax Lx g) s.heap H locs) (hl : lv_has ls 3 [(0, .ref (g.2.2.1 + 1)), (2, .int x2)]) (h : X7_countCut_30 K4 x2 t0 t1 μ = some (r, ν)) : W p l e { frames := 0, cells := 0, slots := 0, locals := 0 } s m args below meth c H locs 0 0 (MQ below (Qx Lx g (some (.int r)) ν) args s 0 0 (Ax Lx g)) (F0 m 30 ls [.int t1, .int t0]) := by
  obtain ⟨hx, hb, hr, hml, hown, hts, hlocks, hK⟩ := id C0
  unfold X7_countCut_30 at h
  refine lv_iadd hx hb dX7_countCut_30 ?_
  refine lv_istore_n (lv' := [(1, .int (t0 + t1)), (0, .ref (g.2.2.1 + 1)), (2, .int x2)]) hx hb dX7_countCut_31 rfl hl (by decide) rfl (fun ls hl => ?_)
  refine lv_iinc (v := (x2 + (1 : Int32))) (lv' := [(2, .int (x2 + (1 : Int32))), (1, .int (t0 + t1)), (0, .ref (g.2.2.1 + 1))]) hx hb dX7_countCut_32 hl (k := 2) rfl rfl (by decide) rfl (fun ls hl => ?_)
  refine lv_goto (tgt := 4) hx hb dX7_countCut_35 (by decide) ?_
  exact hK4 (t0 + t1) (x2 + (1 : Int32)) μ _ _ _ hP hS (lv_sub hl [2, 1, 0] rfl) h
def X7_countCut_4  : Nat → Int32 → Int32 → Mem → Option (Int32 × Mem)
  | 0, _, _, _ => none
  | n + 1, x1, x2, μ => (if (μ 1 6) ≤ x2 then some (x1, μ) else gd (inB x2 8) ((if (μ (24 + 2 * x2.toNatClampNeg) 8) = (0 : Int32) then X7_countCut_30 (X7_countCut_4 n) x2 x1 (1 : Int32) μ else X7_countCut_30 (X7_countCut_4 n) x2 x1 (0 : Int32) μ)))
set_option maxRecDepth 100000 in
set_option maxHeartbeats 4000000 in
theorem w_X7_countCut_4 {g : Gx} {p : Program} {l : Launch} {e : Env} {s : State} {m : MethodId} {args : Array Value} {below : List Frame} {meth : Method} {c : Code} (C0 : Cx Lx g p s m args meth c cX7_countCut 3 (some .int) RX7) {r : Int32} {ν : Mem}  (n : Nat) : ∀ (x1 : Int32) (x2 : Int32) (μ : Mem) (H : Heap) (locs : List Loc) (ls : Array Slot), Px Lx g μ H → va_S (Ax Lx g) s.heap H locs → lv_has ls 3 [(0, .ref (g.2.2.1 + 1)), (1, .int x1), (2, .int x2)] → X7_countCut_4  n x1 x2 μ = some (r, ν) → W p l e { frames := 0, cells := 0, slots := 0, locals := 0 } s m args below meth c H locs 0 0 (MQ below (Qx Lx g (some (.int r)) ν) args s 0 0 (Ax Lx g)) (F0 m 4 ls []) := by
  obtain ⟨hx, hb, hr, hml, hown, hts, hlocks, hK⟩ := id C0
  induction n with
  | zero =>
    intro x1 x2 μ H locs ls hP hS hl h
    have h : (none : Option (Int32 × Mem)) = some (r, ν) := h
    cases h
  | succ n ih =>
    intro x1 x2 μ H locs ls hP hS hl h
    rw [X7_countCut_4.eq_2] at h
    refine lv_iload_n hx hb dX7_countCut_4 rfl (lv_at hl 2 rfl) ?_
    refine lv_aload_n hx hb dX7_countCut_5 rfl (lv_at hl 0 rfl) ?_
    refine x_get C0 hP inu7 (k := 1) cx_1 (by decide) rfl 6 (by decide) q1_232 rfl (v := .int (μ 1 6)) rfl dX7_countCut_6 ?_
    refine lv_icmp_ge (tgt := 38) hx hb dX7_countCut_9 (by decide) (fun c1 => ?_) (fun c1 => ?_)
    · rw [if_pos c1] at h
      refine lv_iload_n hx hb dX7_countCut_38 rfl (lv_at hl 1 rfl) ?_
      obtain ⟨rfl, rfl⟩ := some2 h
      exact x_iret C0 hP hS dX7_countCut_39
    · rw [if_neg c1] at h
      refine lv_iload_n hx hb dX7_countCut_12 rfl (lv_at hl 1 rfl) ?_
      refine lv_aload_n hx hb dX7_countCut_13 rfl (lv_at hl 0 rfl) ?_
      refine x_get C0 hP inu7 (k := 1) cx_1 (by decide) rfl 0 (by decide) q1_220 rfl (v := .ref (g.2.2.1 + 2)) rfl dX7_countCut_14 ?_
      refine lv_iload_n hx hb dX7_countCut_17 rfl (lv_at hl 2 rfl) ?_
      obtain ⟨z2, h⟩ := gd_some h
      refine x_maald C0 hP (k := 2) cx_2 (j := x2.toNatClampNeg) z2 rfl dX7_countCut_18 ?_
      refine W.eq (g2 := F0 m 19 ls [.ref (g.2.2.1 + (24 + 2 * x2.toNatClampNeg)), .int x1]) rfl ?_
      refine x_get C0 hP inu2 (k := (24 + 2 * x2.toNatClampNeg)) (id2_0 (met_i z2)) (by decide) rfl 8 (by decide) q1_169 rfl (v := .int (μ (24 + 2 * x2.toNatClampNeg) 8)) rfl dX7_countCut_19 ?_
      refine lv_if_eq (tgt := 29) hx hb dX7_countCut_22 (by decide) (fun c3 => ?_) (fun c3 => ?_)
      · rw [if_pos c3] at h
        refine lv_iconst (v := (1 : Int32)) hx hb dX7_countCut_29 rfl ?_
        exact w_X7_countCut_30 C0 (X7_countCut_4  n) ih x2 x1 (1 : Int32) μ _ _ _ hP hS (lv_sub hl [0, 2] rfl) h
      · rw [if_neg c3] at h
        refine lv_iconst (v := (0 : Int32)) hx hb dX7_countCut_25 rfl ?_
        refine lv_goto (tgt := 30) hx hb dX7_countCut_26 (by decide) ?_
        exact w_X7_countCut_30 C0 (X7_countCut_4  n) ih x2 x1 (0 : Int32) μ _ _ _ hP hS (lv_sub hl [0, 2] rfl) h
def X7_countCut  (μ : Mem) : Option (Int32 × Mem) :=
  X7_countCut_4 FU (0 : Int32) (0 : Int32) μ
set_option maxRecDepth 100000 in
set_option maxHeartbeats 4000000 in
theorem c_X7_countCut (l : Launch) (g : Gx)  (μ : Mem) {r : Int32} {ν : Mem} (h : X7_countCut  μ = some (r, ν)) : Ct Lx g l yX7_countCut cX7_countCut 3 (some .int) { frames := 0, cells := 0, slots := 0, locals := 0 } [.ref (g.2.2.1 + 1)] μ (some (.int r)) ν := by
  refine x_met (lv := [(0, .ref (g.2.2.1 + 1))]) rfl (Nat.le_of_ble_eq_true rfl) rfl ?_
  intro p e s m below meth c C0 hP ls hl
  generalize ([.ref (g.2.2.1 + 1)] : List Value).toArray = args at C0 ⊢
  have C0 : Cx Lx g p s m args meth c cX7_countCut 3 (some .int) RX7 := C0
  have hS : va_S (Ax Lx g) s.heap s.heap [] := va_S.rf
  obtain ⟨hx, hb, hr, hml, hown, hts, hlocks, hK⟩ := id C0
  unfold X7_countCut at h
  skip
  refine lv_iconst (v := (0 : Int32)) hx hb dX7_countCut_0 rfl ?_
  refine lv_istore_n (lv' := [(1, .int (0 : Int32)), (0, .ref (g.2.2.1 + 1))]) hx hb dX7_countCut_1 rfl hl (by decide) rfl (fun ls hl => ?_)
  refine lv_iconst (v := (0 : Int32)) hx hb dX7_countCut_2 rfl ?_
  refine lv_istore_n (lv' := [(2, .int (0 : Int32)), (1, .int (0 : Int32)), (0, .ref (g.2.2.1 + 1))]) hx hb dX7_countCut_3 rfl hl (by decide) rfl (fun ls hl => ?_)
  exact w_X7_countCut_4 C0  FU (0 : Int32) (0 : Int32) μ _ _ _ hP hS (lv_sub hl [2, 1, 0] rfl) h
def X7_allDebt_4  : Nat → Int32 → Int32 → Mem → Option (Int32 × Mem)
  | 0, _, _, _ => none
  | n + 1, x1, x2, μ => (if (μ 1 6) ≤ x2 then some (x1, μ) else gd (inB x2 8) ((X7_allDebt_4 n) (x1 + (μ (24 + 2 * x2.toNatClampNeg) 6)) (x2 + (1 : Int32)) μ))
set_option maxRecDepth 100000 in
set_option maxHeartbeats 4000000 in
theorem w_X7_allDebt_4 {g : Gx} {p : Program} {l : Launch} {e : Env} {s : State} {m : MethodId} {args : Array Value} {below : List Frame} {meth : Method} {c : Code} (C0 : Cx Lx g p s m args meth c cX7_allDebt 3 (some .int) RX7) {r : Int32} {ν : Mem}  (n : Nat) : ∀ (x1 : Int32) (x2 : Int32) (μ : Mem) (H : Heap) (locs : List Loc) (ls : Array Slot), Px Lx g μ H → va_S (Ax Lx g) s.heap H locs → lv_has ls 3 [(0, .ref (g.2.2.1 + 1)), (1, .int x1), (2, .int x2)] → X7_allDebt_4  n x1 x2 μ = some (r, ν) → W p l e { frames := 0, cells := 0, slots := 0, locals := 0 } s m args below meth c H locs 0 0 (MQ below (Qx Lx g (some (.int r)) ν) args s 0 0 (Ax Lx g)) (F0 m 4 ls []) := by
  obtain ⟨hx, hb, hr, hml, hown, hts, hlocks, hK⟩ := id C0
  induction n with
  | zero =>
    intro x1 x2 μ H locs ls hP hS hl h
    have h : (none : Option (Int32 × Mem)) = some (r, ν) := h
    cases h
  | succ n ih =>
    intro x1 x2 μ H locs ls hP hS hl h
    rw [X7_allDebt_4.eq_2] at h
    refine lv_iload_n hx hb dX7_allDebt_4 rfl (lv_at hl 2 rfl) ?_
    refine lv_aload_n hx hb dX7_allDebt_5 rfl (lv_at hl 0 rfl) ?_
    refine x_get C0 hP inu7 (k := 1) cx_1 (by decide) rfl 6 (by decide) q1_232 rfl (v := .int (μ 1 6)) rfl dX7_allDebt_6 ?_
    refine lv_icmp_ge (tgt := 30) hx hb dX7_allDebt_9 (by decide) (fun c1 => ?_) (fun c1 => ?_)
    · rw [if_pos c1] at h
      refine lv_iload_n hx hb dX7_allDebt_30 rfl (lv_at hl 1 rfl) ?_
      obtain ⟨rfl, rfl⟩ := some2 h
      exact x_iret C0 hP hS dX7_allDebt_31
    · rw [if_neg c1] at h
      refine lv_iload_n hx hb dX7_allDebt_12 rfl (lv_at hl 1 rfl) ?_
      refine lv_aload_n hx hb dX7_allDebt_13 rfl (lv_at hl 0 rfl) ?_
      refine x_get C0 hP inu7 (k := 1) cx_1 (by decide) rfl 0 (by decide) q1_220 rfl (v := .ref (g.2.2.1 + 2)) rfl dX7_allDebt_14 ?_
      refine lv_iload_n hx hb dX7_allDebt_17 rfl (lv_at hl 2 rfl) ?_
      obtain ⟨z2, h⟩ := gd_some h
      refine x_maald C0 hP (k := 2) cx_2 (j := x2.toNatClampNeg) z2 rfl dX7_allDebt_18 ?_
      refine W.eq (g2 := F0 m 19 ls [.ref (g.2.2.1 + (24 + 2 * x2.toNatClampNeg)), .int x1]) rfl ?_
      refine x_get C0 hP inu2 (k := (24 + 2 * x2.toNatClampNeg)) (id2_0 (met_i z2)) (by decide) rfl 6 (by decide) q1_161 rfl (v := .int (μ (24 + 2 * x2.toNatClampNeg) 6)) rfl dX7_allDebt_19 ?_
      refine lv_iadd hx hb dX7_allDebt_22 ?_
      refine lv_istore_n (lv' := [(1, .int (x1 + (μ (24 + 2 * x2.toNatClampNeg) 6))), (0, .ref (g.2.2.1 + 1)), (2, .int x2)]) hx hb dX7_allDebt_23 rfl hl (by decide) rfl (fun ls hl => ?_)
      refine lv_iinc (v := (x2 + (1 : Int32))) (lv' := [(2, .int (x2 + (1 : Int32))), (1, .int (x1 + (μ (24 + 2 * x2.toNatClampNeg) 6))), (0, .ref (g.2.2.1 + 1))]) hx hb dX7_allDebt_24 hl (k := 2) rfl rfl (by decide) rfl (fun ls hl => ?_)
      refine lv_goto (tgt := 4) hx hb dX7_allDebt_27 (by decide) ?_
      exact ih (x1 + (μ (24 + 2 * x2.toNatClampNeg) 6)) (x2 + (1 : Int32)) μ _ _ _ hP hS (lv_sub hl [2, 1, 0] rfl) h
def X7_allDebt  (μ : Mem) : Option (Int32 × Mem) :=
  X7_allDebt_4 FU (0 : Int32) (0 : Int32) μ
set_option maxRecDepth 100000 in
set_option maxHeartbeats 4000000 in
theorem c_X7_allDebt (l : Launch) (g : Gx)  (μ : Mem) {r : Int32} {ν : Mem} (h : X7_allDebt  μ = some (r, ν)) : Ct Lx g l yX7_allDebt cX7_allDebt 3 (some .int) { frames := 0, cells := 0, slots := 0, locals := 0 } [.ref (g.2.2.1 + 1)] μ (some (.int r)) ν := by
  refine x_met (lv := [(0, .ref (g.2.2.1 + 1))]) rfl (Nat.le_of_ble_eq_true rfl) rfl ?_
  intro p e s m below meth c C0 hP ls hl
  generalize ([.ref (g.2.2.1 + 1)] : List Value).toArray = args at C0 ⊢
  have C0 : Cx Lx g p s m args meth c cX7_allDebt 3 (some .int) RX7 := C0
  have hS : va_S (Ax Lx g) s.heap s.heap [] := va_S.rf
  obtain ⟨hx, hb, hr, hml, hown, hts, hlocks, hK⟩ := id C0
  unfold X7_allDebt at h
  skip
  refine lv_iconst (v := (0 : Int32)) hx hb dX7_allDebt_0 rfl ?_
  refine lv_istore_n (lv' := [(1, .int (0 : Int32)), (0, .ref (g.2.2.1 + 1))]) hx hb dX7_allDebt_1 rfl hl (by decide) rfl (fun ls hl => ?_)
  refine lv_iconst (v := (0 : Int32)) hx hb dX7_allDebt_2 rfl ?_
  refine lv_istore_n (lv' := [(2, .int (0 : Int32)), (1, .int (0 : Int32)), (0, .ref (g.2.2.1 + 1))]) hx hb dX7_allDebt_3 rfl hl (by decide) rfl (fun ls hl => ?_)
  exact w_X7_allDebt_4 C0  FU (0 : Int32) (0 : Int32) μ _ _ _ hP hS (lv_sub hl [2, 1, 0] rfl) h
def X7_copyFrom_2  : Nat → Nat → Nat → Int32 → Mem → Option Mem
  | 0, _, _, _, _ => none
  | n + 1, a0, a1, x2, μ => (if (μ a1 6) ≤ x2 then ob (X5_copyFrom (a0 + 2) (a1 + 2) μ) fun μ2 => ob (X1_copyFrom (a0 + 7) (a1 + 7) μ2) fun μ3 => ob (X3_copyFrom (a0 + 13) (a1 + 13) μ3) fun μ4 => ob (X6_copyFrom (a0 + 18) (a1 + 18) μ4) fun μ5 => lt (str μ5 (a0 + 22) (va_cpy (μ5 (a1 + 22)) (μ5 (a0 + 22)) 0 0 60)) fun μ6 => lt (st μ6 a0 6 (μ6 a1 6)) fun μ7 => lt (st μ7 a0 7 (μ7 a1 7)) fun μ8 => lt (st μ8 a0 8 (μ8 a1 8)) fun μ9 => some μ9 else gd (inB x2 8) (gd (inB x2 8) (ob (X2_copyFrom ((a0 + 1) + 22 + 2 * x2.toNatClampNeg) ((a1 + 1) + 22 + 2 * x2.toNatClampNeg) μ) fun μ12 => (X7_copyFrom_2 n) a0 a1 (x2 + (1 : Int32)) μ12)))
set_option maxRecDepth 100000 in
set_option maxHeartbeats 4000000 in
theorem w_X7_copyFrom_2 {g : Gx} {p : Program} {l : Launch} {e : Env} {s : State} {m : MethodId} {args : Array Value} {below : List Frame} {meth : Method} {c : Code} (C0 : Cx Lx g p s m args meth c cX7_copyFrom 3 none RX7) {ν : Mem}  (n : Nat) : ∀ (a0 : Nat) (ha0 : Id7 a0) (a1 : Nat) (ha1 : Id7 a1) (x2 : Int32) (μ : Mem) (H : Heap) (locs : List Loc) (ls : Array Slot), Px Lx g μ H → va_S (Ax Lx g) s.heap H locs → lv_has ls 3 [(0, .ref (g.2.2.1 + a0)), (1, .ref (g.2.2.1 + a1)), (2, .int x2)] → X7_copyFrom_2  n a0 a1 x2 μ = some ν → W p l e { frames := 2, cells := 0, slots := 0, locals := 39 } s m args below meth c H locs 0 0 (MQ below (Qx Lx g none ν) args s 0 0 (Ax Lx g)) (F0 m 2 ls []) := by
  obtain ⟨hx, hb, hr, hml, hown, hts, hlocks, hK⟩ := id C0
  induction n with
  | zero =>
    intro a0 ha0 a1 ha1 x2 μ H locs ls hP hS hl h
    have h : (none : Option Mem) = some ν := h
    cases h
  | succ n ih =>
    intro a0 ha0 a1 ha1 x2 μ H locs ls hP hS hl h
    rw [X7_copyFrom_2.eq_2] at h
    refine lv_iload_n hx hb dX7_copyFrom_2 rfl (lv_at hl 2 rfl) ?_
    refine lv_aload_n hx hb dX7_copyFrom_3 rfl (lv_at hl 1 rfl) ?_
    refine x_get C0 hP inu7 (k := a1) (id7_0 ha1) (by decide) rfl 6 (by decide) q1_232 rfl (v := .int (μ a1 6)) rfl dX7_copyFrom_4 ?_
    refine lv_icmp_ge (tgt := 31) hx hb dX7_copyFrom_7 (by decide) (fun c1 => ?_) (fun c1 => ?_)
    · rw [if_pos c1] at h
      refine lv_aload_n hx hb dX7_copyFrom_31 rfl (lv_at hl 0 rfl) ?_
      refine x_get C0 hP inu7 (k := a0) (id7_0 ha0) (by decide) rfl 1 (by decide) q1_222 rfl (v := .ref (g.2.2.1 + (a0 + 2))) rfl dX7_copyFrom_32 ?_
      refine lv_aload_n hx hb dX7_copyFrom_35 rfl (lv_at hl 1 rfl) ?_
      refine x_get C0 hP inu7 (k := a1) (id7_0 ha1) (by decide) rfl 1 (by decide) q1_222 rfl (v := .ref (g.2.2.1 + (a1 + 2))) rfl dX7_copyFrom_36 ?_
      obtain ⟨μ2, h1, h⟩ := ob_some h
      refine x_callV C0 (rest := []) (q := (RX5, TX5, 5)) (c_X5_copyFrom l g (a0 + 2) (id7_2 ha0) (a1 + 2) (id7_2 ha1) μ h1) q4_91 q4_88 q4_89 q4_90 q1_3 hd_X5_copyFrom ⟨rfl, rfl⟩ ⟨Nat.le_of_ble_eq_true rfl, Nat.le_of_ble_eq_true rfl⟩ (id5_0 (id7_2 ha0)) (by decide) rfl hP hS hl.1 rfl rfl (Nat.le_of_ble_eq_true rfl) dX7_copyFrom_39 (fun H locs hP hS => ?_)
      refine W.eq (g2 := F0 m 42 ls []) rfl ?_
      refine lv_aload_n hx hb dX7_copyFrom_42 rfl (lv_at hl 0 rfl) ?_
      refine x_get C0 hP inu7 (k := a0) (id7_0 ha0) (by decide) rfl 2 (by decide) q1_224 rfl (v := .ref (g.2.2.1 + (a0 + 7))) rfl dX7_copyFrom_43 ?_
      refine lv_aload_n hx hb dX7_copyFrom_46 rfl (lv_at hl 1 rfl) ?_
      refine x_get C0 hP inu7 (k := a1) (id7_0 ha1) (by decide) rfl 2 (by decide) q1_224 rfl (v := .ref (g.2.2.1 + (a1 + 7))) rfl dX7_copyFrom_47 ?_
      obtain ⟨μ3, h1, h⟩ := ob_some h
      refine x_callV C0 (rest := []) (q := (RX1, TX1, 6)) (c_X1_copyFrom l g (a0 + 7) (id7_7 ha0) (a1 + 7) (id7_7 ha1) μ2 h1) q4_96 q4_93 q4_94 q4_95 q1_4 hd_X1_copyFrom ⟨rfl, rfl⟩ ⟨Nat.le_of_ble_eq_true rfl, Nat.le_of_ble_eq_true rfl⟩ (id1_0 (id7_7 ha0)) (by decide) rfl hP hS hl.1 rfl rfl (Nat.le_of_ble_eq_true rfl) dX7_copyFrom_50 (fun H locs hP hS => ?_)
      refine W.eq (g2 := F0 m 53 ls []) rfl ?_
      refine lv_aload_n hx hb dX7_copyFrom_53 rfl (lv_at hl 0 rfl) ?_
      refine x_get C0 hP inu7 (k := a0) (id7_0 ha0) (by decide) rfl 3 (by decide) q1_226 rfl (v := .ref (g.2.2.1 + (a0 + 13))) rfl dX7_copyFrom_54 ?_
      refine lv_aload_n hx hb dX7_copyFrom_57 rfl (lv_at hl 1 rfl) ?_
      refine x_get C0 hP inu7 (k := a1) (id7_0 ha1) (by decide) rfl 3 (by decide) q1_226 rfl (v := .ref (g.2.2.1 + (a1 + 13))) rfl dX7_copyFrom_58 ?_
      obtain ⟨μ4, h1, h⟩ := ob_some h
      refine x_callV C0 (rest := []) (q := (RX3, TX3, 5)) (c_X3_copyFrom l g (a0 + 13) (id7_13 ha0) (a1 + 13) (id7_13 ha1) μ3 h1) q4_100 q4_97 q4_98 q4_99 q1_5 hd_X3_copyFrom ⟨rfl, rfl⟩ ⟨Nat.le_of_ble_eq_true rfl, Nat.le_of_ble_eq_true rfl⟩ (id3_0 (id7_13 ha0)) (by decide) rfl hP hS hl.1 rfl rfl (Nat.le_of_ble_eq_true rfl) dX7_copyFrom_61 (fun H locs hP hS => ?_)
      refine W.eq (g2 := F0 m 64 ls []) rfl ?_
      refine lv_aload_n hx hb dX7_copyFrom_64 rfl (lv_at hl 0 rfl) ?_
      refine x_get C0 hP inu7 (k := a0) (id7_0 ha0) (by decide) rfl 4 (by decide) q1_228 rfl (v := .ref (g.2.2.1 + (a0 + 18))) rfl dX7_copyFrom_65 ?_
      refine lv_aload_n hx hb dX7_copyFrom_68 rfl (lv_at hl 1 rfl) ?_
      refine x_get C0 hP inu7 (k := a1) (id7_0 ha1) (by decide) rfl 4 (by decide) q1_228 rfl (v := .ref (g.2.2.1 + (a1 + 18))) rfl dX7_copyFrom_69 ?_
      obtain ⟨μ5, h1, h⟩ := ob_some h
      refine x_callV C0 (rest := []) (q := (RX6, TX6, 6)) (c_X6_copyFrom l g (a0 + 18) (id7_18 ha0) (a1 + 18) (id7_18 ha1) μ4 h1) q4_105 q4_102 q4_103 q4_104 q1_6 hd_X6_copyFrom ⟨rfl, rfl⟩ ⟨Nat.le_of_ble_eq_true rfl, Nat.le_of_ble_eq_true rfl⟩ (id6_0 (id7_18 ha0)) (by decide) rfl hP hS hl.1 rfl rfl (Nat.le_of_ble_eq_true rfl) dX7_copyFrom_72 (fun H locs hP hS => ?_)
      refine W.eq (g2 := F0 m 75 ls []) rfl ?_
      refine lv_aload_n hx hb dX7_copyFrom_75 rfl (lv_at hl 1 rfl) ?_
      refine x_get C0 hP inu7 (k := a1) (id7_0 ha1) (by decide) rfl 5 (by decide) q1_230 rfl (v := .ref (g.2.2.1 + (a1 + 22))) rfl dX7_copyFrom_76 ?_
      refine lv_iconst (v := (0 : Int32)) hx hb dX7_copyFrom_79 rfl ?_
      refine lv_aload_n hx hb dX7_copyFrom_80 rfl (lv_at hl 0 rfl) ?_
      refine x_get C0 hP inu7 (k := a0) (id7_0 ha0) (by decide) rfl 5 (by decide) q1_230 rfl (v := .ref (g.2.2.1 + (a0 + 22))) rfl dX7_copyFrom_81 ?_
      refine lv_iconst (v := (0 : Int32)) hx hb dX7_copyFrom_84 rfl ?_
      refine lv_bipush (v := (60 : Int32)) hx hb dX7_copyFrom_85 (by decide +kernel) ?_
      obtain ⟨μ6, e6, h⟩ := lt_some h
      refine x_copyb C0 hP hS hl.1 (k0 := (a1 + 22)) (k1 := (a0 + 22)) (id7_22 ha1) (id7_22 ha0) q4_107 q3_124 q3_123 q1_13 (by decide) (sp2 := 0) (dp2 := 0) (n2 := 60) rfl rfl rfl (Nat.le_of_ble_eq_true rfl) (Nat.le_of_ble_eq_true rfl) dX7_copyFrom_87 (fun H locs hP hS => ?_)
      rw [← e6] at hP
      refine lv_aload_n hx hb dX7_copyFrom_90 rfl (lv_at hl 0 rfl) ?_
      refine lv_aload_n hx hb dX7_copyFrom_91 rfl (lv_at hl 1 rfl) ?_
      refine x_get C0 hP inu7 (k := a1) (id7_0 ha1) (by decide) rfl 6 (by decide) q1_232 rfl (v := .int (μ6 a1 6)) rfl dX7_copyFrom_92 ?_
      obtain ⟨μ7, e7, h⟩ := lt_some h
      refine x_put C0 hP hS inu7 tyX7 tyX7_ok nmX7 (k := a0) (id7_0 ha0) (by decide) rfl 6 (by decide) q1_232 rfl rfl (v := .int (μ6 a1 6)) (x := (μ6 a1 6)) rfl rfl (Nat.le_of_ble_eq_true rfl) (os_7_6 _ _ _ _) dX7_copyFrom_95 (fun H locs hP hS => ?_)
      rw [← e7] at hP
      refine lv_aload_n hx hb dX7_copyFrom_98 rfl (lv_at hl 0 rfl) ?_
      refine lv_aload_n hx hb dX7_copyFrom_99 rfl (lv_at hl 1 rfl) ?_
      refine x_get C0 hP inu7 (k := a1) (id7_0 ha1) (by decide) rfl 7 (by decide) q1_234 rfl (v := .int (μ7 a1 7)) rfl dX7_copyFrom_100 ?_
      obtain ⟨μ8, e8, h⟩ := lt_some h
      refine x_put C0 hP hS inu7 tyX7 tyX7_ok nmX7 (k := a0) (id7_0 ha0) (by decide) rfl 7 (by decide) q1_234 rfl rfl (v := .int (μ7 a1 7)) (x := (μ7 a1 7)) rfl rfl (Nat.le_of_ble_eq_true rfl) (os_7_7 _ _ _ _) dX7_copyFrom_103 (fun H locs hP hS => ?_)
      rw [← e8] at hP
      refine lv_aload_n hx hb dX7_copyFrom_106 rfl (lv_at hl 0 rfl) ?_
      refine lv_aload_n hx hb dX7_copyFrom_107 rfl (lv_at hl 1 rfl) ?_
      refine x_get C0 hP inu7 (k := a1) (id7_0 ha1) (by decide) rfl 8 (by decide) q1_236 rfl (v := .int (μ8 a1 8)) rfl dX7_copyFrom_108 ?_
      obtain ⟨μ9, e9, h⟩ := lt_some h
      refine x_put C0 hP hS inu7 tyX7 tyX7_ok nmX7 (k := a0) (id7_0 ha0) (by decide) rfl 8 (by decide) q1_236 rfl rfl (v := .int (μ8 a1 8)) (x := (μ8 a1 8)) rfl rfl (Nat.le_of_ble_eq_true rfl) (os_7_8 _ _ _ _) dX7_copyFrom_111 (fun H locs hP hS => ?_)
      rw [← e9] at hP
      obtain rfl := some1 h
      exact x_vret C0 hP hS dX7_copyFrom_114
    · rw [if_neg c1] at h
      refine lv_aload_n hx hb dX7_copyFrom_10 rfl (lv_at hl 0 rfl) ?_
      refine x_get C0 hP inu7 (k := a0) (id7_0 ha0) (by decide) rfl 0 (by decide) q1_220 rfl (v := .ref (g.2.2.1 + (a0 + 1))) rfl dX7_copyFrom_11 ?_
      refine lv_iload_n hx hb dX7_copyFrom_14 rfl (lv_at hl 2 rfl) ?_
      obtain ⟨z10, h⟩ := gd_some h
      refine x_maald C0 hP (k := (a0 + 1)) (id7_1 ha0) (j := x2.toNatClampNeg) z10 rfl dX7_copyFrom_15 ?_
      refine W.eq (g2 := F0 m 16 ls [.ref (g.2.2.1 + ((a0 + 1) + 22 + 2 * x2.toNatClampNeg))]) rfl ?_
      refine lv_aload_n hx hb dX7_copyFrom_16 rfl (lv_at hl 1 rfl) ?_
      refine x_get C0 hP inu7 (k := a1) (id7_0 ha1) (by decide) rfl 0 (by decide) q1_220 rfl (v := .ref (g.2.2.1 + (a1 + 1))) rfl dX7_copyFrom_17 ?_
      refine lv_iload_n hx hb dX7_copyFrom_20 rfl (lv_at hl 2 rfl) ?_
      obtain ⟨z11, h⟩ := gd_some h
      refine x_maald C0 hP (k := (a1 + 1)) (id7_1 ha1) (j := x2.toNatClampNeg) z11 rfl dX7_copyFrom_21 ?_
      refine W.eq (g2 := F0 m 22 ls [.ref (g.2.2.1 + ((a1 + 1) + 22 + 2 * x2.toNatClampNeg)), .ref (g.2.2.1 + ((a0 + 1) + 22 + 2 * x2.toNatClampNeg))]) rfl ?_
      obtain ⟨μ12, h1, h⟩ := ob_some h
      refine x_callV C0 (rest := []) (q := (RX2, TX2, 15)) (c_X2_copyFrom l g ((a0 + 1) + 22 + 2 * x2.toNatClampNeg) (id7_m ha0 z10) ((a1 + 1) + 22 + 2 * x2.toNatClampNeg) (id7_m ha1 z11) μ h1) q3_222 q4_87 q3_220 q3_221 q1_7 hd_X2_copyFrom ⟨rfl, rfl⟩ ⟨Nat.le_of_ble_eq_true rfl, Nat.le_of_ble_eq_true rfl⟩ (id2_0 (id7_m ha0 z10)) (by decide) rfl hP hS hl.1 rfl rfl (Nat.le_of_ble_eq_true rfl) dX7_copyFrom_22 (fun H locs hP hS => ?_)
      refine W.eq (g2 := F0 m 25 ls []) rfl ?_
      refine lv_iinc (v := (x2 + (1 : Int32))) (lv' := [(2, .int (x2 + (1 : Int32))), (0, .ref (g.2.2.1 + a0)), (1, .ref (g.2.2.1 + a1))]) hx hb dX7_copyFrom_25 hl (k := 2) rfl rfl (by decide) rfl (fun ls hl => ?_)
      refine lv_goto (tgt := 2) hx hb dX7_copyFrom_28 (by decide) ?_
      exact ih a0 ha0 a1 ha1 (x2 + (1 : Int32)) μ12 _ _ _ hP hS (lv_sub hl [1, 2, 0] rfl) h
def X7_copyFrom (a0 : Nat) (a1 : Nat) (μ : Mem) : Option Mem :=
  X7_copyFrom_2 FU a0 a1 (0 : Int32) μ
set_option maxRecDepth 100000 in
set_option maxHeartbeats 4000000 in
theorem c_X7_copyFrom (l : Launch) (g : Gx) (a0 : Nat) (hi0 : Id7 a0) (a1 : Nat) (hi1 : Id7 a1) (μ : Mem) {ν : Mem} (h : X7_copyFrom a0 a1 μ = some ν) : Ct Lx g l yX7_copyFrom cX7_copyFrom 3 none { frames := 2, cells := 0, slots := 0, locals := 39 } [.ref (g.2.2.1 + a0), .ref (g.2.2.1 + a1)] μ none ν := by
  refine x_met (lv := [(0, .ref (g.2.2.1 + a0)), (1, .ref (g.2.2.1 + a1))]) rfl (Nat.le_of_ble_eq_true rfl) rfl ?_
  intro p e s m below meth c C0 hP ls hl
  generalize ([.ref (g.2.2.1 + a0), .ref (g.2.2.1 + a1)] : List Value).toArray = args at C0 ⊢
  have C0 : Cx Lx g p s m args meth c cX7_copyFrom 3 none RX7 := C0
  have hS : va_S (Ax Lx g) s.heap s.heap [] := va_S.rf
  obtain ⟨hx, hb, hr, hml, hown, hts, hlocks, hK⟩ := id C0
  unfold X7_copyFrom at h
  skip
  refine lv_iconst (v := (0 : Int32)) hx hb dX7_copyFrom_0 rfl ?_
  refine lv_istore_n (lv' := [(2, .int (0 : Int32)), (0, .ref (g.2.2.1 + a0)), (1, .ref (g.2.2.1 + a1))]) hx hb dX7_copyFrom_1 rfl hl (by decide) rfl (fun ls hl => ?_)
  exact w_X7_copyFrom_2 C0  FU a0 hi0 a1 hi1 (0 : Int32) μ _ _ _ hP hS (lv_sub hl [1, 2, 0] rfl) h
def X8_ownerOf_4  : Nat → Int32 → Int32 → Int32 → Mem → Option (Int32 × Mem)
  | 0, _, _, _, _ => none
  | n + 1, x1, x2, x3, μ => (if (6 : Int32) ≤ x3 then some ((-1 : Int32), μ) else ob2 (X9_isKind x2 μ) fun r2 μ2 => (if r2 = (0 : Int32) then some ((-1 : Int32), μ2) else (if x1 < (0 : Int32) then some ((-1 : Int32), μ2) else (if (4 : Int32) ≤ x1 then some ((-1 : Int32), μ2) else gd (inB ((x2 * (4 : Int32)) + x1) 24) ((if (BO ((x2 * (4 : Int32)) + x1).toNatClampNeg) = (0 : Int32) then gd (inB x2 6) ((X8_ownerOf_4 n) x1 (KA x2.toNatClampNeg) (x3 + (1 : Int32)) μ2) else some (x2, μ2)))))))
set_option maxRecDepth 100000 in
set_option maxHeartbeats 4000000 in
theorem w_X8_ownerOf_4 {g : Gx} {p : Program} {l : Launch} {e : Env} {s : State} {m : MethodId} {args : Array Value} {below : List Frame} {meth : Method} {c : Code} (C0 : Cx Lx g p s m args meth c cX8_ownerOf 4 (some .int) RX8) {r : Int32} {ν : Mem}  (n : Nat) : ∀ (x1 : Int32) (x2 : Int32) (x3 : Int32) (μ : Mem) (H : Heap) (locs : List Loc) (ls : Array Slot), Px Lx g μ H → va_S (Ax Lx g) s.heap H locs → lv_has ls 4 [(1, .int x1), (2, .int x2), (3, .int x3)] → X8_ownerOf_4  n x1 x2 x3 μ = some (r, ν) → W p l e { frames := 1, cells := 0, slots := 0, locals := 20 } s m args below meth c H locs 0 0 (MQ below (Qx Lx g (some (.int r)) ν) args s 0 0 (Ax Lx g)) (F0 m 4 ls []) := by
  obtain ⟨hx, hb, hr, hml, hown, hts, hlocks, hK⟩ := id C0
  induction n with
  | zero =>
    intro x1 x2 x3 μ H locs ls hP hS hl h
    have h : (none : Option (Int32 × Mem)) = some (r, ν) := h
    cases h
  | succ n ih =>
    intro x1 x2 x3 μ H locs ls hP hS hl h
    rw [X8_ownerOf_4.eq_2] at h
    refine lv_iload_n hx hb dX8_ownerOf_4 rfl (lv_at hl 2 rfl) ?_
    refine lv_bipush (v := (6 : Int32)) hx hb dX8_ownerOf_5 (by decide +kernel) ?_
    refine lv_icmp_ge (tgt := 52) hx hb dX8_ownerOf_7 (by decide) (fun c1 => ?_) (fun c1 => ?_)
    · rw [if_pos c1] at h
      refine lv_iconst (v := (-1 : Int32)) hx hb dX8_ownerOf_52 rfl ?_
      obtain ⟨rfl, rfl⟩ := some2 h
      exact x_iret C0 hP hS dX8_ownerOf_53
    · rw [if_neg c1] at h
      refine lv_iload_n hx hb dX8_ownerOf_10 rfl (lv_at hl 1 rfl) ?_
      obtain ⟨r2, μ2, h1, h⟩ := ob2_some h
      refine x_callSN C0 (rest := []) (c_X9_isKind l g x2 μ h1) q2_115 (by decide +kernel) q2_114 q1_1 hd_X9_isKind ⟨rfl, rfl⟩ ⟨Nat.le_of_ble_eq_true rfl, Nat.le_of_ble_eq_true rfl⟩ hP hS hl.1 rfl rfl (Nat.le_of_ble_eq_true rfl) dX8_ownerOf_11 (fun H locs hP hS => ?_)
      refine W.eq (g2 := F0 m 14 ls [.int r2]) rfl ?_
      refine lv_if_eq (tgt := 52) hx hb dX8_ownerOf_14 (by decide) (fun c3 => ?_) (fun c3 => ?_)
      · rw [if_pos c3] at h
        refine lv_iconst (v := (-1 : Int32)) hx hb dX8_ownerOf_52 rfl ?_
        obtain ⟨rfl, rfl⟩ := some2 h
        exact x_iret C0 hP hS dX8_ownerOf_53
      · rw [if_neg c3] at h
        refine lv_iload_n hx hb dX8_ownerOf_17 rfl (lv_at hl 0 rfl) ?_
        refine lv_if_lt (tgt := 52) hx hb dX8_ownerOf_18 (by decide) (fun c4 => ?_) (fun c4 => ?_)
        · rw [if_pos c4] at h
          refine lv_iconst (v := (-1 : Int32)) hx hb dX8_ownerOf_52 rfl ?_
          obtain ⟨rfl, rfl⟩ := some2 h
          exact x_iret C0 hP hS dX8_ownerOf_53
        · rw [if_neg c4] at h
          refine lv_iload_n hx hb dX8_ownerOf_21 rfl (lv_at hl 0 rfl) ?_
          refine lv_iconst (v := (4 : Int32)) hx hb dX8_ownerOf_22 rfl ?_
          refine lv_icmp_ge (tgt := 52) hx hb dX8_ownerOf_23 (by decide) (fun c5 => ?_) (fun c5 => ?_)
          · rw [if_pos c5] at h
            refine lv_iconst (v := (-1 : Int32)) hx hb dX8_ownerOf_52 rfl ?_
            obtain ⟨rfl, rfl⟩ := some2 h
            exact x_iret C0 hP hS dX8_ownerOf_53
          · rw [if_neg c5] at h
            refine x_bo C0 hS q4_38 dX8_ownerOf_26 ?_
            refine lv_iload_n hx hb dX8_ownerOf_29 rfl (lv_at hl 1 rfl) ?_
            refine lv_iconst (v := (4 : Int32)) hx hb dX8_ownerOf_30 rfl ?_
            refine lv_imul hx hb dX8_ownerOf_31 ?_
            refine lv_iload_n hx hb dX8_ownerOf_32 rfl (lv_at hl 0 rfl) ?_
            refine lv_iadd hx hb dX8_ownerOf_33 ?_
            obtain ⟨z6, h⟩ := gd_some h
            refine x_tald (f := BO) C0 hS hK.2.2.2.2.2 (j := ((x2 * (4 : Int32)) + x1).toNatClampNeg) z6 rfl dX8_ownerOf_34 ?_
            refine lv_if_eq (tgt := 40) hx hb dX8_ownerOf_35 (by decide) (fun c7 => ?_) (fun c7 => ?_)
            · rw [if_pos c7] at h
              refine x_kaN C0 hS (index := 39) (by decide +kernel) dX8_ownerOf_40 ?_
              refine lv_iload_n hx hb dX8_ownerOf_43 rfl (lv_at hl 1 rfl) ?_
              obtain ⟨z8, h⟩ := gd_some h
              refine x_tald (f := KA) C0 hS hK.2.2.2.1.2 (j := x2.toNatClampNeg) z8 rfl dX8_ownerOf_44 ?_
              refine lv_istore_n (lv' := [(2, .int (KA x2.toNatClampNeg)), (1, .int x1), (3, .int x3)]) hx hb dX8_ownerOf_45 rfl hl (by decide) rfl (fun ls hl => ?_)
              refine lv_iinc (v := (x3 + (1 : Int32))) (lv' := [(3, .int (x3 + (1 : Int32))), (2, .int (KA x2.toNatClampNeg)), (1, .int x1)]) hx hb dX8_ownerOf_46 hl (k := 2) rfl rfl (by decide) rfl (fun ls hl => ?_)
              refine lv_goto (tgt := 4) hx hb dX8_ownerOf_49 (by decide) ?_
              exact ih x1 (KA x2.toNatClampNeg) (x3 + (1 : Int32)) μ2 _ _ _ hP hS (lv_sub hl [2, 1, 0] rfl) h
            · rw [if_neg c7] at h
              refine lv_iload_n hx hb dX8_ownerOf_38 rfl (lv_at hl 1 rfl) ?_
              obtain ⟨rfl, rfl⟩ := some2 h
              exact x_iret C0 hP hS dX8_ownerOf_39
def X8_ownerOf (x0 : Int32) (x1 : Int32) (μ : Mem) : Option (Int32 × Mem) :=
  X8_ownerOf_4 FU x1 x0 (0 : Int32) μ
set_option maxRecDepth 100000 in
set_option maxHeartbeats 4000000 in
theorem c_X8_ownerOf (l : Launch) (g : Gx) (x0 : Int32) (x1 : Int32) (μ : Mem) {r : Int32} {ν : Mem} (h : X8_ownerOf x0 x1 μ = some (r, ν)) : Ct Lx g l yX8_ownerOf cX8_ownerOf 4 (some .int) { frames := 1, cells := 0, slots := 0, locals := 20 } [.int x0, .int x1] μ (some (.int r)) ν := by
  refine x_met (lv := [(0, .int x0), (1, .int x1)]) rfl (Nat.le_of_ble_eq_true rfl) rfl ?_
  intro p e s m below meth c C0 hP ls hl
  generalize ([.int x0, .int x1] : List Value).toArray = args at C0 ⊢
  have C0 : Cx Lx g p s m args meth c cX8_ownerOf 4 (some .int) RX8 := C0
  have hS : va_S (Ax Lx g) s.heap s.heap [] := va_S.rf
  obtain ⟨hx, hb, hr, hml, hown, hts, hlocks, hK⟩ := id C0
  unfold X8_ownerOf at h
  skip
  refine lv_iload_n hx hb dX8_ownerOf_0 rfl (lv_at hl 0 rfl) ?_
  refine lv_istore_n (lv' := [(2, .int x0), (0, .int x0), (1, .int x1)]) hx hb dX8_ownerOf_1 rfl hl (by decide) rfl (fun ls hl => ?_)
  refine lv_iconst (v := (0 : Int32)) hx hb dX8_ownerOf_2 rfl ?_
  refine lv_istore_n (lv' := [(3, .int (0 : Int32)), (2, .int x0), (0, .int x0), (1, .int x1)]) hx hb dX8_ownerOf_3 rfl hl (by decide) rfl (fun ls hl => ?_)
  exact w_X8_ownerOf_4 C0  FU x1 x0 (0 : Int32) μ _ _ _ hP hS (lv_sub hl [3, 1, 0] rfl) h
def X8_note (x1 : Int32) (μ : Mem) : Option Mem :=
  (if (40 : Int32) ≤ (μ 83 1) then some μ else gd (inB (μ 83 1) 40) (lt (st μ 84 (μ 83 1).toNatClampNeg x1) fun μ3 => lt (st μ3 83 1 ((μ3 83 1) + (1 : Int32))) fun μ4 => some μ4))
set_option maxRecDepth 100000 in
set_option maxHeartbeats 4000000 in
theorem c_X8_note (l : Launch) (g : Gx) (x1 : Int32) (μ : Mem) {ν : Mem} (h : X8_note x1 μ = some ν) : Ct Lx g l yX8_note cX8_note 2 none { frames := 0, cells := 0, slots := 0, locals := 0 } [.ref (g.2.2.1 + 83), .int x1] μ none ν := by
  refine x_met (lv := [(0, .ref (g.2.2.1 + 83)), (1, .int x1)]) rfl (Nat.le_of_ble_eq_true rfl) rfl ?_
  intro p e s m below meth c C0 hP ls hl
  generalize ([.ref (g.2.2.1 + 83), .int x1] : List Value).toArray = args at C0 ⊢
  have C0 : Cx Lx g p s m args meth c cX8_note 2 none RX8 := C0
  have hS : va_S (Ax Lx g) s.heap s.heap [] := va_S.rf
  obtain ⟨hx, hb, hr, hml, hown, hts, hlocks, hK⟩ := id C0
  unfold X8_note at h
  skip
  refine lv_aload_n hx hb dX8_note_0 rfl (lv_at hl 0 rfl) ?_
  refine x_get C0 hP inu8 (k := 83) cx_83 (by decide) rfl 1 (by decide) q2_54 rfl (v := .int (μ 83 1)) rfl dX8_note_1 ?_
  refine lv_bipush (v := (40 : Int32)) hx hb dX8_note_4 (by decide +kernel) ?_
  refine lv_icmp_ge (tgt := 29) hx hb dX8_note_6 (by decide) (fun c1 => ?_) (fun c1 => ?_)
  · rw [if_pos c1] at h
    obtain rfl := some1 h
    exact x_vret C0 hP hS dX8_note_29
  · rw [if_neg c1] at h
    refine lv_aload_n hx hb dX8_note_9 rfl (lv_at hl 0 rfl) ?_
    refine x_get C0 hP inu8 (k := 83) cx_83 (by decide) rfl 0 (by decide) q2_52 rfl (v := .ref (g.2.2.1 + 84)) rfl dX8_note_10 ?_
    refine lv_aload_n hx hb dX8_note_13 rfl (lv_at hl 0 rfl) ?_
    refine x_get C0 hP inu8 (k := 83) cx_83 (by decide) rfl 1 (by decide) q2_54 rfl (v := .int (μ 83 1)) rfl dX8_note_14 ?_
    refine lv_iload_n hx hb dX8_note_17 rfl (lv_at hl 1 rfl) ?_
    obtain ⟨z2, h⟩ := gd_some h
    obtain ⟨μ3, e3, h⟩ := lt_some h
    refine x_iast C0 hP hS (k := 84) cx_84 (j := (μ 83 1).toNatClampNeg) z2 rfl dX8_note_18 (fun H locs hP hS => ?_)
    rw [← e3] at hP
    refine lv_aload_n hx hb dX8_note_19 rfl (lv_at hl 0 rfl) ?_
    refine lv_dup hx hb dX8_note_20 rfl ?_
    refine x_get C0 hP inu8 (k := 83) cx_83 (by decide) rfl 1 (by decide) q2_54 rfl (v := .int (μ3 83 1)) rfl dX8_note_21 ?_
    refine lv_iconst (v := (1 : Int32)) hx hb dX8_note_24 rfl ?_
    refine lv_iadd hx hb dX8_note_25 ?_
    obtain ⟨μ4, e4, h⟩ := lt_some h
    refine x_put C0 hP hS inu8 tyX8 tyX8_ok nmX8 (k := 83) cx_83 (by decide) rfl 1 (by decide) q2_54 rfl rfl (v := .int ((μ3 83 1) + (1 : Int32))) (x := ((μ3 83 1) + (1 : Int32))) rfl rfl (Nat.le_of_ble_eq_true rfl) (os_8_1 _ _ _ _) dX8_note_26 (fun H locs hP hS => ?_)
    rw [← e4] at hP
    obtain rfl := some1 h
    exact x_vret C0 hP hS dX8_note_29
