def X9_inForce_14   (μ : Mem) : Option (Int32 × Mem) :=
  ob2 (X9_finding (1 : Int32) μ) fun r3 μ3 => some (r3, μ3)
set_option maxRecDepth 100000 in
set_option maxHeartbeats 4000000 in
theorem w_X9_inForce_14 {g : Gx} {p : Program} {l : Launch} {e : Env} {s : State} {m : MethodId} {args : Array Value} {below : List Frame} {meth : Method} {c : Code} (C0 : Cx Lx g p s m args meth c cX9_inForce 4 (some .int) RX9) {r : Int32} {ν : Mem}   (μ : Mem) (H : Heap) (locs : List Loc) (ls : Array Slot) (hP : Px Lx g μ H) (hS : va_S (Ax Lx g) s.heap H locs) (hl : lv_has ls 4 [(0, .ref (g.2.2.1 + 0))]) (h : X9_inForce_14   μ = some (r, ν)) : W p l e { frames := 1, cells := 0, slots := 0, locals := 23 } s m args below meth c H locs 0 0 (MQ below (Qx Lx g (some (.int r)) ν) args s 0 0 (Ax Lx g)) (F0 m 14 ls []) := by
  obtain ⟨hx, hb, hr, hml, hown, hts, hlocks, hK⟩ := id C0
  unfold X9_inForce_14 at h
  refine lv_aload_n hx hb dX9_inForce_14 rfl (lv_at hl 0 rfl) ?_
  refine lv_iconst (v := (1 : Int32)) hx hb dX9_inForce_15 rfl ?_
  obtain ⟨r3, μ3, h1, h⟩ := ob2_some h
  refine x_callV C0 (rest := []) (q := (RX9, TX9, 9)) (c_X9_finding l g (1 : Int32) μ h1) q2_122 q2_119 q2_121 r1_0 q1_1 hd_X9_finding ⟨rfl, rfl⟩ ⟨Nat.le_of_ble_eq_true rfl, Nat.le_of_ble_eq_true rfl⟩ cx_0 (by decide) rfl hP hS hl.1 rfl rfl (Nat.le_of_ble_eq_true rfl) dX9_inForce_16 (fun H locs hP hS => ?_)
  refine W.eq (g2 := F0 m 19 ls [.int r3]) rfl ?_
  obtain ⟨rfl, rfl⟩ := some2 h
  exact x_iret C0 hP hS dX9_inForce_19
def X9_inForce (x1 : Int32) (x2 : Int32) (μ : Mem) : Option (Int32 × Mem) :=
  ob2 (X9_isUse x1 μ) fun r1 μ1 => (if r1 = (0 : Int32) then X9_inForce_14 μ1 else ob2 (X9_isHour x2 μ1) fun r4 μ4 => (if r4 = (0 : Int32) then X9_inForce_14 μ4 else ob2 (X1_ruling x1 x2 μ4) fun r6 μ6 => (if (0 : Int32) ≤ r6 then some (r6, μ6) else ob2 (X9_finding (2 : Int32) μ6) fun r8 μ8 => some (r8, μ8))))
set_option maxRecDepth 100000 in
set_option maxHeartbeats 4000000 in
theorem c_X9_inForce (l : Launch) (g : Gx) (x1 : Int32) (x2 : Int32) (μ : Mem) {r : Int32} {ν : Mem} (h : X9_inForce x1 x2 μ = some (r, ν)) : Ct Lx g l yX9_inForce cX9_inForce 4 (some .int) { frames := 1, cells := 0, slots := 0, locals := 23 } [.ref (g.2.2.1 + 0), .int x1, .int x2] μ (some (.int r)) ν := by
  refine x_met (lv := [(0, .ref (g.2.2.1 + 0)), (1, .int x1), (2, .int x2)]) rfl (Nat.le_of_ble_eq_true rfl) rfl ?_
  intro p e s m below meth c C0 hP ls hl
  generalize ([.ref (g.2.2.1 + 0), .int x1, .int x2] : List Value).toArray = args at C0 ⊢
  have C0 : Cx Lx g p s m args meth c cX9_inForce 4 (some .int) RX9 := C0
  have hS : va_S (Ax Lx g) s.heap s.heap [] := va_S.rf
  obtain ⟨hx, hb, hr, hml, hown, hts, hlocks, hK⟩ := id C0
  unfold X9_inForce at h
  skip
  refine lv_iload_n hx hb dX9_inForce_0 rfl (lv_at hl 1 rfl) ?_
  obtain ⟨r1, μ1, h1, h⟩ := ob2_some h
  refine x_callS C0 (rest := []) (c_X9_isUse l g x1 μ h1) q3_60 q3_58 q3_59 q1_1 hd_X9_isUse ⟨rfl, rfl⟩ ⟨Nat.le_of_ble_eq_true rfl, Nat.le_of_ble_eq_true rfl⟩ hP hS hl.1 rfl rfl (Nat.le_of_ble_eq_true rfl) dX9_inForce_1 (fun H locs hP hS => ?_)
  refine W.eq (g2 := F0 m 4 ls [.int r1]) rfl ?_
  refine lv_if_eq (tgt := 14) hx hb dX9_inForce_4 (by decide) (fun c2 => ?_) (fun c2 => ?_)
  · rw [if_pos c2] at h
    exact w_X9_inForce_14 C0   μ1 _ _ _ hP hS (lv_sub hl [0] rfl) h
  · rw [if_neg c2] at h
    refine lv_iload_n hx hb dX9_inForce_7 rfl (lv_at hl 2 rfl) ?_
    obtain ⟨r4, μ4, h1, h⟩ := ob2_some h
    refine x_callS C0 (rest := []) (c_X9_isHour l g x2 μ1 h1) q3_63 q3_61 q3_62 q1_1 hd_X9_isHour ⟨rfl, rfl⟩ ⟨Nat.le_of_ble_eq_true rfl, Nat.le_of_ble_eq_true rfl⟩ hP hS hl.1 rfl rfl (Nat.le_of_ble_eq_true rfl) dX9_inForce_8 (fun H locs hP hS => ?_)
    refine W.eq (g2 := F0 m 11 ls [.int r4]) rfl ?_
    refine lv_if_ne (tgt := 20) hx hb dX9_inForce_11 (by decide) (fun c5 => ?_) (fun c5 => ?_)
    · rw [if_neg c5] at h
      refine lv_aload_n hx hb dX9_inForce_20 rfl (lv_at hl 0 rfl) ?_
      refine x_get C0 hP inu9 (k := 0) cx_0 (by decide) rfl 0 (by decide) q2_81 rfl (v := .ref (g.2.2.1 + 1)) rfl dX9_inForce_21 ?_
      refine x_get C0 hP inu7 (k := 1) cx_1 (by decide) rfl 2 (by decide) q1_225 rfl (v := .ref (g.2.2.1 + 8)) rfl dX9_inForce_24 ?_
      refine lv_iload_n hx hb dX9_inForce_27 rfl (lv_at hl 1 rfl) ?_
      refine lv_iload_n hx hb dX9_inForce_28 rfl (lv_at hl 2 rfl) ?_
      obtain ⟨r6, μ6, h1, h⟩ := ob2_some h
      refine x_callV C0 (rest := []) (q := (RX1, TX1, 6)) (c_X1_ruling l g x1 x2 μ4 h1) q2_135 q2_155 q2_133 q2_134 q1_4 hd_X1_ruling ⟨rfl, rfl⟩ ⟨Nat.le_of_ble_eq_true rfl, Nat.le_of_ble_eq_true rfl⟩ cx_8 (by decide) rfl hP hS hl.1 rfl rfl (Nat.le_of_ble_eq_true rfl) dX9_inForce_29 (fun H locs hP hS => ?_)
      refine W.eq (g2 := F0 m 32 ls [.int r6]) rfl ?_
      refine lv_istore_n (lv' := [(3, .int r6), (0, .ref (g.2.2.1 + 0)), (1, .int x1), (2, .int x2)]) hx hb dX9_inForce_32 rfl hl (by decide) rfl (fun ls hl => ?_)
      refine lv_iload_n hx hb dX9_inForce_33 rfl (lv_at hl 0 rfl) ?_
      refine lv_if_ge (tgt := 45) hx hb dX9_inForce_34 (by decide) (fun c7 => ?_) (fun c7 => ?_)
      · rw [if_pos c7] at h
        refine lv_iload_n hx hb dX9_inForce_45 rfl (lv_at hl 0 rfl) ?_
        obtain ⟨rfl, rfl⟩ := some2 h
        exact x_iret C0 hP hS dX9_inForce_46
      · rw [if_neg c7] at h
        refine lv_aload_n hx hb dX9_inForce_37 rfl (lv_at hl 1 rfl) ?_
        refine lv_iconst (v := (2 : Int32)) hx hb dX9_inForce_38 rfl ?_
        obtain ⟨r8, μ8, h1, h⟩ := ob2_some h
        refine x_callV C0 (rest := []) (q := (RX9, TX9, 9)) (c_X9_finding l g (2 : Int32) μ6 h1) q2_122 q2_119 q2_121 r1_0 q1_1 hd_X9_finding ⟨rfl, rfl⟩ ⟨Nat.le_of_ble_eq_true rfl, Nat.le_of_ble_eq_true rfl⟩ cx_0 (by decide) rfl hP hS hl.1 rfl rfl (Nat.le_of_ble_eq_true rfl) dX9_inForce_39 (fun H locs hP hS => ?_)
        refine W.eq (g2 := F0 m 42 ls [.int r8]) rfl ?_
        refine lv_goto (tgt := 46) hx hb dX9_inForce_42 (by decide) ?_
        obtain ⟨rfl, rfl⟩ := some2 h
        exact x_iret C0 hP hS dX9_inForce_46
    · rw [if_pos c5] at h
      exact w_X9_inForce_14 C0   μ4 _ _ _ hP hS (lv_sub hl [0] rfl) h
def X9_says_25   (μ : Mem) : Option (Int32 × Mem) :=
  ob2 (X9_finding (1 : Int32) μ) fun r3 μ3 => some (r3, μ3)
set_option maxRecDepth 100000 in
set_option maxHeartbeats 4000000 in
theorem w_X9_says_25 {g : Gx} {p : Program} {l : Launch} {e : Env} {s : State} {m : MethodId} {args : Array Value} {below : List Frame} {meth : Method} {c : Code} (C0 : Cx Lx g p s m args meth c cX9_says 4 (some .int) RX9) {r : Int32} {ν : Mem}   (μ : Mem) (H : Heap) (locs : List Loc) (ls : Array Slot) (hP : Px Lx g μ H) (hS : va_S (Ax Lx g) s.heap H locs) (hl : lv_has ls 4 [(0, .ref (g.2.2.1 + 0))]) (h : X9_says_25   μ = some (r, ν)) : W p l e { frames := 2, cells := 0, slots := 0, locals := 52 } s m args below meth c H locs 0 0 (MQ below (Qx Lx g (some (.int r)) ν) args s 0 0 (Ax Lx g)) (F0 m 25 ls []) := by
  obtain ⟨hx, hb, hr, hml, hown, hts, hlocks, hK⟩ := id C0
  unfold X9_says_25 at h
  refine lv_aload_n hx hb dX9_says_25 rfl (lv_at hl 0 rfl) ?_
  refine lv_iconst (v := (1 : Int32)) hx hb dX9_says_26 rfl ?_
  obtain ⟨r3, μ3, h1, h⟩ := ob2_some h
  refine x_callV C0 (rest := []) (q := (RX9, TX9, 9)) (c_X9_finding l g (1 : Int32) μ h1) q2_122 q2_119 q2_121 r1_0 q1_1 hd_X9_finding ⟨rfl, rfl⟩ ⟨Nat.le_of_ble_eq_true rfl, Nat.le_of_ble_eq_true rfl⟩ cx_0 (by decide) rfl hP hS hl.1 rfl rfl (Nat.le_of_ble_eq_true rfl) dX9_says_27 (fun H locs hP hS => ?_)
  refine W.eq (g2 := F0 m 30 ls [.int r3]) rfl ?_
  obtain ⟨rfl, rfl⟩ := some2 h
  exact x_iret C0 hP hS dX9_says_30
def X9_says (x1 : Int32) (x2 : Int32) (x3 : Int32) (μ : Mem) : Option (Int32 × Mem) :=
  ob2 (X1_has x1 μ) fun r1 μ1 => (if r1 = (0 : Int32) then X9_says_25 μ1 else ob2 (X7_hasMeter x2 μ1) fun r4 μ4 => (if r4 = (0 : Int32) then X9_says_25 μ4 else gd (inB x2 8) (ob2 (X1_worth x1 (24 + 2 * x2.toNatClampNeg) (μ4 1 8) x3 μ4) fun r7 μ7 => some (r7, μ7))))
set_option maxRecDepth 100000 in
set_option maxHeartbeats 4000000 in
theorem c_X9_says (l : Launch) (g : Gx) (x1 : Int32) (x2 : Int32) (x3 : Int32) (μ : Mem) {r : Int32} {ν : Mem} (h : X9_says x1 x2 x3 μ = some (r, ν)) : Ct Lx g l yX9_says cX9_says 4 (some .int) { frames := 2, cells := 0, slots := 0, locals := 52 } [.ref (g.2.2.1 + 0), .int x1, .int x2, .int x3] μ (some (.int r)) ν := by
  refine x_met (lv := [(0, .ref (g.2.2.1 + 0)), (1, .int x1), (2, .int x2), (3, .int x3)]) rfl (Nat.le_of_ble_eq_true rfl) rfl ?_
  intro p e s m below meth c C0 hP ls hl
  generalize ([.ref (g.2.2.1 + 0), .int x1, .int x2, .int x3] : List Value).toArray = args at C0 ⊢
  have C0 : Cx Lx g p s m args meth c cX9_says 4 (some .int) RX9 := C0
  have hS : va_S (Ax Lx g) s.heap s.heap [] := va_S.rf
  obtain ⟨hx, hb, hr, hml, hown, hts, hlocks, hK⟩ := id C0
  unfold X9_says at h
  skip
  refine lv_aload_n hx hb dX9_says_0 rfl (lv_at hl 0 rfl) ?_
  refine x_get C0 hP inu9 (k := 0) cx_0 (by decide) rfl 0 (by decide) q2_81 rfl (v := .ref (g.2.2.1 + 1)) rfl dX9_says_1 ?_
  refine x_get C0 hP inu7 (k := 1) cx_1 (by decide) rfl 2 (by decide) q1_225 rfl (v := .ref (g.2.2.1 + 8)) rfl dX9_says_4 ?_
  refine lv_iload_n hx hb dX9_says_7 rfl (lv_at hl 1 rfl) ?_
  obtain ⟨r1, μ1, h1, h⟩ := ob2_some h
  refine x_callV C0 (rest := []) (q := (RX1, TX1, 6)) (c_X1_has l g x1 μ h1) q2_209 q3_133 q2_207 q2_208 q1_4 hd_X1_has ⟨rfl, rfl⟩ ⟨Nat.le_of_ble_eq_true rfl, Nat.le_of_ble_eq_true rfl⟩ cx_8 (by decide) rfl hP hS hl.1 rfl rfl (Nat.le_of_ble_eq_true rfl) dX9_says_8 (fun H locs hP hS => ?_)
  refine W.eq (g2 := F0 m 11 ls [.int r1]) rfl ?_
  refine lv_if_eq (tgt := 25) hx hb dX9_says_11 (by decide) (fun c2 => ?_) (fun c2 => ?_)
  · rw [if_pos c2] at h
    exact w_X9_says_25 C0   μ1 _ _ _ hP hS (lv_sub hl [0] rfl) h
  · rw [if_neg c2] at h
    refine lv_aload_n hx hb dX9_says_14 rfl (lv_at hl 0 rfl) ?_
    refine x_get C0 hP inu9 (k := 0) cx_0 (by decide) rfl 0 (by decide) q2_81 rfl (v := .ref (g.2.2.1 + 1)) rfl dX9_says_15 ?_
    refine lv_iload_n hx hb dX9_says_18 rfl (lv_at hl 2 rfl) ?_
    obtain ⟨r4, μ4, h1, h⟩ := ob2_some h
    refine x_callV C0 (rest := []) (q := (RX7, TX7, 9)) (c_X7_hasMeter l g x2 μ1 h1) q2_143 q2_140 q2_141 q2_142 q1_2 hd_X7_hasMeter ⟨rfl, rfl⟩ ⟨Nat.le_of_ble_eq_true rfl, Nat.le_of_ble_eq_true rfl⟩ cx_1 (by decide) rfl hP hS hl.1 rfl rfl (Nat.le_of_ble_eq_true rfl) dX9_says_19 (fun H locs hP hS => ?_)
    refine W.eq (g2 := F0 m 22 ls [.int r4]) rfl ?_
    refine lv_if_ne (tgt := 31) hx hb dX9_says_22 (by decide) (fun c5 => ?_) (fun c5 => ?_)
    · rw [if_neg c5] at h
      refine lv_aload_n hx hb dX9_says_31 rfl (lv_at hl 0 rfl) ?_
      refine x_get C0 hP inu9 (k := 0) cx_0 (by decide) rfl 0 (by decide) q2_81 rfl (v := .ref (g.2.2.1 + 1)) rfl dX9_says_32 ?_
      refine x_get C0 hP inu7 (k := 1) cx_1 (by decide) rfl 2 (by decide) q1_225 rfl (v := .ref (g.2.2.1 + 8)) rfl dX9_says_35 ?_
      refine lv_iload_n hx hb dX9_says_38 rfl (lv_at hl 1 rfl) ?_
      refine lv_aload_n hx hb dX9_says_39 rfl (lv_at hl 0 rfl) ?_
      refine x_get C0 hP inu9 (k := 0) cx_0 (by decide) rfl 0 (by decide) q2_81 rfl (v := .ref (g.2.2.1 + 1)) rfl dX9_says_40 ?_
      refine x_get C0 hP inu7 (k := 1) cx_1 (by decide) rfl 0 (by decide) q1_221 rfl (v := .ref (g.2.2.1 + 2)) rfl dX9_says_43 ?_
      refine lv_iload_n hx hb dX9_says_46 rfl (lv_at hl 2 rfl) ?_
      obtain ⟨z6, h⟩ := gd_some h
      refine x_maald C0 hP (k := 2) cx_2 (j := x2.toNatClampNeg) z6 rfl dX9_says_47 ?_
      refine W.eq (g2 := F0 m 48 ls [.ref (g.2.2.1 + (24 + 2 * x2.toNatClampNeg)), .int x1, .ref (g.2.2.1 + 8)]) rfl ?_
      refine lv_aload_n hx hb dX9_says_48 rfl (lv_at hl 0 rfl) ?_
      refine x_get C0 hP inu9 (k := 0) cx_0 (by decide) rfl 0 (by decide) q2_81 rfl (v := .ref (g.2.2.1 + 1)) rfl dX9_says_49 ?_
      refine x_get C0 hP inu7 (k := 1) cx_1 (by decide) rfl 8 (by decide) q1_237 rfl (v := .int (μ4 1 8)) rfl dX9_says_52 ?_
      refine lv_iload_n hx hb dX9_says_55 rfl (lv_at hl 3 rfl) ?_
      obtain ⟨r7, μ7, h1, h⟩ := ob2_some h
      refine x_callV C0 (rest := []) (q := (RX1, TX1, 6)) (c_X1_worth l g x1 (24 + 2 * x2.toNatClampNeg) (met_i z6) (μ4 1 8) x3 μ4 h1) q2_213 q3_134 q2_211 q2_212 q1_4 hd_X1_worth ⟨rfl, rfl⟩ ⟨Nat.le_of_ble_eq_true rfl, Nat.le_of_ble_eq_true rfl⟩ cx_8 (by decide) rfl hP hS hl.1 rfl rfl (Nat.le_of_ble_eq_true rfl) dX9_says_56 (fun H locs hP hS => ?_)
      refine W.eq (g2 := F0 m 59 ls [.int r7]) rfl ?_
      obtain ⟨rfl, rfl⟩ := some2 h
      exact x_iret C0 hP hS dX9_says_59
    · rw [if_pos c5] at h
      exact w_X9_says_25 C0   μ4 _ _ _ hP hS (lv_sub hl [0] rfl) h
def X9_rate (x1 : Int32) (x2 : Int32) (μ : Mem) : Option (Int32 × Mem) :=
  ob2 (X7_hasMeter x1 μ) fun r1 μ1 => (if r1 = (0 : Int32) then ob2 (X9_finding (1 : Int32) μ1) fun r13 μ13 => some (r13, μ13) else gd (inB x1 8) (ob2 (X1_ruling (0 : Int32) (μ1 1 8) μ1) fun r4 μ4 => (if x2 = (0 : Int32) then ob2 (X1_unitPrice r4 (24 + 2 * x1.toNatClampNeg) (μ4 1 8) μ4) fun r6 μ6 => some (r6, μ6) else (if x2 = (1 : Int32) then ob2 (X2_loadedUnder (24 + 2 * x1.toNatClampNeg) r4 μ4) fun r8 μ8 => ob2 (X1_unitPrice r8 (24 + 2 * x1.toNatClampNeg) (μ8 1 8) μ8) fun r9 μ9 => some (r9, μ9) else (if x2 = (2 : Int32) then ob2 (X1_standingOf (24 + 2 * x1.toNatClampNeg) (μ4 1 8) μ4) fun r11 μ11 => some (r11, μ11) else ob2 (X9_finding (1 : Int32) μ4) fun r12 μ12 => some (r12, μ12))))))
set_option maxRecDepth 100000 in
set_option maxHeartbeats 4000000 in
theorem c_X9_rate (l : Launch) (g : Gx) (x1 : Int32) (x2 : Int32) (μ : Mem) {r : Int32} {ν : Mem} (h : X9_rate x1 x2 μ = some (r, ν)) : Ct Lx g l yX9_rate cX9_rate 5 (some .int) { frames := 3, cells := 0, slots := 0, locals := 75 } [.ref (g.2.2.1 + 0), .int x1, .int x2] μ (some (.int r)) ν := by
  refine x_met (lv := [(0, .ref (g.2.2.1 + 0)), (1, .int x1), (2, .int x2)]) rfl (Nat.le_of_ble_eq_true rfl) rfl ?_
  intro p e s m below meth c C0 hP ls hl
  generalize ([.ref (g.2.2.1 + 0), .int x1, .int x2] : List Value).toArray = args at C0 ⊢
  have C0 : Cx Lx g p s m args meth c cX9_rate 5 (some .int) RX9 := C0
  have hS : va_S (Ax Lx g) s.heap s.heap [] := va_S.rf
  obtain ⟨hx, hb, hr, hml, hown, hts, hlocks, hK⟩ := id C0
  unfold X9_rate at h
  skip
  refine lv_aload_n hx hb dX9_rate_0 rfl (lv_at hl 0 rfl) ?_
  refine x_get C0 hP inu9 (k := 0) cx_0 (by decide) rfl 0 (by decide) q2_81 rfl (v := .ref (g.2.2.1 + 1)) rfl dX9_rate_1 ?_
  refine lv_iload_n hx hb dX9_rate_4 rfl (lv_at hl 1 rfl) ?_
  obtain ⟨r1, μ1, h1, h⟩ := ob2_some h
  refine x_callV C0 (rest := []) (q := (RX7, TX7, 9)) (c_X7_hasMeter l g x1 μ h1) q2_143 q2_140 q2_141 q2_142 q1_2 hd_X7_hasMeter ⟨rfl, rfl⟩ ⟨Nat.le_of_ble_eq_true rfl, Nat.le_of_ble_eq_true rfl⟩ cx_1 (by decide) rfl hP hS hl.1 rfl rfl (Nat.le_of_ble_eq_true rfl) dX9_rate_5 (fun H locs hP hS => ?_)
  refine W.eq (g2 := F0 m 8 ls [.int r1]) rfl ?_
  refine lv_if_ne (tgt := 17) hx hb dX9_rate_8 (by decide) (fun c2 => ?_) (fun c2 => ?_)
  · rw [if_neg c2] at h
    refine lv_aload_n hx hb dX9_rate_17 rfl (lv_at hl 0 rfl) ?_
    refine x_get C0 hP inu9 (k := 0) cx_0 (by decide) rfl 0 (by decide) q2_81 rfl (v := .ref (g.2.2.1 + 1)) rfl dX9_rate_18 ?_
    refine x_get C0 hP inu7 (k := 1) cx_1 (by decide) rfl 0 (by decide) q1_221 rfl (v := .ref (g.2.2.1 + 2)) rfl dX9_rate_21 ?_
    refine lv_iload_n hx hb dX9_rate_24 rfl (lv_at hl 1 rfl) ?_
    obtain ⟨z3, h⟩ := gd_some h
    refine x_maald C0 hP (k := 2) cx_2 (j := x1.toNatClampNeg) z3 rfl dX9_rate_25 ?_
    refine W.eq (g2 := F0 m 26 ls [.ref (g.2.2.1 + (24 + 2 * x1.toNatClampNeg))]) rfl ?_
    refine lv_astore_n (lv' := [(3, .ref (g.2.2.1 + (24 + 2 * x1.toNatClampNeg))), (0, .ref (g.2.2.1 + 0)), (1, .int x1), (2, .int x2)]) hx hb dX9_rate_26 rfl hl (by decide) rfl (fun ls hl => ?_)
    refine lv_aload_n hx hb dX9_rate_27 rfl (lv_at hl 1 rfl) ?_
    refine x_get C0 hP inu9 (k := 0) cx_0 (by decide) rfl 0 (by decide) q2_81 rfl (v := .ref (g.2.2.1 + 1)) rfl dX9_rate_28 ?_
    refine x_get C0 hP inu7 (k := 1) cx_1 (by decide) rfl 2 (by decide) q1_225 rfl (v := .ref (g.2.2.1 + 8)) rfl dX9_rate_31 ?_
    refine lv_iconst (v := (0 : Int32)) hx hb dX9_rate_34 rfl ?_
    refine lv_aload_n hx hb dX9_rate_35 rfl (lv_at hl 1 rfl) ?_
    refine x_get C0 hP inu9 (k := 0) cx_0 (by decide) rfl 0 (by decide) q2_81 rfl (v := .ref (g.2.2.1 + 1)) rfl dX9_rate_36 ?_
    refine x_get C0 hP inu7 (k := 1) cx_1 (by decide) rfl 8 (by decide) q1_237 rfl (v := .int (μ1 1 8)) rfl dX9_rate_39 ?_
    obtain ⟨r4, μ4, h1, h⟩ := ob2_some h
    refine x_callV C0 (rest := []) (q := (RX1, TX1, 6)) (c_X1_ruling l g (0 : Int32) (μ1 1 8) μ1 h1) q2_135 q2_155 q2_133 q2_134 q1_4 hd_X1_ruling ⟨rfl, rfl⟩ ⟨Nat.le_of_ble_eq_true rfl, Nat.le_of_ble_eq_true rfl⟩ cx_8 (by decide) rfl hP hS hl.1 rfl rfl (Nat.le_of_ble_eq_true rfl) dX9_rate_42 (fun H locs hP hS => ?_)
    refine W.eq (g2 := F0 m 45 ls [.int r4]) rfl ?_
    refine lv_istore (lv' := [(4, .int r4), (3, .ref (g.2.2.1 + (24 + 2 * x1.toNatClampNeg))), (0, .ref (g.2.2.1 + 0)), (1, .int x1), (2, .int x2)]) hx hb dX9_rate_45 hl (by decide) rfl (fun ls hl => ?_)
    refine lv_iload_n hx hb dX9_rate_47 rfl (lv_at hl 4 rfl) ?_
    by_cases c5 : x2 = (0 : Int32)
    · rw [if_pos c5] at h
      refine lv_tableIn (tgt := 76) (off := 28) hx hb dX9_rate_48 (by rw [c5]; decide) (by rw [c5]; decide) (by rw [c5]; decide) (by decide) ?_
      refine lv_aload_n hx hb dX9_rate_76 rfl (lv_at hl 2 rfl) ?_
      refine x_get C0 hP inu9 (k := 0) cx_0 (by decide) rfl 0 (by decide) q2_81 rfl (v := .ref (g.2.2.1 + 1)) rfl dX9_rate_77 ?_
      refine x_get C0 hP inu7 (k := 1) cx_1 (by decide) rfl 2 (by decide) q1_225 rfl (v := .ref (g.2.2.1 + 8)) rfl dX9_rate_80 ?_
      refine lv_iload hx hb dX9_rate_83 (lv_at hl 0 rfl) ?_
      refine lv_aload_n hx hb dX9_rate_85 rfl (lv_at hl 1 rfl) ?_
      refine lv_aload_n hx hb dX9_rate_86 rfl (lv_at hl 2 rfl) ?_
      refine x_get C0 hP inu9 (k := 0) cx_0 (by decide) rfl 0 (by decide) q2_81 rfl (v := .ref (g.2.2.1 + 1)) rfl dX9_rate_87 ?_
      refine x_get C0 hP inu7 (k := 1) cx_1 (by decide) rfl 8 (by decide) q1_237 rfl (v := .int (μ4 1 8)) rfl dX9_rate_90 ?_
      obtain ⟨r6, μ6, h1, h⟩ := ob2_some h
      refine x_callV C0 (rest := []) (q := (RX1, TX1, 6)) (c_X1_unitPrice l g r4 (24 + 2 * x1.toNatClampNeg) (met_i z3) (μ4 1 8) μ4 h1) q3_142 q3_139 q3_140 q3_141 q1_4 hd_X1_unitPrice ⟨rfl, rfl⟩ ⟨Nat.le_of_ble_eq_true rfl, Nat.le_of_ble_eq_true rfl⟩ cx_8 (by decide) rfl hP hS hl.1 rfl rfl (Nat.le_of_ble_eq_true rfl) dX9_rate_93 (fun H locs hP hS => ?_)
      refine W.eq (g2 := F0 m 96 ls [.int r6]) rfl ?_
      obtain ⟨rfl, rfl⟩ := some2 h
      exact x_iret C0 hP hS dX9_rate_96
    rw [if_neg c5] at h
    by_cases c7 : x2 = (1 : Int32)
    · rw [if_pos c7] at h
      refine lv_tableIn (tgt := 97) (off := 49) hx hb dX9_rate_48 (by rw [c7]; decide) (by rw [c7]; decide) (by rw [c7]; decide) (by decide) ?_
      refine lv_aload_n hx hb dX9_rate_97 rfl (lv_at hl 2 rfl) ?_
      refine x_get C0 hP inu9 (k := 0) cx_0 (by decide) rfl 0 (by decide) q2_81 rfl (v := .ref (g.2.2.1 + 1)) rfl dX9_rate_98 ?_
      refine x_get C0 hP inu7 (k := 1) cx_1 (by decide) rfl 2 (by decide) q1_225 rfl (v := .ref (g.2.2.1 + 8)) rfl dX9_rate_101 ?_
      refine lv_aload_n hx hb dX9_rate_104 rfl (lv_at hl 1 rfl) ?_
      refine lv_iload hx hb dX9_rate_105 (lv_at hl 0 rfl) ?_
      obtain ⟨r8, μ8, h1, h⟩ := ob2_some h
      refine x_callV C0 (rest := [.ref (g.2.2.1 + 8)]) (q := (RX2, TX2, 15)) (c_X2_loadedUnder l g (24 + 2 * x1.toNatClampNeg) (met_i z3) r4 μ4 h1) q2_159 q2_156 q2_157 q2_158 q1_7 hd_X2_loadedUnder ⟨rfl, rfl⟩ ⟨Nat.le_of_ble_eq_true rfl, Nat.le_of_ble_eq_true rfl⟩ (id2_0 (met_i z3)) (by decide) rfl hP hS hl.1 rfl rfl (Nat.le_of_ble_eq_true rfl) dX9_rate_107 (fun H locs hP hS => ?_)
      refine W.eq (g2 := F0 m 110 ls [.int r8, .ref (g.2.2.1 + 8)]) rfl ?_
      refine lv_aload_n hx hb dX9_rate_110 rfl (lv_at hl 1 rfl) ?_
      refine lv_aload_n hx hb dX9_rate_111 rfl (lv_at hl 2 rfl) ?_
      refine x_get C0 hP inu9 (k := 0) cx_0 (by decide) rfl 0 (by decide) q2_81 rfl (v := .ref (g.2.2.1 + 1)) rfl dX9_rate_112 ?_
      refine x_get C0 hP inu7 (k := 1) cx_1 (by decide) rfl 8 (by decide) q1_237 rfl (v := .int (μ8 1 8)) rfl dX9_rate_115 ?_
      obtain ⟨r9, μ9, h1, h⟩ := ob2_some h
      refine x_callV C0 (rest := []) (q := (RX1, TX1, 6)) (c_X1_unitPrice l g r8 (24 + 2 * x1.toNatClampNeg) (met_i z3) (μ8 1 8) μ8 h1) q3_142 q3_139 q3_140 q3_141 q1_4 hd_X1_unitPrice ⟨rfl, rfl⟩ ⟨Nat.le_of_ble_eq_true rfl, Nat.le_of_ble_eq_true rfl⟩ cx_8 (by decide) rfl hP hS hl.1 rfl rfl (Nat.le_of_ble_eq_true rfl) dX9_rate_118 (fun H locs hP hS => ?_)
      refine W.eq (g2 := F0 m 121 ls [.int r9]) rfl ?_
      obtain ⟨rfl, rfl⟩ := some2 h
      exact x_iret C0 hP hS dX9_rate_121
    rw [if_neg c7] at h
    by_cases c10 : x2 = (2 : Int32)
    · rw [if_pos c10] at h
      refine lv_tableIn (tgt := 122) (off := 74) hx hb dX9_rate_48 (by rw [c10]; decide) (by rw [c10]; decide) (by rw [c10]; decide) (by decide) ?_
      refine lv_aload_n hx hb dX9_rate_122 rfl (lv_at hl 2 rfl) ?_
      refine x_get C0 hP inu9 (k := 0) cx_0 (by decide) rfl 0 (by decide) q2_81 rfl (v := .ref (g.2.2.1 + 1)) rfl dX9_rate_123 ?_
      refine x_get C0 hP inu7 (k := 1) cx_1 (by decide) rfl 2 (by decide) q1_225 rfl (v := .ref (g.2.2.1 + 8)) rfl dX9_rate_126 ?_
      refine lv_aload_n hx hb dX9_rate_129 rfl (lv_at hl 1 rfl) ?_
      refine lv_aload_n hx hb dX9_rate_130 rfl (lv_at hl 2 rfl) ?_
      refine x_get C0 hP inu9 (k := 0) cx_0 (by decide) rfl 0 (by decide) q2_81 rfl (v := .ref (g.2.2.1 + 1)) rfl dX9_rate_131 ?_
      refine x_get C0 hP inu7 (k := 1) cx_1 (by decide) rfl 8 (by decide) q1_237 rfl (v := .int (μ4 1 8)) rfl dX9_rate_134 ?_
      obtain ⟨r11, μ11, h1, h⟩ := ob2_some h
      refine x_callV C0 (rest := []) (q := (RX1, TX1, 6)) (c_X1_standingOf l g (24 + 2 * x1.toNatClampNeg) (met_i z3) (μ4 1 8) μ4 h1) q3_146 q3_143 q3_144 q3_145 q1_4 hd_X1_standingOf ⟨rfl, rfl⟩ ⟨Nat.le_of_ble_eq_true rfl, Nat.le_of_ble_eq_true rfl⟩ cx_8 (by decide) rfl hP hS hl.1 rfl rfl (Nat.le_of_ble_eq_true rfl) dX9_rate_137 (fun H locs hP hS => ?_)
      refine W.eq (g2 := F0 m 140 ls [.int r11]) rfl ?_
      obtain ⟨rfl, rfl⟩ := some2 h
      exact x_iret C0 hP hS dX9_rate_140
    rw [if_neg c10] at h
    have i5 : ¬ x2.toInt = 0 := fun q => c5 (Int32.toInt_inj.mp (q.trans (by decide)))
    have i7 : ¬ x2.toInt = 1 := fun q => c7 (Int32.toInt_inj.mp (q.trans (by decide)))
    have i10 : ¬ x2.toInt = 2 := fun q => c10 (Int32.toInt_inj.mp (q.trans (by decide)))
    refine lv_tableOut (tgt := 141) hx hb dX9_rate_48 (by omega) (by decide) ?_
    refine lv_aload_n hx hb dX9_rate_141 rfl (lv_at hl 2 rfl) ?_
    refine lv_iconst (v := (1 : Int32)) hx hb dX9_rate_142 rfl ?_
    obtain ⟨r12, μ12, h1, h⟩ := ob2_some h
    refine x_callV C0 (rest := []) (q := (RX9, TX9, 9)) (c_X9_finding l g (1 : Int32) μ4 h1) q2_122 q2_119 q2_121 r1_0 q1_1 hd_X9_finding ⟨rfl, rfl⟩ ⟨Nat.le_of_ble_eq_true rfl, Nat.le_of_ble_eq_true rfl⟩ cx_0 (by decide) rfl hP hS hl.1 rfl rfl (Nat.le_of_ble_eq_true rfl) dX9_rate_143 (fun H locs hP hS => ?_)
    refine W.eq (g2 := F0 m 146 ls [.int r12]) rfl ?_
    obtain ⟨rfl, rfl⟩ := some2 h
    exact x_iret C0 hP hS dX9_rate_146
  · rw [if_pos c2] at h
    refine lv_aload_n hx hb dX9_rate_11 rfl (lv_at hl 0 rfl) ?_
    refine lv_iconst (v := (1 : Int32)) hx hb dX9_rate_12 rfl ?_
    obtain ⟨r13, μ13, h1, h⟩ := ob2_some h
    refine x_callV C0 (rest := []) (q := (RX9, TX9, 9)) (c_X9_finding l g (1 : Int32) μ1 h1) q2_122 q2_119 q2_121 r1_0 q1_1 hd_X9_finding ⟨rfl, rfl⟩ ⟨Nat.le_of_ble_eq_true rfl, Nat.le_of_ble_eq_true rfl⟩ cx_0 (by decide) rfl hP hS hl.1 rfl rfl (Nat.le_of_ble_eq_true rfl) dX9_rate_13 (fun H locs hP hS => ?_)
    refine W.eq (g2 := F0 m 16 ls [.int r13]) rfl ?_
    obtain ⟨rfl, rfl⟩ := some2 h
    exact x_iret C0 hP hS dX9_rate_16
def X9_go_27   (μ : Mem) : Option (Int32 × Mem) :=
  ob2 (X9_finding (1 : Int32) μ) fun r2 μ2 => some (r2, μ2)
set_option maxRecDepth 100000 in
set_option maxHeartbeats 4000000 in
theorem w_X9_go_27 {g : Gx} {p : Program} {l : Launch} {e : Env} {s : State} {m : MethodId} {args : Array Value} {below : List Frame} {meth : Method} {c : Code} (C0 : Cx Lx g p s m args meth c cX9_go 4 (some .int) RX9) {r : Int32} {ν : Mem}   (μ : Mem) (H : Heap) (locs : List Loc) (ls : Array Slot) (hP : Px Lx g μ H) (hS : va_S (Ax Lx g) s.heap H locs) (hl : lv_has ls 4 [(0, .ref (g.2.2.1 + 0))]) (h : X9_go_27   μ = some (r, ν)) : W p l e { frames := 6, cells := 0, slots := 0, locals := 147 } s m args below meth c H locs 0 0 (MQ below (Qx Lx g (some (.int r)) ν) args s 0 0 (Ax Lx g)) (F0 m 27 ls []) := by
  obtain ⟨hx, hb, hr, hml, hown, hts, hlocks, hK⟩ := id C0
  unfold X9_go_27 at h
  refine lv_aload_n hx hb dX9_go_27 rfl (lv_at hl 0 rfl) ?_
  refine lv_iconst (v := (1 : Int32)) hx hb dX9_go_28 rfl ?_
  obtain ⟨r2, μ2, h1, h⟩ := ob2_some h
  refine x_callV C0 (rest := []) (q := (RX9, TX9, 9)) (c_X9_finding l g (1 : Int32) μ h1) q2_122 q2_119 q2_121 r1_0 q1_1 hd_X9_finding ⟨rfl, rfl⟩ ⟨Nat.le_of_ble_eq_true rfl, Nat.le_of_ble_eq_true rfl⟩ cx_0 (by decide) rfl hP hS hl.1 rfl rfl (Nat.le_of_ble_eq_true rfl) dX9_go_29 (fun H locs hP hS => ?_)
  refine W.eq (g2 := F0 m 32 ls [.int r2]) rfl ?_
  obtain ⟨rfl, rfl⟩ := some2 h
  exact x_iret C0 hP hS dX9_go_32
def X9_go_37  : Nat → Int32 → Int32 → Int32 → Mem → Option (Int32 × Mem)
  | 0, _, _, _, _ => none
  | n + 1, x1, x2, x3, μ => (if x1 ≤ x3 then some (x2, μ) else ob2 (X7_endHourForAll  μ) fun r6 μ6 => (X9_go_37 n) x1 (x2 + r6) (x3 + (1 : Int32)) μ6)
set_option maxRecDepth 100000 in
set_option maxHeartbeats 4000000 in
theorem w_X9_go_37 {g : Gx} {p : Program} {l : Launch} {e : Env} {s : State} {m : MethodId} {args : Array Value} {below : List Frame} {meth : Method} {c : Code} (C0 : Cx Lx g p s m args meth c cX9_go 4 (some .int) RX9) {r : Int32} {ν : Mem}  (n : Nat) : ∀ (x1 : Int32) (x2 : Int32) (x3 : Int32) (μ : Mem) (H : Heap) (locs : List Loc) (ls : Array Slot), Px Lx g μ H → va_S (Ax Lx g) s.heap H locs → lv_has ls 4 [(0, .ref (g.2.2.1 + 0)), (1, .int x1), (2, .int x2), (3, .int x3)] → X9_go_37  n x1 x2 x3 μ = some (r, ν) → W p l e { frames := 6, cells := 0, slots := 0, locals := 147 } s m args below meth c H locs 0 0 (MQ below (Qx Lx g (some (.int r)) ν) args s 0 0 (Ax Lx g)) (F0 m 37 ls []) := by
  obtain ⟨hx, hb, hr, hml, hown, hts, hlocks, hK⟩ := id C0
  induction n with
  | zero =>
    intro x1 x2 x3 μ H locs ls hP hS hl h
    have h : (none : Option (Int32 × Mem)) = some (r, ν) := h
    cases h
  | succ n ih =>
    intro x1 x2 x3 μ H locs ls hP hS hl h
    rw [X9_go_37.eq_2] at h
    refine lv_iload_n hx hb dX9_go_37 rfl (lv_at hl 3 rfl) ?_
    refine lv_iload_n hx hb dX9_go_38 rfl (lv_at hl 1 rfl) ?_
    refine lv_icmp_ge (tgt := 58) hx hb dX9_go_39 (by decide) (fun c5 => ?_) (fun c5 => ?_)
    · rw [if_pos c5] at h
      refine lv_iload_n hx hb dX9_go_58 rfl (lv_at hl 2 rfl) ?_
      obtain ⟨rfl, rfl⟩ := some2 h
      exact x_iret C0 hP hS dX9_go_59
    · rw [if_neg c5] at h
      refine lv_iload_n hx hb dX9_go_42 rfl (lv_at hl 2 rfl) ?_
      refine lv_aload_n hx hb dX9_go_43 rfl (lv_at hl 0 rfl) ?_
      refine x_get C0 hP inu9 (k := 0) cx_0 (by decide) rfl 0 (by decide) q2_81 rfl (v := .ref (g.2.2.1 + 1)) rfl dX9_go_44 ?_
      obtain ⟨r6, μ6, h1, h⟩ := ob2_some h
      refine x_callV C0 (rest := [.int x2]) (q := (RX7, TX7, 9)) (c_X7_endHourForAll l g μ h1) q3_154 q3_151 q3_152 q3_153 q1_2 hd_X7_endHourForAll ⟨rfl, rfl⟩ ⟨Nat.le_of_ble_eq_true rfl, Nat.le_of_ble_eq_true rfl⟩ cx_1 (by decide) rfl hP hS hl.1 rfl rfl (Nat.le_of_ble_eq_true rfl) dX9_go_47 (fun H locs hP hS => ?_)
      refine W.eq (g2 := F0 m 50 ls [.int r6, .int x2]) rfl ?_
      refine lv_iadd hx hb dX9_go_50 ?_
      refine lv_istore_n (lv' := [(2, .int (x2 + r6)), (0, .ref (g.2.2.1 + 0)), (1, .int x1), (3, .int x3)]) hx hb dX9_go_51 rfl hl (by decide) rfl (fun ls hl => ?_)
      refine lv_iinc (v := (x3 + (1 : Int32))) (lv' := [(3, .int (x3 + (1 : Int32))), (2, .int (x2 + r6)), (0, .ref (g.2.2.1 + 0)), (1, .int x1)]) hx hb dX9_go_52 hl (k := 3) rfl rfl (by decide) rfl (fun ls hl => ?_)
      refine lv_goto (tgt := 37) hx hb dX9_go_55 (by decide) ?_
      exact ih x1 (x2 + r6) (x3 + (1 : Int32)) μ6 _ _ _ hP hS (lv_sub hl [2, 3, 1, 0] rfl) h
def X9_go (x1 : Int32) (μ : Mem) : Option (Int32 × Mem) :=
  (if x1 < (1 : Int32) then X9_go_27 μ else (if (240 : Int32) < x1 then X9_go_27 μ else (if ((μ 1 8) + x1) ≤ (9000 : Int32) then X9_go_37 FU x1 (0 : Int32) (0 : Int32) μ else X9_go_27 μ)))
set_option maxRecDepth 100000 in
set_option maxHeartbeats 4000000 in
theorem c_X9_go (l : Launch) (g : Gx) (x1 : Int32) (μ : Mem) {r : Int32} {ν : Mem} (h : X9_go x1 μ = some (r, ν)) : Ct Lx g l yX9_go cX9_go 4 (some .int) { frames := 6, cells := 0, slots := 0, locals := 147 } [.ref (g.2.2.1 + 0), .int x1] μ (some (.int r)) ν := by
  refine x_met (lv := [(0, .ref (g.2.2.1 + 0)), (1, .int x1)]) rfl (Nat.le_of_ble_eq_true rfl) rfl ?_
  intro p e s m below meth c C0 hP ls hl
  generalize ([.ref (g.2.2.1 + 0), .int x1] : List Value).toArray = args at C0 ⊢
  have C0 : Cx Lx g p s m args meth c cX9_go 4 (some .int) RX9 := C0
  have hS : va_S (Ax Lx g) s.heap s.heap [] := va_S.rf
  obtain ⟨hx, hb, hr, hml, hown, hts, hlocks, hK⟩ := id C0
  unfold X9_go at h
  skip
  refine lv_iload_n hx hb dX9_go_0 rfl (lv_at hl 1 rfl) ?_
  refine lv_iconst (v := (1 : Int32)) hx hb dX9_go_1 rfl ?_
  refine lv_icmp_lt (tgt := 27) hx hb dX9_go_2 (by decide) (fun c1 => ?_) (fun c1 => ?_)
  · rw [if_pos c1] at h
    exact w_X9_go_27 C0   μ _ _ _ hP hS (lv_sub hl [0] rfl) h
  · rw [if_neg c1] at h
    refine lv_iload_n hx hb dX9_go_5 rfl (lv_at hl 1 rfl) ?_
    refine lv_sipush (v := (240 : Int32)) hx hb dX9_go_6 (by decide +kernel) ?_
    refine lv_icmp_gt (tgt := 27) hx hb dX9_go_9 (by decide) (fun c3 => ?_) (fun c3 => ?_)
    · rw [if_pos c3] at h
      exact w_X9_go_27 C0   μ _ _ _ hP hS (lv_sub hl [0] rfl) h
    · rw [if_neg c3] at h
      refine lv_aload_n hx hb dX9_go_12 rfl (lv_at hl 0 rfl) ?_
      refine x_get C0 hP inu9 (k := 0) cx_0 (by decide) rfl 0 (by decide) q2_81 rfl (v := .ref (g.2.2.1 + 1)) rfl dX9_go_13 ?_
      refine x_get C0 hP inu7 (k := 1) cx_1 (by decide) rfl 8 (by decide) q1_237 rfl (v := .int (μ 1 8)) rfl dX9_go_16 ?_
      refine lv_iload_n hx hb dX9_go_19 rfl (lv_at hl 1 rfl) ?_
      refine lv_iadd hx hb dX9_go_20 ?_
      refine lv_sipush (v := (9000 : Int32)) hx hb dX9_go_21 (by decide +kernel) ?_
      refine lv_icmp_le (tgt := 33) hx hb dX9_go_24 (by decide) (fun c4 => ?_) (fun c4 => ?_)
      · rw [if_pos c4] at h
        refine lv_iconst (v := (0 : Int32)) hx hb dX9_go_33 rfl ?_
        refine lv_istore_n (lv' := [(2, .int (0 : Int32)), (0, .ref (g.2.2.1 + 0)), (1, .int x1)]) hx hb dX9_go_34 rfl hl (by decide) rfl (fun ls hl => ?_)
        refine lv_iconst (v := (0 : Int32)) hx hb dX9_go_35 rfl ?_
        refine lv_istore_n (lv' := [(3, .int (0 : Int32)), (2, .int (0 : Int32)), (0, .ref (g.2.2.1 + 0)), (1, .int x1)]) hx hb dX9_go_36 rfl hl (by decide) rfl (fun ls hl => ?_)
        exact w_X9_go_37 C0  FU x1 (0 : Int32) (0 : Int32) μ _ _ _ hP hS (lv_sub hl [2, 3, 1, 0] rfl) h
      · rw [if_neg c4] at h
        exact w_X9_go_27 C0   μ _ _ _ hP hS (lv_sub hl [0] rfl) h
def X9_read_26   (μ : Mem) : Option (Int32 × Mem) :=
  ob2 (X9_finding (1 : Int32) μ) fun r3 μ3 => some (r3, μ3)
set_option maxRecDepth 100000 in
set_option maxHeartbeats 4000000 in
theorem w_X9_read_26 {g : Gx} {p : Program} {l : Launch} {e : Env} {s : State} {m : MethodId} {args : Array Value} {below : List Frame} {meth : Method} {c : Code} (C0 : Cx Lx g p s m args meth c cX9_read 4 (some .int) RX9) {r : Int32} {ν : Mem}   (μ : Mem) (H : Heap) (locs : List Loc) (ls : Array Slot) (hP : Px Lx g μ H) (hS : va_S (Ax Lx g) s.heap H locs) (hl : lv_has ls 4 [(0, .ref (g.2.2.1 + 0))]) (h : X9_read_26   μ = some (r, ν)) : W p l e { frames := 1, cells := 0, slots := 0, locals := 24 } s m args below meth c H locs 0 0 (MQ below (Qx Lx g (some (.int r)) ν) args s 0 0 (Ax Lx g)) (F0 m 26 ls []) := by
  obtain ⟨hx, hb, hr, hml, hown, hts, hlocks, hK⟩ := id C0
  unfold X9_read_26 at h
  refine lv_aload_n hx hb dX9_read_26 rfl (lv_at hl 0 rfl) ?_
  refine lv_iconst (v := (1 : Int32)) hx hb dX9_read_27 rfl ?_
  obtain ⟨r3, μ3, h1, h⟩ := ob2_some h
  refine x_callV C0 (rest := []) (q := (RX9, TX9, 9)) (c_X9_finding l g (1 : Int32) μ h1) q2_122 q2_119 q2_121 r1_0 q1_1 hd_X9_finding ⟨rfl, rfl⟩ ⟨Nat.le_of_ble_eq_true rfl, Nat.le_of_ble_eq_true rfl⟩ cx_0 (by decide) rfl hP hS hl.1 rfl rfl (Nat.le_of_ble_eq_true rfl) dX9_read_28 (fun H locs hP hS => ?_)
  refine W.eq (g2 := F0 m 31 ls [.int r3]) rfl ?_
  obtain ⟨rfl, rfl⟩ := some2 h
  exact x_iret C0 hP hS dX9_read_31
def X9_read_46   (μ : Mem) : Option (Int32 × Mem) :=
  ob2 (X9_finding (1 : Int32) μ) fun r7 μ7 => some (r7, μ7)
set_option maxRecDepth 100000 in
set_option maxHeartbeats 4000000 in
theorem w_X9_read_46 {g : Gx} {p : Program} {l : Launch} {e : Env} {s : State} {m : MethodId} {args : Array Value} {below : List Frame} {meth : Method} {c : Code} (C0 : Cx Lx g p s m args meth c cX9_read 4 (some .int) RX9) {r : Int32} {ν : Mem}   (μ : Mem) (H : Heap) (locs : List Loc) (ls : Array Slot) (hP : Px Lx g μ H) (hS : va_S (Ax Lx g) s.heap H locs) (hl : lv_has ls 4 [(0, .ref (g.2.2.1 + 0))]) (h : X9_read_46   μ = some (r, ν)) : W p l e { frames := 1, cells := 0, slots := 0, locals := 24 } s m args below meth c H locs 0 0 (MQ below (Qx Lx g (some (.int r)) ν) args s 0 0 (Ax Lx g)) (F0 m 46 ls []) := by
  obtain ⟨hx, hb, hr, hml, hown, hts, hlocks, hK⟩ := id C0
  unfold X9_read_46 at h
  refine lv_aload_n hx hb dX9_read_46 rfl (lv_at hl 0 rfl) ?_
  refine lv_iconst (v := (1 : Int32)) hx hb dX9_read_47 rfl ?_
  obtain ⟨r7, μ7, h1, h⟩ := ob2_some h
  refine x_callV C0 (rest := []) (q := (RX9, TX9, 9)) (c_X9_finding l g (1 : Int32) μ h1) q2_122 q2_119 q2_121 r1_0 q1_1 hd_X9_finding ⟨rfl, rfl⟩ ⟨Nat.le_of_ble_eq_true rfl, Nat.le_of_ble_eq_true rfl⟩ cx_0 (by decide) rfl hP hS hl.1 rfl rfl (Nat.le_of_ble_eq_true rfl) dX9_read_48 (fun H locs hP hS => ?_)
  refine W.eq (g2 := F0 m 51 ls [.int r7]) rfl ?_
  obtain ⟨rfl, rfl⟩ := some2 h
  exact x_iret C0 hP hS dX9_read_51
def X9_read (x1 : Int32) (x2 : Int32) (x3 : Int32) (μ : Mem) : Option (Int32 × Mem) :=
  ob2 (X7_hasMeter x1 μ) fun r1 μ1 => (if r1 = (0 : Int32) then X9_read_26 μ1 else (if x2 < (0 : Int32) then X9_read_26 μ1 else (if x2 ≤ (μ1 1 8) then (if x3 < (-9999 : Int32) then X9_read_46 μ1 else (if x3 ≤ (9999 : Int32) then (if (μ1 14 4) < (40 : Int32) then ob2 (X3_add x1 x2 x3 (μ1 1 8) μ1) fun r10 μ10 => some (r10, μ10) else ob2 (X9_finding (4 : Int32) μ1) fun r11 μ11 => some (r11, μ11)) else X9_read_46 μ1)) else X9_read_26 μ1)))
set_option maxRecDepth 100000 in
set_option maxHeartbeats 4000000 in
theorem c_X9_read (l : Launch) (g : Gx) (x1 : Int32) (x2 : Int32) (x3 : Int32) (μ : Mem) {r : Int32} {ν : Mem} (h : X9_read x1 x2 x3 μ = some (r, ν)) : Ct Lx g l yX9_read cX9_read 4 (some .int) { frames := 1, cells := 0, slots := 0, locals := 24 } [.ref (g.2.2.1 + 0), .int x1, .int x2, .int x3] μ (some (.int r)) ν := by
  refine x_met (lv := [(0, .ref (g.2.2.1 + 0)), (1, .int x1), (2, .int x2), (3, .int x3)]) rfl (Nat.le_of_ble_eq_true rfl) rfl ?_
  intro p e s m below meth c C0 hP ls hl
  generalize ([.ref (g.2.2.1 + 0), .int x1, .int x2, .int x3] : List Value).toArray = args at C0 ⊢
  have C0 : Cx Lx g p s m args meth c cX9_read 4 (some .int) RX9 := C0
  have hS : va_S (Ax Lx g) s.heap s.heap [] := va_S.rf
  obtain ⟨hx, hb, hr, hml, hown, hts, hlocks, hK⟩ := id C0
  unfold X9_read at h
  skip
  refine lv_aload_n hx hb dX9_read_0 rfl (lv_at hl 0 rfl) ?_
  refine x_get C0 hP inu9 (k := 0) cx_0 (by decide) rfl 0 (by decide) q2_81 rfl (v := .ref (g.2.2.1 + 1)) rfl dX9_read_1 ?_
  refine lv_iload_n hx hb dX9_read_4 rfl (lv_at hl 1 rfl) ?_
  obtain ⟨r1, μ1, h1, h⟩ := ob2_some h
  refine x_callV C0 (rest := []) (q := (RX7, TX7, 9)) (c_X7_hasMeter l g x1 μ h1) q2_143 q2_140 q2_141 q2_142 q1_2 hd_X7_hasMeter ⟨rfl, rfl⟩ ⟨Nat.le_of_ble_eq_true rfl, Nat.le_of_ble_eq_true rfl⟩ cx_1 (by decide) rfl hP hS hl.1 rfl rfl (Nat.le_of_ble_eq_true rfl) dX9_read_5 (fun H locs hP hS => ?_)
  refine W.eq (g2 := F0 m 8 ls [.int r1]) rfl ?_
  refine lv_if_eq (tgt := 26) hx hb dX9_read_8 (by decide) (fun c2 => ?_) (fun c2 => ?_)
  · rw [if_pos c2] at h
    exact w_X9_read_26 C0   μ1 _ _ _ hP hS (lv_sub hl [0] rfl) h
  · rw [if_neg c2] at h
    refine lv_iload_n hx hb dX9_read_11 rfl (lv_at hl 2 rfl) ?_
    refine lv_if_lt (tgt := 26) hx hb dX9_read_12 (by decide) (fun c4 => ?_) (fun c4 => ?_)
    · rw [if_pos c4] at h
      exact w_X9_read_26 C0   μ1 _ _ _ hP hS (lv_sub hl [0] rfl) h
    · rw [if_neg c4] at h
      refine lv_iload_n hx hb dX9_read_15 rfl (lv_at hl 2 rfl) ?_
      refine lv_aload_n hx hb dX9_read_16 rfl (lv_at hl 0 rfl) ?_
      refine x_get C0 hP inu9 (k := 0) cx_0 (by decide) rfl 0 (by decide) q2_81 rfl (v := .ref (g.2.2.1 + 1)) rfl dX9_read_17 ?_
      refine x_get C0 hP inu7 (k := 1) cx_1 (by decide) rfl 8 (by decide) q1_237 rfl (v := .int (μ1 1 8)) rfl dX9_read_20 ?_
      refine lv_icmp_le (tgt := 32) hx hb dX9_read_23 (by decide) (fun c5 => ?_) (fun c5 => ?_)
      · rw [if_pos c5] at h
        refine lv_iload_n hx hb dX9_read_32 rfl (lv_at hl 3 rfl) ?_
        refine lv_sipush (v := (-9999 : Int32)) hx hb dX9_read_33 (by decide +kernel) ?_
        refine lv_icmp_lt (tgt := 46) hx hb dX9_read_36 (by decide) (fun c6 => ?_) (fun c6 => ?_)
        · rw [if_pos c6] at h
          exact w_X9_read_46 C0   μ1 _ _ _ hP hS (lv_sub hl [0] rfl) h
        · rw [if_neg c6] at h
          refine lv_iload_n hx hb dX9_read_39 rfl (lv_at hl 3 rfl) ?_
          refine lv_sipush (v := (9999 : Int32)) hx hb dX9_read_40 (by decide +kernel) ?_
          refine lv_icmp_le (tgt := 52) hx hb dX9_read_43 (by decide) (fun c8 => ?_) (fun c8 => ?_)
          · rw [if_pos c8] at h
            refine lv_aload_n hx hb dX9_read_52 rfl (lv_at hl 0 rfl) ?_
            refine x_get C0 hP inu9 (k := 0) cx_0 (by decide) rfl 0 (by decide) q2_81 rfl (v := .ref (g.2.2.1 + 1)) rfl dX9_read_53 ?_
            refine x_get C0 hP inu7 (k := 1) cx_1 (by decide) rfl 3 (by decide) q1_227 rfl (v := .ref (g.2.2.1 + 14)) rfl dX9_read_56 ?_
            refine x_get C0 hP inu3 (k := 14) cx_14 (by decide) rfl 4 (by decide) q1_94 rfl (v := .int (μ1 14 4)) rfl dX9_read_59 ?_
            refine lv_bipush (v := (40 : Int32)) hx hb dX9_read_62 (by decide +kernel) ?_
            refine lv_icmp_lt (tgt := 73) hx hb dX9_read_64 (by decide) (fun c9 => ?_) (fun c9 => ?_)
            · rw [if_pos c9] at h
              refine lv_aload_n hx hb dX9_read_73 rfl (lv_at hl 0 rfl) ?_
              refine x_get C0 hP inu9 (k := 0) cx_0 (by decide) rfl 0 (by decide) q2_81 rfl (v := .ref (g.2.2.1 + 1)) rfl dX9_read_74 ?_
              refine x_get C0 hP inu7 (k := 1) cx_1 (by decide) rfl 3 (by decide) q1_227 rfl (v := .ref (g.2.2.1 + 14)) rfl dX9_read_77 ?_
              refine lv_iload_n hx hb dX9_read_80 rfl (lv_at hl 1 rfl) ?_
              refine lv_iload_n hx hb dX9_read_81 rfl (lv_at hl 2 rfl) ?_
              refine lv_iload_n hx hb dX9_read_82 rfl (lv_at hl 3 rfl) ?_
              refine lv_aload_n hx hb dX9_read_83 rfl (lv_at hl 0 rfl) ?_
              refine x_get C0 hP inu9 (k := 0) cx_0 (by decide) rfl 0 (by decide) q2_81 rfl (v := .ref (g.2.2.1 + 1)) rfl dX9_read_84 ?_
              refine x_get C0 hP inu7 (k := 1) cx_1 (by decide) rfl 8 (by decide) q1_237 rfl (v := .int (μ1 1 8)) rfl dX9_read_87 ?_
              obtain ⟨r10, μ10, h1, h⟩ := ob2_some h
              refine x_callV C0 (rest := []) (q := (RX3, TX3, 5)) (c_X3_add l g x1 x2 x3 (μ1 1 8) μ1 h1) q3_182 q3_179 q3_180 q3_181 q1_5 hd_X3_add ⟨rfl, rfl⟩ ⟨Nat.le_of_ble_eq_true rfl, Nat.le_of_ble_eq_true rfl⟩ cx_14 (by decide) rfl hP hS hl.1 rfl rfl (Nat.le_of_ble_eq_true rfl) dX9_read_90 (fun H locs hP hS => ?_)
              refine W.eq (g2 := F0 m 93 ls [.int r10]) rfl ?_
              obtain ⟨rfl, rfl⟩ := some2 h
              exact x_iret C0 hP hS dX9_read_93
            · rw [if_neg c9] at h
              refine lv_aload_n hx hb dX9_read_67 rfl (lv_at hl 0 rfl) ?_
              refine lv_iconst (v := (4 : Int32)) hx hb dX9_read_68 rfl ?_
              obtain ⟨r11, μ11, h1, h⟩ := ob2_some h
              refine x_callV C0 (rest := []) (q := (RX9, TX9, 9)) (c_X9_finding l g (4 : Int32) μ1 h1) q2_122 q2_119 q2_121 r1_0 q1_1 hd_X9_finding ⟨rfl, rfl⟩ ⟨Nat.le_of_ble_eq_true rfl, Nat.le_of_ble_eq_true rfl⟩ cx_0 (by decide) rfl hP hS hl.1 rfl rfl (Nat.le_of_ble_eq_true rfl) dX9_read_69 (fun H locs hP hS => ?_)
              refine W.eq (g2 := F0 m 72 ls [.int r11]) rfl ?_
              obtain ⟨rfl, rfl⟩ := some2 h
              exact x_iret C0 hP hS dX9_read_72
          · rw [if_neg c8] at h
            exact w_X9_read_46 C0   μ1 _ _ _ hP hS (lv_sub hl [0] rfl) h
      · rw [if_neg c5] at h
        exact w_X9_read_26 C0   μ1 _ _ _ hP hS (lv_sub hl [0] rfl) h
def X9_dark_37   (μ : Mem) : Option (Int32 × Mem) :=
  ob2 (X9_finding (1 : Int32) μ) fun r3 μ3 => some (r3, μ3)
set_option maxRecDepth 100000 in
set_option maxHeartbeats 4000000 in
theorem w_X9_dark_37 {g : Gx} {p : Program} {l : Launch} {e : Env} {s : State} {m : MethodId} {args : Array Value} {below : List Frame} {meth : Method} {c : Code} (C0 : Cx Lx g p s m args meth c cX9_dark 11 (some .int) RX9) {r : Int32} {ν : Mem}   (μ : Mem) (H : Heap) (locs : List Loc) (ls : Array Slot) (hP : Px Lx g μ H) (hS : va_S (Ax Lx g) s.heap H locs) (hl : lv_has ls 11 [(0, .ref (g.2.2.1 + 0))]) (h : X9_dark_37   μ = some (r, ν)) : W p l e { frames := 1, cells := 0, slots := 0, locals := 26 } s m args below meth c H locs 0 0 (MQ below (Qx Lx g (some (.int r)) ν) args s 0 0 (Ax Lx g)) (F0 m 37 ls []) := by
  obtain ⟨hx, hb, hr, hml, hown, hts, hlocks, hK⟩ := id C0
  unfold X9_dark_37 at h
  refine lv_aload_n hx hb dX9_dark_37 rfl (lv_at hl 0 rfl) ?_
  refine lv_iconst (v := (1 : Int32)) hx hb dX9_dark_38 rfl ?_
  obtain ⟨r3, μ3, h1, h⟩ := ob2_some h
  refine x_callV C0 (rest := []) (q := (RX9, TX9, 9)) (c_X9_finding l g (1 : Int32) μ h1) q2_122 q2_119 q2_121 r1_0 q1_1 hd_X9_finding ⟨rfl, rfl⟩ ⟨Nat.le_of_ble_eq_true rfl, Nat.le_of_ble_eq_true rfl⟩ cx_0 (by decide) rfl hP hS hl.1 rfl rfl (Nat.le_of_ble_eq_true rfl) dX9_dark_39 (fun H locs hP hS => ?_)
  refine W.eq (g2 := F0 m 42 ls [.int r3]) rfl ?_
  obtain ⟨rfl, rfl⟩ := some2 h
  exact x_iret C0 hP hS dX9_dark_42
def X9_dark (x1 : Int32) (x2 : Int32) (x3 : Int32) (x4 : Int32) (μ : Mem) : Option (Int32 × Mem) :=
  ob2 (X7_hasMeter x1 μ) fun r1 μ1 => (if r1 = (0 : Int32) then X9_dark_37 μ1 else ob2 (X9_isHour x2 μ1) fun r4 μ4 => (if r4 = (0 : Int32) then X9_dark_37 μ4 else ob2 (X9_isHour x3 μ4) fun r6 μ6 => (if r6 = (0 : Int32) then X9_dark_37 μ6 else (if x4 < (0 : Int32) then X9_dark_37 μ6 else (if x4 ≤ (999999 : Int32) then (if (x4 / (1000 : Int32)) ≤ (x4 - x4 / (1000 : Int32) * (1000 : Int32)) then ob2 (X3_latest x1 x2 x3 μ6) fun r11 μ11 => ob2 (X3_has r11 μ11) fun r12 μ12 => (if r12 = (0 : Int32) then ob2 (X9_finding (2 : Int32) μ12) fun r19 μ19 => some (r19, μ19) else gd (inB r11 40) (gd (inB r11 40) (ob2 (X6_restBetween x1 (μ12 16 r11.toNatClampNeg) x2 μ12) fun r16 μ16 => (if (0 : Int32) ≤ (((μ12 17 r11.toNatClampNeg) + r16) - ((x4 / (1000 : Int32)) * (x2 - (μ12 16 r11.toNatClampNeg)))) then (if (0 : Int32) ≤ (((μ12 17 r11.toNatClampNeg) + r16) - ((x4 - x4 / (1000 : Int32) * (1000 : Int32)) * (x2 - (μ12 16 r11.toNatClampNeg)))) then some ((0 : Int32), μ16) else some ((1 : Int32), μ16)) else some ((2 : Int32), μ16))))) else ob2 (X9_finding (1 : Int32) μ6) fun r20 μ20 => some (r20, μ20)) else X9_dark_37 μ6)))))
set_option maxRecDepth 100000 in
set_option maxHeartbeats 4000000 in
theorem c_X9_dark (l : Launch) (g : Gx) (x1 : Int32) (x2 : Int32) (x3 : Int32) (x4 : Int32) (μ : Mem) {r : Int32} {ν : Mem} (h : X9_dark x1 x2 x3 x4 μ = some (r, ν)) : Ct Lx g l yX9_dark cX9_dark 11 (some .int) { frames := 1, cells := 0, slots := 0, locals := 26 } [.ref (g.2.2.1 + 0), .int x1, .int x2, .int x3, .int x4] μ (some (.int r)) ν := by
  refine x_met (lv := [(0, .ref (g.2.2.1 + 0)), (1, .int x1), (2, .int x2), (3, .int x3), (4, .int x4)]) rfl (Nat.le_of_ble_eq_true rfl) rfl ?_
  intro p e s m below meth c C0 hP ls hl
  generalize ([.ref (g.2.2.1 + 0), .int x1, .int x2, .int x3, .int x4] : List Value).toArray = args at C0 ⊢
  have C0 : Cx Lx g p s m args meth c cX9_dark 11 (some .int) RX9 := C0
  have hS : va_S (Ax Lx g) s.heap s.heap [] := va_S.rf
  obtain ⟨hx, hb, hr, hml, hown, hts, hlocks, hK⟩ := id C0
  unfold X9_dark at h
  skip
  refine lv_aload_n hx hb dX9_dark_0 rfl (lv_at hl 0 rfl) ?_
  refine x_get C0 hP inu9 (k := 0) cx_0 (by decide) rfl 0 (by decide) q2_81 rfl (v := .ref (g.2.2.1 + 1)) rfl dX9_dark_1 ?_
  refine lv_iload_n hx hb dX9_dark_4 rfl (lv_at hl 1 rfl) ?_
  obtain ⟨r1, μ1, h1, h⟩ := ob2_some h
  refine x_callV C0 (rest := []) (q := (RX7, TX7, 9)) (c_X7_hasMeter l g x1 μ h1) q2_143 q2_140 q2_141 q2_142 q1_2 hd_X7_hasMeter ⟨rfl, rfl⟩ ⟨Nat.le_of_ble_eq_true rfl, Nat.le_of_ble_eq_true rfl⟩ cx_1 (by decide) rfl hP hS hl.1 rfl rfl (Nat.le_of_ble_eq_true rfl) dX9_dark_5 (fun H locs hP hS => ?_)
  refine W.eq (g2 := F0 m 8 ls [.int r1]) rfl ?_
  refine lv_if_eq (tgt := 37) hx hb dX9_dark_8 (by decide) (fun c2 => ?_) (fun c2 => ?_)
  · rw [if_pos c2] at h
    exact w_X9_dark_37 C0   μ1 _ _ _ hP hS (lv_sub hl [0] rfl) h
  · rw [if_neg c2] at h
    refine lv_iload_n hx hb dX9_dark_11 rfl (lv_at hl 2 rfl) ?_
    obtain ⟨r4, μ4, h1, h⟩ := ob2_some h
    refine x_callS C0 (rest := []) (c_X9_isHour l g x2 μ1 h1) q3_63 q3_61 q3_62 q1_1 hd_X9_isHour ⟨rfl, rfl⟩ ⟨Nat.le_of_ble_eq_true rfl, Nat.le_of_ble_eq_true rfl⟩ hP hS hl.1 rfl rfl (Nat.le_of_ble_eq_true rfl) dX9_dark_12 (fun H locs hP hS => ?_)
    refine W.eq (g2 := F0 m 15 ls [.int r4]) rfl ?_
    refine lv_if_eq (tgt := 37) hx hb dX9_dark_15 (by decide) (fun c5 => ?_) (fun c5 => ?_)
    · rw [if_pos c5] at h
      exact w_X9_dark_37 C0   μ4 _ _ _ hP hS (lv_sub hl [0] rfl) h
    · rw [if_neg c5] at h
      refine lv_iload_n hx hb dX9_dark_18 rfl (lv_at hl 3 rfl) ?_
      obtain ⟨r6, μ6, h1, h⟩ := ob2_some h
      refine x_callS C0 (rest := []) (c_X9_isHour l g x3 μ4 h1) q3_63 q3_61 q3_62 q1_1 hd_X9_isHour ⟨rfl, rfl⟩ ⟨Nat.le_of_ble_eq_true rfl, Nat.le_of_ble_eq_true rfl⟩ hP hS hl.1 rfl rfl (Nat.le_of_ble_eq_true rfl) dX9_dark_19 (fun H locs hP hS => ?_)
      refine W.eq (g2 := F0 m 22 ls [.int r6]) rfl ?_
      refine lv_if_eq (tgt := 37) hx hb dX9_dark_22 (by decide) (fun c7 => ?_) (fun c7 => ?_)
      · rw [if_pos c7] at h
        exact w_X9_dark_37 C0   μ6 _ _ _ hP hS (lv_sub hl [0] rfl) h
      · rw [if_neg c7] at h
        refine lv_iload hx hb dX9_dark_25 (lv_at hl 4 rfl) ?_
        refine lv_if_lt (tgt := 37) hx hb dX9_dark_27 (by decide) (fun c8 => ?_) (fun c8 => ?_)
        · rw [if_pos c8] at h
          exact w_X9_dark_37 C0   μ6 _ _ _ hP hS (lv_sub hl [0] rfl) h
        · rw [if_neg c8] at h
          refine lv_iload hx hb dX9_dark_30 (lv_at hl 4 rfl) ?_
          refine lv_ldc (v := (999999 : Int32)) hx hb hown (hts _ q3_187) dX9_dark_32 ?_
          refine lv_icmp_le (tgt := 43) hx hb dX9_dark_34 (by decide) (fun c9 => ?_) (fun c9 => ?_)
          · rw [if_pos c9] at h
            refine lv_iload hx hb dX9_dark_43 (lv_at hl 4 rfl) ?_
            refine lv_sipush (v := (1000 : Int32)) hx hb dX9_dark_45 (by decide +kernel) ?_
            refine lv_idiv hx hb dX9_dark_48 (by decide) ?_
            refine lv_istore (lv' := [(5, .int (x4 / (1000 : Int32))), (0, .ref (g.2.2.1 + 0)), (1, .int x1), (2, .int x2), (3, .int x3), (4, .int x4)]) hx hb dX9_dark_49 hl (by decide) rfl (fun ls hl => ?_)
            refine lv_iload hx hb dX9_dark_51 (lv_at hl 5 rfl) ?_
            refine lv_sipush (v := (1000 : Int32)) hx hb dX9_dark_53 (by decide +kernel) ?_
            refine lv_irem hx hb dX9_dark_56 (by decide) ?_
            refine lv_istore (lv' := [(6, .int (x4 - x4 / (1000 : Int32) * (1000 : Int32))), (5, .int (x4 / (1000 : Int32))), (0, .ref (g.2.2.1 + 0)), (1, .int x1), (2, .int x2), (3, .int x3), (4, .int x4)]) hx hb dX9_dark_57 hl (by decide) rfl (fun ls hl => ?_)
            refine lv_iload hx hb dX9_dark_59 (lv_at hl 1 rfl) ?_
            refine lv_iload hx hb dX9_dark_61 (lv_at hl 0 rfl) ?_
            refine lv_icmp_le (tgt := 72) hx hb dX9_dark_63 (by decide) (fun c10 => ?_) (fun c10 => ?_)
            · rw [if_pos c10] at h
              refine lv_aload_n hx hb dX9_dark_72 rfl (lv_at hl 2 rfl) ?_
              refine x_get C0 hP inu9 (k := 0) cx_0 (by decide) rfl 0 (by decide) q2_81 rfl (v := .ref (g.2.2.1 + 1)) rfl dX9_dark_73 ?_
              refine x_get C0 hP inu7 (k := 1) cx_1 (by decide) rfl 3 (by decide) q1_227 rfl (v := .ref (g.2.2.1 + 14)) rfl dX9_dark_76 ?_
              refine lv_iload_n hx hb dX9_dark_79 rfl (lv_at hl 3 rfl) ?_
              refine lv_iload_n hx hb dX9_dark_80 rfl (lv_at hl 4 rfl) ?_
              refine lv_iload_n hx hb dX9_dark_81 rfl (lv_at hl 5 rfl) ?_
              obtain ⟨r11, μ11, h1, h⟩ := ob2_some h
              refine x_callV C0 (rest := []) (q := (RX3, TX3, 5)) (c_X3_latest l g x1 x2 x3 μ6 h1) q3_191 q3_188 q3_189 q3_190 q1_5 hd_X3_latest ⟨rfl, rfl⟩ ⟨Nat.le_of_ble_eq_true rfl, Nat.le_of_ble_eq_true rfl⟩ cx_14 (by decide) rfl hP hS hl.1 rfl rfl (Nat.le_of_ble_eq_true rfl) dX9_dark_82 (fun H locs hP hS => ?_)
              refine W.eq (g2 := F0 m 85 ls [.int r11]) rfl ?_
              refine lv_istore (lv' := [(7, .int r11), (6, .int (x4 - x4 / (1000 : Int32) * (1000 : Int32))), (5, .int (x4 / (1000 : Int32))), (0, .ref (g.2.2.1 + 0)), (1, .int x1), (2, .int x2), (3, .int x3), (4, .int x4)]) hx hb dX9_dark_85 hl (by decide) rfl (fun ls hl => ?_)
              refine lv_aload_n hx hb dX9_dark_87 rfl (lv_at hl 3 rfl) ?_
              refine x_get C0 hP inu9 (k := 0) cx_0 (by decide) rfl 0 (by decide) q2_81 rfl (v := .ref (g.2.2.1 + 1)) rfl dX9_dark_88 ?_
              refine x_get C0 hP inu7 (k := 1) cx_1 (by decide) rfl 3 (by decide) q1_227 rfl (v := .ref (g.2.2.1 + 14)) rfl dX9_dark_91 ?_
              refine lv_iload hx hb dX9_dark_94 (lv_at hl 0 rfl) ?_
              obtain ⟨r12, μ12, h1, h⟩ := ob2_some h
              refine x_callV C0 (rest := []) (q := (RX3, TX3, 5)) (c_X3_has l g r11 μ11 h1) q3_195 q3_192 q3_193 q3_194 q1_5 hd_X3_has ⟨rfl, rfl⟩ ⟨Nat.le_of_ble_eq_true rfl, Nat.le_of_ble_eq_true rfl⟩ cx_14 (by decide) rfl hP hS hl.1 rfl rfl (Nat.le_of_ble_eq_true rfl) dX9_dark_96 (fun H locs hP hS => ?_)
              refine W.eq (g2 := F0 m 99 ls [.int r12]) rfl ?_
              refine lv_if_ne (tgt := 108) hx hb dX9_dark_99 (by decide) (fun c13 => ?_) (fun c13 => ?_)
              · rw [if_neg c13] at h
                refine lv_aload_n hx hb dX9_dark_108 rfl (lv_at hl 3 rfl) ?_
                refine x_get C0 hP inu9 (k := 0) cx_0 (by decide) rfl 0 (by decide) q2_81 rfl (v := .ref (g.2.2.1 + 1)) rfl dX9_dark_109 ?_
                refine x_get C0 hP inu7 (k := 1) cx_1 (by decide) rfl 3 (by decide) q1_227 rfl (v := .ref (g.2.2.1 + 14)) rfl dX9_dark_112 ?_
                refine x_get C0 hP inu3 (k := 14) cx_14 (by decide) rfl 1 (by decide) q1_89 rfl (v := .ref (g.2.2.1 + 16)) rfl dX9_dark_115 ?_
                refine lv_iload hx hb dX9_dark_118 (lv_at hl 0 rfl) ?_
                obtain ⟨z14, h⟩ := gd_some h
                refine x_iald C0 hP (k := 16) cx_16 (j := r11.toNatClampNeg) z14 rfl dX9_dark_120 ?_
                refine lv_istore (lv' := [(8, .int (μ12 16 r11.toNatClampNeg)), (7, .int r11), (6, .int (x4 - x4 / (1000 : Int32) * (1000 : Int32))), (5, .int (x4 / (1000 : Int32))), (0, .ref (g.2.2.1 + 0)), (1, .int x1), (2, .int x2), (3, .int x3), (4, .int x4)]) hx hb dX9_dark_121 hl (by decide) rfl (fun ls hl => ?_)
                refine lv_aload_n hx hb dX9_dark_123 rfl (lv_at hl 4 rfl) ?_
                refine x_get C0 hP inu9 (k := 0) cx_0 (by decide) rfl 0 (by decide) q2_81 rfl (v := .ref (g.2.2.1 + 1)) rfl dX9_dark_124 ?_
                refine x_get C0 hP inu7 (k := 1) cx_1 (by decide) rfl 3 (by decide) q1_227 rfl (v := .ref (g.2.2.1 + 14)) rfl dX9_dark_127 ?_
                refine x_get C0 hP inu3 (k := 14) cx_14 (by decide) rfl 2 (by decide) q1_91 rfl (v := .ref (g.2.2.1 + 17)) rfl dX9_dark_130 ?_
                refine lv_iload hx hb dX9_dark_133 (lv_at hl 1 rfl) ?_
                obtain ⟨z15, h⟩ := gd_some h
                refine x_iald C0 hP (k := 17) cx_17 (j := r11.toNatClampNeg) z15 rfl dX9_dark_135 ?_
                refine lv_aload_n hx hb dX9_dark_136 rfl (lv_at hl 4 rfl) ?_
                refine x_get C0 hP inu9 (k := 0) cx_0 (by decide) rfl 0 (by decide) q2_81 rfl (v := .ref (g.2.2.1 + 1)) rfl dX9_dark_137 ?_
                refine x_get C0 hP inu7 (k := 1) cx_1 (by decide) rfl 4 (by decide) q1_229 rfl (v := .ref (g.2.2.1 + 19)) rfl dX9_dark_140 ?_
                refine lv_iload_n hx hb dX9_dark_143 rfl (lv_at hl 5 rfl) ?_
                refine lv_iload hx hb dX9_dark_144 (lv_at hl 0 rfl) ?_
                refine lv_iload_n hx hb dX9_dark_146 rfl (lv_at hl 6 rfl) ?_
                obtain ⟨r16, μ16, h1, h⟩ := ob2_some h
                refine x_callV C0 (rest := [.int (μ12 17 r11.toNatClampNeg)]) (q := (RX6, TX6, 6)) (c_X6_restBetween l g x1 (μ12 16 r11.toNatClampNeg) x2 μ12 h1) q3_199 q3_196 q3_197 q3_198 q1_6 hd_X6_restBetween ⟨rfl, rfl⟩ ⟨Nat.le_of_ble_eq_true rfl, Nat.le_of_ble_eq_true rfl⟩ cx_19 (by decide) rfl hP hS hl.1 rfl rfl (Nat.le_of_ble_eq_true rfl) dX9_dark_147 (fun H locs hP hS => ?_)
                refine W.eq (g2 := F0 m 150 ls [.int r16, .int (μ12 17 r11.toNatClampNeg)]) rfl ?_
                refine lv_iadd hx hb dX9_dark_150 ?_
                refine lv_istore (lv' := [(9, .int ((μ12 17 r11.toNatClampNeg) + r16)), (8, .int (μ12 16 r11.toNatClampNeg)), (7, .int r11), (6, .int (x4 - x4 / (1000 : Int32) * (1000 : Int32))), (5, .int (x4 / (1000 : Int32))), (0, .ref (g.2.2.1 + 0)), (1, .int x1), (2, .int x2), (3, .int x3), (4, .int x4)]) hx hb dX9_dark_151 hl (by decide) rfl (fun ls hl => ?_)
                refine lv_iload_n hx hb dX9_dark_153 rfl (lv_at hl 7 rfl) ?_
                refine lv_iload hx hb dX9_dark_154 (lv_at hl 1 rfl) ?_
                refine lv_isub hx hb dX9_dark_156 ?_
                refine lv_istore (lv' := [(10, .int (x2 - (μ12 16 r11.toNatClampNeg))), (9, .int ((μ12 17 r11.toNatClampNeg) + r16)), (8, .int (μ12 16 r11.toNatClampNeg)), (7, .int r11), (6, .int (x4 - x4 / (1000 : Int32) * (1000 : Int32))), (5, .int (x4 / (1000 : Int32))), (0, .ref (g.2.2.1 + 0)), (1, .int x1), (2, .int x2), (3, .int x3), (4, .int x4)]) hx hb dX9_dark_157 hl (by decide) rfl (fun ls hl => ?_)
                refine lv_iload hx hb dX9_dark_159 (lv_at hl 1 rfl) ?_
                refine lv_iload hx hb dX9_dark_161 (lv_at hl 5 rfl) ?_
                refine lv_iload hx hb dX9_dark_163 (lv_at hl 0 rfl) ?_
                refine lv_imul hx hb dX9_dark_165 ?_
                refine lv_isub hx hb dX9_dark_166 ?_
                refine lv_if_ge (tgt := 172) hx hb dX9_dark_167 (by decide) (fun c17 => ?_) (fun c17 => ?_)
                · rw [if_pos c17] at h
                  refine lv_iload hx hb dX9_dark_172 (lv_at hl 1 rfl) ?_
                  refine lv_iload hx hb dX9_dark_174 (lv_at hl 4 rfl) ?_
                  refine lv_iload hx hb dX9_dark_176 (lv_at hl 0 rfl) ?_
                  refine lv_imul hx hb dX9_dark_178 ?_
                  refine lv_isub hx hb dX9_dark_179 ?_
                  refine lv_if_ge (tgt := 187) hx hb dX9_dark_180 (by decide) (fun c18 => ?_) (fun c18 => ?_)
                  · rw [if_pos c18] at h
                    refine lv_iconst (v := (0 : Int32)) hx hb dX9_dark_187 rfl ?_
                    obtain ⟨rfl, rfl⟩ := some2 h
                    exact x_iret C0 hP hS dX9_dark_188
                  · rw [if_neg c18] at h
                    refine lv_iconst (v := (1 : Int32)) hx hb dX9_dark_183 rfl ?_
                    refine lv_goto (tgt := 188) hx hb dX9_dark_184 (by decide) ?_
                    obtain ⟨rfl, rfl⟩ := some2 h
                    exact x_iret C0 hP hS dX9_dark_188
                · rw [if_neg c17] at h
                  refine lv_iconst (v := (2 : Int32)) hx hb dX9_dark_170 rfl ?_
                  obtain ⟨rfl, rfl⟩ := some2 h
                  exact x_iret C0 hP hS dX9_dark_171
              · rw [if_pos c13] at h
                refine lv_aload_n hx hb dX9_dark_102 rfl (lv_at hl 3 rfl) ?_
                refine lv_iconst (v := (2 : Int32)) hx hb dX9_dark_103 rfl ?_
                obtain ⟨r19, μ19, h1, h⟩ := ob2_some h
                refine x_callV C0 (rest := []) (q := (RX9, TX9, 9)) (c_X9_finding l g (2 : Int32) μ12 h1) q2_122 q2_119 q2_121 r1_0 q1_1 hd_X9_finding ⟨rfl, rfl⟩ ⟨Nat.le_of_ble_eq_true rfl, Nat.le_of_ble_eq_true rfl⟩ cx_0 (by decide) rfl hP hS hl.1 rfl rfl (Nat.le_of_ble_eq_true rfl) dX9_dark_104 (fun H locs hP hS => ?_)
                refine W.eq (g2 := F0 m 107 ls [.int r19]) rfl ?_
                obtain ⟨rfl, rfl⟩ := some2 h
                exact x_iret C0 hP hS dX9_dark_107
            · rw [if_neg c10] at h
              refine lv_aload_n hx hb dX9_dark_66 rfl (lv_at hl 2 rfl) ?_
              refine lv_iconst (v := (1 : Int32)) hx hb dX9_dark_67 rfl ?_
              obtain ⟨r20, μ20, h1, h⟩ := ob2_some h
              refine x_callV C0 (rest := []) (q := (RX9, TX9, 9)) (c_X9_finding l g (1 : Int32) μ6 h1) q2_122 q2_119 q2_121 r1_0 q1_1 hd_X9_finding ⟨rfl, rfl⟩ ⟨Nat.le_of_ble_eq_true rfl, Nat.le_of_ble_eq_true rfl⟩ cx_0 (by decide) rfl hP hS hl.1 rfl rfl (Nat.le_of_ble_eq_true rfl) dX9_dark_68 (fun H locs hP hS => ?_)
              refine W.eq (g2 := F0 m 71 ls [.int r20]) rfl ?_
              obtain ⟨rfl, rfl⟩ := some2 h
              exact x_iret C0 hP hS dX9_dark_71
          · rw [if_neg c9] at h
            exact w_X9_dark_37 C0   μ6 _ _ _ hP hS (lv_sub hl [0] rfl) h
def X9_isSheet (x0 : Int32) (μ : Mem) : Option (Int32 × Mem) :=
  (if x0 < (0 : Int32) then some ((0 : Int32), μ) else (if (4 : Int32) ≤ x0 then some ((0 : Int32), μ) else some ((1 : Int32), μ)))
set_option maxRecDepth 100000 in
set_option maxHeartbeats 4000000 in
theorem c_X9_isSheet (l : Launch) (g : Gx) (x0 : Int32) (μ : Mem) {r : Int32} {ν : Mem} (h : X9_isSheet x0 μ = some (r, ν)) : Ct Lx g l yX9_isSheet cX9_isSheet 1 (some .boolean) { frames := 0, cells := 0, slots := 0, locals := 0 } [.int x0] μ (some (.int r)) ν := by
  refine x_met (lv := [(0, .int x0)]) rfl (Nat.le_of_ble_eq_true rfl) rfl ?_
  intro p e s m below meth c C0 hP ls hl
  generalize ([.int x0] : List Value).toArray = args at C0 ⊢
  have C0 : Cx Lx g p s m args meth c cX9_isSheet 1 (some .boolean) RX9 := C0
  have hS : va_S (Ax Lx g) s.heap s.heap [] := va_S.rf
  obtain ⟨hx, hb, hr, hml, hown, hts, hlocks, hK⟩ := id C0
  unfold X9_isSheet at h
  skip
  refine lv_iload_n hx hb dX9_isSheet_0 rfl (lv_at hl 0 rfl) ?_
  refine lv_if_lt (tgt := 13) hx hb dX9_isSheet_1 (by decide) (fun c1 => ?_) (fun c1 => ?_)
  · rw [if_pos c1] at h
    refine lv_iconst (v := (0 : Int32)) hx hb dX9_isSheet_13 rfl ?_
    obtain ⟨rfl, rfl⟩ := some2 h
    exact x_zret C0 hP hS (by decide) dX9_isSheet_14
  · rw [if_neg c1] at h
    refine lv_iload_n hx hb dX9_isSheet_4 rfl (lv_at hl 0 rfl) ?_
    refine lv_iconst (v := (4 : Int32)) hx hb dX9_isSheet_5 rfl ?_
    refine lv_icmp_ge (tgt := 13) hx hb dX9_isSheet_6 (by decide) (fun c2 => ?_) (fun c2 => ?_)
    · rw [if_pos c2] at h
      refine lv_iconst (v := (0 : Int32)) hx hb dX9_isSheet_13 rfl ?_
      obtain ⟨rfl, rfl⟩ := some2 h
      exact x_zret C0 hP hS (by decide) dX9_isSheet_14
    · rw [if_neg c2] at h
      refine lv_iconst (v := (1 : Int32)) hx hb dX9_isSheet_9 rfl ?_
      refine lv_goto (tgt := 14) hx hb dX9_isSheet_10 (by decide) ?_
      obtain ⟨rfl, rfl⟩ := some2 h
      exact x_zret C0 hP hS (by decide) dX9_isSheet_14
def X9_isHolding (x1 : Int32) (x2 : Int32) (x3 : Int32) (μ : Mem) : Option (Int32 × Mem) :=
  ob2 (X7_hasMeter x1 μ) fun r1 μ1 => (if r1 = (0 : Int32) then some ((0 : Int32), μ1) else ob2 (X9_isSheet x2 μ1) fun r3 μ3 => (if r3 = (0 : Int32) then some ((0 : Int32), μ3) else (if x3 < (1 : Int32) then some ((0 : Int32), μ3) else (if (7 : Int32) < x3 then some ((0 : Int32), μ3) else (if (9000 : Int32) < ((μ3 1 8) + ((24 : Int32) * x3)) then some ((0 : Int32), μ3) else some ((1 : Int32), μ3))))))
set_option maxRecDepth 100000 in
set_option maxHeartbeats 4000000 in
theorem c_X9_isHolding (l : Launch) (g : Gx) (x1 : Int32) (x2 : Int32) (x3 : Int32) (μ : Mem) {r : Int32} {ν : Mem} (h : X9_isHolding x1 x2 x3 μ = some (r, ν)) : Ct Lx g l yX9_isHolding cX9_isHolding 4 (some .boolean) { frames := 1, cells := 0, slots := 0, locals := 21 } [.ref (g.2.2.1 + 0), .int x1, .int x2, .int x3] μ (some (.int r)) ν := by
  refine x_met (lv := [(0, .ref (g.2.2.1 + 0)), (1, .int x1), (2, .int x2), (3, .int x3)]) rfl (Nat.le_of_ble_eq_true rfl) rfl ?_
  intro p e s m below meth c C0 hP ls hl
  generalize ([.ref (g.2.2.1 + 0), .int x1, .int x2, .int x3] : List Value).toArray = args at C0 ⊢
  have C0 : Cx Lx g p s m args meth c cX9_isHolding 4 (some .boolean) RX9 := C0
  have hS : va_S (Ax Lx g) s.heap s.heap [] := va_S.rf
  obtain ⟨hx, hb, hr, hml, hown, hts, hlocks, hK⟩ := id C0
  unfold X9_isHolding at h
  skip
  refine lv_aload_n hx hb dX9_isHolding_0 rfl (lv_at hl 0 rfl) ?_
  refine x_get C0 hP inu9 (k := 0) cx_0 (by decide) rfl 0 (by decide) q2_81 rfl (v := .ref (g.2.2.1 + 1)) rfl dX9_isHolding_1 ?_
  refine lv_iload_n hx hb dX9_isHolding_4 rfl (lv_at hl 1 rfl) ?_
  obtain ⟨r1, μ1, h1, h⟩ := ob2_some h
  refine x_callV C0 (rest := []) (q := (RX7, TX7, 9)) (c_X7_hasMeter l g x1 μ h1) q2_143 q2_140 q2_141 q2_142 q1_2 hd_X7_hasMeter ⟨rfl, rfl⟩ ⟨Nat.le_of_ble_eq_true rfl, Nat.le_of_ble_eq_true rfl⟩ cx_1 (by decide) rfl hP hS hl.1 rfl rfl (Nat.le_of_ble_eq_true rfl) dX9_isHolding_5 (fun H locs hP hS => ?_)
  refine W.eq (g2 := F0 m 8 ls [.int r1]) rfl ?_
  refine lv_if_eq (tgt := 51) hx hb dX9_isHolding_8 (by decide) (fun c2 => ?_) (fun c2 => ?_)
  · rw [if_pos c2] at h
    refine lv_iconst (v := (0 : Int32)) hx hb dX9_isHolding_51 rfl ?_
    obtain ⟨rfl, rfl⟩ := some2 h
    exact x_zret C0 hP hS (by decide) dX9_isHolding_52
  · rw [if_neg c2] at h
    refine lv_iload_n hx hb dX9_isHolding_11 rfl (lv_at hl 2 rfl) ?_
    obtain ⟨r3, μ3, h1, h⟩ := ob2_some h
    refine x_callS C0 (rest := []) (c_X9_isSheet l g x2 μ1 h1) q3_210 q3_208 q3_209 q1_1 hd_X9_isSheet ⟨rfl, rfl⟩ ⟨Nat.le_of_ble_eq_true rfl, Nat.le_of_ble_eq_true rfl⟩ hP hS hl.1 rfl rfl (Nat.le_of_ble_eq_true rfl) dX9_isHolding_12 (fun H locs hP hS => ?_)
    refine W.eq (g2 := F0 m 15 ls [.int r3]) rfl ?_
    refine lv_if_eq (tgt := 51) hx hb dX9_isHolding_15 (by decide) (fun c4 => ?_) (fun c4 => ?_)
    · rw [if_pos c4] at h
      refine lv_iconst (v := (0 : Int32)) hx hb dX9_isHolding_51 rfl ?_
      obtain ⟨rfl, rfl⟩ := some2 h
      exact x_zret C0 hP hS (by decide) dX9_isHolding_52
    · rw [if_neg c4] at h
      refine lv_iload_n hx hb dX9_isHolding_18 rfl (lv_at hl 3 rfl) ?_
      refine lv_iconst (v := (1 : Int32)) hx hb dX9_isHolding_19 rfl ?_
      refine lv_icmp_lt (tgt := 51) hx hb dX9_isHolding_20 (by decide) (fun c5 => ?_) (fun c5 => ?_)
      · rw [if_pos c5] at h
        refine lv_iconst (v := (0 : Int32)) hx hb dX9_isHolding_51 rfl ?_
        obtain ⟨rfl, rfl⟩ := some2 h
        exact x_zret C0 hP hS (by decide) dX9_isHolding_52
      · rw [if_neg c5] at h
        refine lv_iload_n hx hb dX9_isHolding_23 rfl (lv_at hl 3 rfl) ?_
        refine lv_bipush (v := (7 : Int32)) hx hb dX9_isHolding_24 (by decide +kernel) ?_
        refine lv_icmp_gt (tgt := 51) hx hb dX9_isHolding_26 (by decide) (fun c6 => ?_) (fun c6 => ?_)
        · rw [if_pos c6] at h
          refine lv_iconst (v := (0 : Int32)) hx hb dX9_isHolding_51 rfl ?_
          obtain ⟨rfl, rfl⟩ := some2 h
          exact x_zret C0 hP hS (by decide) dX9_isHolding_52
        · rw [if_neg c6] at h
          refine lv_aload_n hx hb dX9_isHolding_29 rfl (lv_at hl 0 rfl) ?_
          refine x_get C0 hP inu9 (k := 0) cx_0 (by decide) rfl 0 (by decide) q2_81 rfl (v := .ref (g.2.2.1 + 1)) rfl dX9_isHolding_30 ?_
          refine x_get C0 hP inu7 (k := 1) cx_1 (by decide) rfl 8 (by decide) q1_237 rfl (v := .int (μ3 1 8)) rfl dX9_isHolding_33 ?_
          refine lv_bipush (v := (24 : Int32)) hx hb dX9_isHolding_36 (by decide +kernel) ?_
          refine lv_iload_n hx hb dX9_isHolding_38 rfl (lv_at hl 3 rfl) ?_
          refine lv_imul hx hb dX9_isHolding_39 ?_
          refine lv_iadd hx hb dX9_isHolding_40 ?_
          refine lv_sipush (v := (9000 : Int32)) hx hb dX9_isHolding_41 (by decide +kernel) ?_
          refine lv_icmp_gt (tgt := 51) hx hb dX9_isHolding_44 (by decide) (fun c7 => ?_) (fun c7 => ?_)
          · rw [if_pos c7] at h
            refine lv_iconst (v := (0 : Int32)) hx hb dX9_isHolding_51 rfl ?_
            obtain ⟨rfl, rfl⟩ := some2 h
            exact x_zret C0 hP hS (by decide) dX9_isHolding_52
          · rw [if_neg c7] at h
            refine lv_iconst (v := (1 : Int32)) hx hb dX9_isHolding_47 rfl ?_
            refine lv_goto (tgt := 52) hx hb dX9_isHolding_48 (by decide) ?_
            obtain ⟨rfl, rfl⟩ := some2 h
            exact x_zret C0 hP hS (by decide) dX9_isHolding_52
def X9_darkMore_132  (a1 : Nat) (μ : Mem) : Option (Int32 × Mem) :=
  some (((μ 79 12) - (μ a1 12)), μ)
set_option maxRecDepth 100000 in
set_option maxHeartbeats 4000000 in
theorem w_X9_darkMore_132 {g : Gx} {p : Program} {l : Launch} {e : Env} {s : State} {m : MethodId} {args : Array Value} {below : List Frame} {meth : Method} {c : Code} (C0 : Cx Lx g p s m args meth c cX9_darkMore 8 (some .int) RX9) {r : Int32} {ν : Mem}  (a1 : Nat) (ha1 : Id2 a1) (μ : Mem) (H : Heap) (locs : List Loc) (ls : Array Slot) (hP : Px Lx g μ H) (hS : va_S (Ax Lx g) s.heap H locs) (hl : lv_has ls 8 [(0, .ref (g.2.2.1 + 0)), (1, .ref (g.2.2.1 + a1))]) (h : X9_darkMore_132  a1 μ = some (r, ν)) : W p l e { frames := 5, cells := 0, slots := 0, locals := 125 } s m args below meth c H locs 0 0 (MQ below (Qx Lx g (some (.int r)) ν) args s 0 0 (Ax Lx g)) (F0 m 132 ls []) := by
  obtain ⟨hx, hb, hr, hml, hown, hts, hlocks, hK⟩ := id C0
  unfold X9_darkMore_132 at h
  refine lv_aload_n hx hb dX9_darkMore_132 rfl (lv_at hl 0 rfl) ?_
  refine x_get C0 hP inu9 (k := 0) cx_0 (by decide) rfl 2 (by decide) q2_83 rfl (v := .ref (g.2.2.1 + 79)) rfl dX9_darkMore_133 ?_
  refine x_get C0 hP inu2 (k := 79) cx_79 (by decide) rfl 12 (by decide) q1_181 rfl (v := .int (μ 79 12)) rfl dX9_darkMore_136 ?_
  refine lv_aload_n hx hb dX9_darkMore_139 rfl (lv_at hl 1 rfl) ?_
  refine x_get C0 hP inu2 (k := a1) (id2_0 ha1) (by decide) rfl 12 (by decide) q1_181 rfl (v := .int (μ a1 12)) rfl dX9_darkMore_140 ?_
  refine lv_isub hx hb dX9_darkMore_143 ?_
  obtain ⟨rfl, rfl⟩ := some2 h
  exact x_iret C0 hP hS dX9_darkMore_144
def X9_darkMore_104 (K20 : Nat → Nat → Int32 → Int32 → Int32 → Mem → Option (Int32 × Mem)) (a1 : Nat) (a2 : Nat) (x3 : Int32) (x5 : Int32) (x6 : Int32) (μ : Mem) : Option (Int32 × Mem) :=
  ob2 (X7_endHour 79 ((μ 1 8) + x6) μ) fun r6 μ6 => K20 a1 a2 x3 x5 (x6 + (1 : Int32)) μ6
set_option maxRecDepth 100000 in
set_option maxHeartbeats 4000000 in
theorem w_X9_darkMore_104 {g : Gx} {p : Program} {l : Launch} {e : Env} {s : State} {m : MethodId} {args : Array Value} {below : List Frame} {meth : Method} {c : Code} (C0 : Cx Lx g p s m args meth c cX9_darkMore 8 (some .int) RX9) {r : Int32} {ν : Mem} (K20 : Nat → Nat → Int32 → Int32 → Int32 → Mem → Option (Int32 × Mem)) (hK20 : ∀ (a1 : Nat) (ha1 : Id2 a1) (a2 : Nat) (ha2 : Id4 a2) (x3 : Int32) (x5 : Int32) (x6 : Int32) (μ : Mem) (H : Heap) (locs : List Loc) (ls : Array Slot), Px Lx g μ H → va_S (Ax Lx g) s.heap H locs → lv_has ls 8 [(0, .ref (g.2.2.1 + 0)), (1, .ref (g.2.2.1 + a1)), (2, .ref (g.2.2.1 + a2)), (3, .int x3), (5, .int x5), (6, .int x6)] → K20 a1 a2 x3 x5 x6 μ = some (r, ν) → W p l e { frames := 5, cells := 0, slots := 0, locals := 125 } s m args below meth c H locs 0 0 (MQ below (Qx Lx g (some (.int r)) ν) args s 0 0 (Ax Lx g)) (F0 m 20 ls [])) (a1 : Nat) (ha1 : Id2 a1) (a2 : Nat) (ha2 : Id4 a2) (x3 : Int32) (x5 : Int32) (x6 : Int32) (μ : Mem) (H : Heap) (locs : List Loc) (ls : Array Slot) (hP : Px Lx g μ H) (hS : va_S (Ax Lx g) s.heap H locs) (hl : lv_has ls 8 [(0, .ref (g.2.2.1 + 0)), (1, .ref (g.2.2.1 + a1)), (2, .ref (g.2.2.1 + a2)), (3, .int x3), (5, .int x5), (6, .int x6)]) (h : X9_darkMore_104 K20 a1 a2 x3 x5 x6 μ = some (r, ν)) : W p l e { frames := 5, cells := 0, slots := 0, locals := 125 } s m args below meth c H locs 0 0 (MQ below (Qx Lx g (some (.int r)) ν) args s 0 0 (Ax Lx g)) (F0 m 104 ls []) := by
  obtain ⟨hx, hb, hr, hml, hown, hts, hlocks, hK⟩ := id C0
  unfold X9_darkMore_104 at h
  refine lv_aload_n hx hb dX9_darkMore_104 rfl (lv_at hl 0 rfl) ?_
  refine x_get C0 hP inu9 (k := 0) cx_0 (by decide) rfl 0 (by decide) q2_81 rfl (v := .ref (g.2.2.1 + 1)) rfl dX9_darkMore_105 ?_
  refine lv_aload_n hx hb dX9_darkMore_108 rfl (lv_at hl 0 rfl) ?_
  refine x_get C0 hP inu9 (k := 0) cx_0 (by decide) rfl 2 (by decide) q2_83 rfl (v := .ref (g.2.2.1 + 79)) rfl dX9_darkMore_109 ?_
  refine lv_aload_n hx hb dX9_darkMore_112 rfl (lv_at hl 0 rfl) ?_
  refine x_get C0 hP inu9 (k := 0) cx_0 (by decide) rfl 0 (by decide) q2_81 rfl (v := .ref (g.2.2.1 + 1)) rfl dX9_darkMore_113 ?_
  refine x_get C0 hP inu7 (k := 1) cx_1 (by decide) rfl 8 (by decide) q1_237 rfl (v := .int (μ 1 8)) rfl dX9_darkMore_116 ?_
  refine lv_iload hx hb dX9_darkMore_119 (lv_at hl 5 rfl) ?_
  refine lv_iadd hx hb dX9_darkMore_121 ?_
  obtain ⟨r6, μ6, h1, h⟩ := ob2_some h
  refine x_callV C0 (rest := []) (q := (RX7, TX7, 9)) (c_X7_endHour l g 79 idc_79 ((μ 1 8) + x6) μ h1) q3_158 q3_228 q3_156 q3_157 q1_2 hd_X7_endHour ⟨rfl, rfl⟩ ⟨Nat.le_of_ble_eq_true rfl, Nat.le_of_ble_eq_true rfl⟩ cx_1 (by decide) rfl hP hS hl.1 rfl rfl (Nat.le_of_ble_eq_true rfl) dX9_darkMore_122 (fun H locs hP hS => ?_)
  refine W.eq (g2 := F0 m 125 ls [.int r6]) rfl ?_
  refine lv_pop hx hb dX9_darkMore_125 rfl ?_
  refine lv_iinc (v := (x6 + (1 : Int32))) (lv' := [(6, .int (x6 + (1 : Int32))), (0, .ref (g.2.2.1 + 0)), (1, .ref (g.2.2.1 + a1)), (2, .ref (g.2.2.1 + a2)), (3, .int x3), (5, .int x5)]) hx hb dX9_darkMore_126 hl (k := 5) rfl rfl (by decide) rfl (fun ls hl => ?_)
  refine lv_goto (tgt := 20) hx hb dX9_darkMore_129 (by decide) ?_
  exact hK20 a1 ha1 a2 ha2 x3 x5 (x6 + (1 : Int32)) μ6 _ _ _ hP hS (lv_sub hl [1, 2, 3, 4, 5, 0] rfl) h
def X9_darkMore_20  : Nat → Nat → Nat → Int32 → Int32 → Int32 → Mem → Option (Int32 × Mem)
  | 0, _, _, _, _, _, _ => none
  | n + 1, a1, a2, x3, x5, x6, μ => (if ((24 : Int32) * x3) ≤ x6 then X9_darkMore_132 a1 μ else (if x5 ≤ ((μ 79 12) - (μ a1 12)) then X9_darkMore_132 a1 μ else (if (x6 - x6 / (24 : Int32) * (24 : Int32)) = (0 : Int32) then ob2 (X4_numberAt a2 (x6 / (24 : Int32)) μ) fun r7 μ7 => (if r7 ≤ (0 : Int32) then X9_darkMore_104 (X9_darkMore_20 n) a1 a2 x3 x5 x6 μ7 else ob2 (X4_numberAt a2 (x6 / (24 : Int32)) μ7) fun r9 μ9 => ob2 (X7_topUp 79 ((μ7 1 8) + x6) (if (9999 : Int32) < r9 then (9999 : Int32) else r9) μ9) fun r10 μ10 => X9_darkMore_104 (X9_darkMore_20 n) a1 a2 x3 x5 x6 μ10) else X9_darkMore_104 (X9_darkMore_20 n) a1 a2 x3 x5 x6 μ)))
set_option maxRecDepth 100000 in
set_option maxHeartbeats 4000000 in
theorem w_X9_darkMore_20 {g : Gx} {p : Program} {l : Launch} {e : Env} {s : State} {m : MethodId} {args : Array Value} {below : List Frame} {meth : Method} {c : Code} (C0 : Cx Lx g p s m args meth c cX9_darkMore 8 (some .int) RX9) {r : Int32} {ν : Mem}  (n : Nat) : ∀ (a1 : Nat) (ha1 : Id2 a1) (a2 : Nat) (ha2 : Id4 a2) (x3 : Int32) (x5 : Int32) (x6 : Int32) (μ : Mem) (H : Heap) (locs : List Loc) (ls : Array Slot), Px Lx g μ H → va_S (Ax Lx g) s.heap H locs → lv_has ls 8 [(0, .ref (g.2.2.1 + 0)), (1, .ref (g.2.2.1 + a1)), (2, .ref (g.2.2.1 + a2)), (3, .int x3), (5, .int x5), (6, .int x6)] → X9_darkMore_20  n a1 a2 x3 x5 x6 μ = some (r, ν) → W p l e { frames := 5, cells := 0, slots := 0, locals := 125 } s m args below meth c H locs 0 0 (MQ below (Qx Lx g (some (.int r)) ν) args s 0 0 (Ax Lx g)) (F0 m 20 ls []) := by
  obtain ⟨hx, hb, hr, hml, hown, hts, hlocks, hK⟩ := id C0
  induction n with
  | zero =>
    intro a1 ha1 a2 ha2 x3 x5 x6 μ H locs ls hP hS hl h
    have h : (none : Option (Int32 × Mem)) = some (r, ν) := h
    cases h
  | succ n ih =>
    intro a1 ha1 a2 ha2 x3 x5 x6 μ H locs ls hP hS hl h
    rw [X9_darkMore_20.eq_2] at h
    refine lv_iload hx hb dX9_darkMore_20 (lv_at hl 5 rfl) ?_
    refine lv_bipush (v := (24 : Int32)) hx hb dX9_darkMore_22 (by decide +kernel) ?_
    refine lv_iload_n hx hb dX9_darkMore_24 rfl (lv_at hl 3 rfl) ?_
    refine lv_imul hx hb dX9_darkMore_25 ?_
    refine lv_icmp_ge (tgt := 132) hx hb dX9_darkMore_26 (by decide) (fun c3 => ?_) (fun c3 => ?_)
    · rw [if_pos c3] at h
      exact w_X9_darkMore_132 C0  a1 ha1 μ _ _ _ hP hS (lv_sub hl [0, 1] rfl) h
    · rw [if_neg c3] at h
      refine lv_aload_n hx hb dX9_darkMore_29 rfl (lv_at hl 0 rfl) ?_
      refine x_get C0 hP inu9 (k := 0) cx_0 (by decide) rfl 2 (by decide) q2_83 rfl (v := .ref (g.2.2.1 + 79)) rfl dX9_darkMore_30 ?_
      refine x_get C0 hP inu2 (k := 79) cx_79 (by decide) rfl 12 (by decide) q1_181 rfl (v := .int (μ 79 12)) rfl dX9_darkMore_33 ?_
      refine lv_aload_n hx hb dX9_darkMore_36 rfl (lv_at hl 1 rfl) ?_
      refine x_get C0 hP inu2 (k := a1) (id2_0 ha1) (by decide) rfl 12 (by decide) q1_181 rfl (v := .int (μ a1 12)) rfl dX9_darkMore_37 ?_
      refine lv_isub hx hb dX9_darkMore_40 ?_
      refine lv_iload hx hb dX9_darkMore_41 (lv_at hl 4 rfl) ?_
      refine lv_icmp_ge (tgt := 132) hx hb dX9_darkMore_43 (by decide) (fun c4 => ?_) (fun c4 => ?_)
      · rw [if_pos c4] at h
        exact w_X9_darkMore_132 C0  a1 ha1 μ _ _ _ hP hS (lv_sub hl [0, 1] rfl) h
      · rw [if_neg c4] at h
        refine lv_iload hx hb dX9_darkMore_46 (lv_at hl 5 rfl) ?_
        refine lv_bipush (v := (24 : Int32)) hx hb dX9_darkMore_48 (by decide +kernel) ?_
        refine lv_idiv hx hb dX9_darkMore_50 (by decide) ?_
        refine lv_istore (lv' := [(7, .int (x6 / (24 : Int32))), (0, .ref (g.2.2.1 + 0)), (1, .ref (g.2.2.1 + a1)), (2, .ref (g.2.2.1 + a2)), (3, .int x3), (5, .int x5), (6, .int x6)]) hx hb dX9_darkMore_51 hl (by decide) rfl (fun ls hl => ?_)
        refine lv_iload hx hb dX9_darkMore_53 (lv_at hl 6 rfl) ?_
        refine lv_bipush (v := (24 : Int32)) hx hb dX9_darkMore_55 (by decide +kernel) ?_
        refine lv_irem hx hb dX9_darkMore_57 (by decide) ?_
        refine lv_if_ne (tgt := 104) hx hb dX9_darkMore_58 (by decide) (fun c5 => ?_) (fun c5 => ?_)
        · rw [if_neg c5] at h
          exact w_X9_darkMore_104 C0 (X9_darkMore_20  n) ih a1 ha1 a2 ha2 x3 x5 x6 μ _ _ _ hP hS (lv_sub hl [1, 2, 3, 4, 5, 6] rfl) h
        · rw [if_pos c5] at h
          refine lv_aload_n hx hb dX9_darkMore_61 rfl (lv_at hl 3 rfl) ?_
          refine lv_iload hx hb dX9_darkMore_62 (lv_at hl 0 rfl) ?_
          obtain ⟨r7, μ7, h1, h⟩ := ob2_some h
          refine x_callV C0 (rest := []) (q := (RX4, TX4, 3)) (c_X4_numberAt l g a2 ha2 (x6 / (24 : Int32)) μ h1) q3_227 q3_224 q3_225 q3_226 q1_10 hd_X4_numberAt ⟨rfl, rfl⟩ ⟨Nat.le_of_ble_eq_true rfl, Nat.le_of_ble_eq_true rfl⟩ (id4_0 ha2) (by decide) rfl hP hS hl.1 rfl rfl (Nat.le_of_ble_eq_true rfl) dX9_darkMore_64 (fun H locs hP hS => ?_)
          refine W.eq (g2 := F0 m 67 ls [.int r7]) rfl ?_
          refine lv_if_le (tgt := 104) hx hb dX9_darkMore_67 (by decide) (fun c8 => ?_) (fun c8 => ?_)
          · rw [if_pos c8] at h
            exact w_X9_darkMore_104 C0 (X9_darkMore_20  n) ih a1 ha1 a2 ha2 x3 x5 x6 μ7 _ _ _ hP hS (lv_sub hl [1, 2, 3, 4, 5, 6] rfl) h
          · rw [if_neg c8] at h
            refine lv_aload_n hx hb dX9_darkMore_70 rfl (lv_at hl 1 rfl) ?_
            refine x_get C0 hP inu9 (k := 0) cx_0 (by decide) rfl 0 (by decide) q2_81 rfl (v := .ref (g.2.2.1 + 1)) rfl dX9_darkMore_71 ?_
            refine lv_aload_n hx hb dX9_darkMore_74 rfl (lv_at hl 1 rfl) ?_
            refine x_get C0 hP inu9 (k := 0) cx_0 (by decide) rfl 2 (by decide) q2_83 rfl (v := .ref (g.2.2.1 + 79)) rfl dX9_darkMore_75 ?_
            refine lv_aload_n hx hb dX9_darkMore_78 rfl (lv_at hl 1 rfl) ?_
            refine x_get C0 hP inu9 (k := 0) cx_0 (by decide) rfl 0 (by decide) q2_81 rfl (v := .ref (g.2.2.1 + 1)) rfl dX9_darkMore_79 ?_
            refine x_get C0 hP inu7 (k := 1) cx_1 (by decide) rfl 8 (by decide) q1_237 rfl (v := .int (μ7 1 8)) rfl dX9_darkMore_82 ?_
            refine lv_iload hx hb dX9_darkMore_85 (lv_at hl 6 rfl) ?_
            refine lv_iadd hx hb dX9_darkMore_87 ?_
            refine lv_aload_n hx hb dX9_darkMore_88 rfl (lv_at hl 3 rfl) ?_
            refine lv_iload hx hb dX9_darkMore_89 (lv_at hl 0 rfl) ?_
            obtain ⟨r9, μ9, h1, h⟩ := ob2_some h
            refine x_callV C0 (rest := [.int ((μ7 1 8) + x6), .ref (g.2.2.1 + 79), .ref (g.2.2.1 + 1)]) (q := (RX4, TX4, 3)) (c_X4_numberAt l g a2 ha2 (x6 / (24 : Int32)) μ7 h1) q3_227 q3_224 q3_225 q3_226 q1_10 hd_X4_numberAt ⟨rfl, rfl⟩ ⟨Nat.le_of_ble_eq_true rfl, Nat.le_of_ble_eq_true rfl⟩ (id4_0 ha2) (by decide) rfl hP hS hl.1 rfl rfl (Nat.le_of_ble_eq_true rfl) dX9_darkMore_91 (fun H locs hP hS => ?_)
            refine W.eq (g2 := F0 m 94 ls [.int r9, .int ((μ7 1 8) + x6), .ref (g.2.2.1 + 79), .ref (g.2.2.1 + 1)]) rfl ?_
            refine lv_sipush (v := (9999 : Int32)) hx hb dX9_darkMore_94 (by decide +kernel) ?_
            refine va_mmin hx hb (hml.trans hl.1.symm) hown (hts _ q3_41) (hts _ q3_42) (hts _ q1_12) (hts _ q3_43) (Nat.le_of_ble_eq_true rfl) (Nat.le_of_ble_eq_true rfl) (Nat.zero_le _) (Nat.zero_le _) dX9_darkMore_97 ?_
            obtain ⟨r10, μ10, h1, h⟩ := ob2_some h
            refine x_callV C0 (rest := []) (q := (RX7, TX7, 9)) (c_X7_topUp l g 79 idc_79 ((μ7 1 8) + x6) (if (9999 : Int32) < r9 then (9999 : Int32) else r9) μ9 h1) q3_33 q3_30 q3_31 q3_32 q1_2 hd_X7_topUp ⟨rfl, rfl⟩ ⟨Nat.le_of_ble_eq_true rfl, Nat.le_of_ble_eq_true rfl⟩ cx_1 (by decide) rfl hP hS hl.1 rfl rfl (Nat.le_of_ble_eq_true rfl) dX9_darkMore_100 (fun H locs hP hS => ?_)
            refine W.eq (g2 := F0 m 103 ls [.int r10]) rfl ?_
            refine lv_pop hx hb dX9_darkMore_103 rfl ?_
            exact w_X9_darkMore_104 C0 (X9_darkMore_20  n) ih a1 ha1 a2 ha2 x3 x5 x6 μ10 _ _ _ hP hS (lv_sub hl [1, 2, 3, 4, 5, 6] rfl) h
def X9_darkMore (a1 : Nat) (a2 : Nat) (x3 : Int32) (x4 : Int32) (x5 : Int32) (μ : Mem) : Option (Int32 × Mem) :=
  ob (X2_copyFrom 79 a1 μ) fun μ1 => lt (st μ1 79 7 x4) fun μ2 => X9_darkMore_20 FU a1 a2 x3 x5 (0 : Int32) μ2
set_option maxRecDepth 100000 in
set_option maxHeartbeats 4000000 in
theorem c_X9_darkMore (l : Launch) (g : Gx) (a1 : Nat) (hi1 : Id2 a1) (a2 : Nat) (hi2 : Id4 a2) (x3 : Int32) (x4 : Int32) (x5 : Int32) (μ : Mem) {r : Int32} {ν : Mem} (h : X9_darkMore a1 a2 x3 x4 x5 μ = some (r, ν)) : Ct Lx g l yX9_darkMore cX9_darkMore 8 (some .int) { frames := 5, cells := 0, slots := 0, locals := 125 } [.ref (g.2.2.1 + 0), .ref (g.2.2.1 + a1), .ref (g.2.2.1 + a2), .int x3, .int x4, .int x5] μ (some (.int r)) ν := by
  refine x_met (lv := [(0, .ref (g.2.2.1 + 0)), (1, .ref (g.2.2.1 + a1)), (2, .ref (g.2.2.1 + a2)), (3, .int x3), (4, .int x4), (5, .int x5)]) rfl (Nat.le_of_ble_eq_true rfl) rfl ?_
  intro p e s m below meth c C0 hP ls hl
  generalize ([.ref (g.2.2.1 + 0), .ref (g.2.2.1 + a1), .ref (g.2.2.1 + a2), .int x3, .int x4, .int x5] : List Value).toArray = args at C0 ⊢
  have C0 : Cx Lx g p s m args meth c cX9_darkMore 8 (some .int) RX9 := C0
  have hS : va_S (Ax Lx g) s.heap s.heap [] := va_S.rf
  obtain ⟨hx, hb, hr, hml, hown, hts, hlocks, hK⟩ := id C0
  unfold X9_darkMore at h
  skip
  refine lv_aload_n hx hb dX9_darkMore_0 rfl (lv_at hl 0 rfl) ?_
  refine x_get C0 hP inu9 (k := 0) cx_0 (by decide) rfl 2 (by decide) q2_83 rfl (v := .ref (g.2.2.1 + 79)) rfl dX9_darkMore_1 ?_
  refine lv_aload_n hx hb dX9_darkMore_4 rfl (lv_at hl 1 rfl) ?_
  obtain ⟨μ1, h1, h⟩ := ob_some h
  refine x_callV C0 (rest := []) (q := (RX2, TX2, 15)) (c_X2_copyFrom l g 79 idc_79 a1 hi1 μ h1) q3_222 q3_219 q3_220 q3_221 q1_7 hd_X2_copyFrom ⟨rfl, rfl⟩ ⟨Nat.le_of_ble_eq_true rfl, Nat.le_of_ble_eq_true rfl⟩ (id2_0 idc_79) (by decide) rfl hP hS hl.1 rfl rfl (Nat.le_of_ble_eq_true rfl) dX9_darkMore_5 (fun H locs hP hS => ?_)
  refine W.eq (g2 := F0 m 8 ls []) rfl ?_
  refine lv_aload_n hx hb dX9_darkMore_8 rfl (lv_at hl 0 rfl) ?_
  refine x_get C0 hP inu9 (k := 0) cx_0 (by decide) rfl 2 (by decide) q2_83 rfl (v := .ref (g.2.2.1 + 79)) rfl dX9_darkMore_9 ?_
  refine lv_iload hx hb dX9_darkMore_12 (lv_at hl 4 rfl) ?_
  obtain ⟨μ2, e2, h⟩ := lt_some h
  refine x_put C0 hP hS inu2 tyX2 tyX2_ok nmX2 (k := 79) cx_79 (by decide) rfl 7 (by decide) q1_165 rfl rfl (v := .int x4) (x := x4) rfl rfl (Nat.le_of_ble_eq_true rfl) (os_2_7 _ _ _ _) dX9_darkMore_14 (fun H locs hP hS => ?_)
  rw [← e2] at hP
  refine lv_iconst (v := (0 : Int32)) hx hb dX9_darkMore_17 rfl ?_
  refine lv_istore (lv' := [(6, .int (0 : Int32)), (0, .ref (g.2.2.1 + 0)), (1, .ref (g.2.2.1 + a1)), (2, .ref (g.2.2.1 + a2)), (3, .int x3), (4, .int x4), (5, .int x5)]) hx hb dX9_darkMore_18 hl (by decide) rfl (fun ls hl => ?_)
  exact w_X9_darkMore_20 C0  FU a1 hi1 a2 hi2 x3 x5 (0 : Int32) μ2 _ _ _ hP hS (lv_sub hl [1, 2, 3, 4, 6, 0] rfl) h
def X9_hold_18   (μ : Mem) : Option (Int32 × Mem) :=
  ob2 (X9_finding (1 : Int32) μ) fun r3 μ3 => some (r3, μ3)
set_option maxRecDepth 100000 in
set_option maxHeartbeats 4000000 in
theorem w_X9_hold_18 {g : Gx} {p : Program} {l : Launch} {e : Env} {s : State} {m : MethodId} {args : Array Value} {below : List Frame} {meth : Method} {c : Code} (C0 : Cx Lx g p s m args meth c cX9_hold 5 (some .int) RX9) {r : Int32} {ν : Mem}   (μ : Mem) (H : Heap) (locs : List Loc) (ls : Array Slot) (hP : Px Lx g μ H) (hS : va_S (Ax Lx g) s.heap H locs) (hl : lv_has ls 5 [(0, .ref (g.2.2.1 + 0))]) (h : X9_hold_18   μ = some (r, ν)) : W p l e { frames := 6, cells := 0, slots := 0, locals := 152 } s m args below meth c H locs 0 0 (MQ below (Qx Lx g (some (.int r)) ν) args s 0 0 (Ax Lx g)) (F0 m 18 ls []) := by
  obtain ⟨hx, hb, hr, hml, hown, hts, hlocks, hK⟩ := id C0
  unfold X9_hold_18 at h
  refine lv_aload_n hx hb dX9_hold_18 rfl (lv_at hl 0 rfl) ?_
  refine lv_iconst (v := (1 : Int32)) hx hb dX9_hold_19 rfl ?_
  obtain ⟨r3, μ3, h1, h⟩ := ob2_some h
  refine x_callV C0 (rest := []) (q := (RX9, TX9, 9)) (c_X9_finding l g (1 : Int32) μ h1) q2_122 q2_119 q2_121 r1_0 q1_1 hd_X9_finding ⟨rfl, rfl⟩ ⟨Nat.le_of_ble_eq_true rfl, Nat.le_of_ble_eq_true rfl⟩ cx_0 (by decide) rfl hP hS hl.1 rfl rfl (Nat.le_of_ble_eq_true rfl) dX9_hold_20 (fun H locs hP hS => ?_)
  refine W.eq (g2 := F0 m 23 ls [.int r3]) rfl ?_
  obtain ⟨rfl, rfl⟩ := some2 h
  exact x_iret C0 hP hS dX9_hold_23
def X9_hold (x1 : Int32) (x2 : Int32) (x3 : Int32) (x4 : Int32) (μ : Mem) : Option (Int32 × Mem) :=
  ob2 (X9_isHolding x1 x2 x3 μ) fun r1 μ1 => (if r1 = (0 : Int32) then X9_hold_18 μ1 else ob2 (X9_isPart x4 μ1) fun r4 μ4 => (if r4 = (0 : Int32) then X9_hold_18 μ4 else gd (inB x2 4) (ob2 (X4_isMissing (88 + 2 * x2.toNatClampNeg) μ4) fun r7 μ7 => (if r7 = (0 : Int32) then gd (inB x1 8) (gd (inB x2 4) (ob2 (X9_darkMore (24 + 2 * x1.toNatClampNeg) (88 + 2 * x2.toNatClampNeg) x3 x4 (9000 : Int32) μ7) fun r11 μ11 => some (r11, μ11))) else ob2 (X9_finding (2 : Int32) μ7) fun r12 μ12 => some (r12, μ12)))))
set_option maxRecDepth 100000 in
set_option maxHeartbeats 4000000 in
theorem c_X9_hold (l : Launch) (g : Gx) (x1 : Int32) (x2 : Int32) (x3 : Int32) (x4 : Int32) (μ : Mem) {r : Int32} {ν : Mem} (h : X9_hold x1 x2 x3 x4 μ = some (r, ν)) : Ct Lx g l yX9_hold cX9_hold 5 (some .int) { frames := 6, cells := 0, slots := 0, locals := 152 } [.ref (g.2.2.1 + 0), .int x1, .int x2, .int x3, .int x4] μ (some (.int r)) ν := by
  refine x_met (lv := [(0, .ref (g.2.2.1 + 0)), (1, .int x1), (2, .int x2), (3, .int x3), (4, .int x4)]) rfl (Nat.le_of_ble_eq_true rfl) rfl ?_
  intro p e s m below meth c C0 hP ls hl
  generalize ([.ref (g.2.2.1 + 0), .int x1, .int x2, .int x3, .int x4] : List Value).toArray = args at C0 ⊢
  have C0 : Cx Lx g p s m args meth c cX9_hold 5 (some .int) RX9 := C0
  have hS : va_S (Ax Lx g) s.heap s.heap [] := va_S.rf
  obtain ⟨hx, hb, hr, hml, hown, hts, hlocks, hK⟩ := id C0
  unfold X9_hold at h
  skip
  refine lv_aload_n hx hb dX9_hold_0 rfl (lv_at hl 0 rfl) ?_
  refine lv_iload_n hx hb dX9_hold_1 rfl (lv_at hl 1 rfl) ?_
  refine lv_iload_n hx hb dX9_hold_2 rfl (lv_at hl 2 rfl) ?_
  refine lv_iload_n hx hb dX9_hold_3 rfl (lv_at hl 3 rfl) ?_
  obtain ⟨r1, μ1, h1, h⟩ := ob2_some h
  refine x_callV C0 (rest := []) (q := (RX9, TX9, 9)) (c_X9_isHolding l g x1 x2 x3 μ h1) q3_207 q3_204 q3_206 r1_14 q1_1 hd_X9_isHolding ⟨rfl, rfl⟩ ⟨Nat.le_of_ble_eq_true rfl, Nat.le_of_ble_eq_true rfl⟩ cx_0 (by decide) rfl hP hS hl.1 rfl rfl (Nat.le_of_ble_eq_true rfl) dX9_hold_4 (fun H locs hP hS => ?_)
  refine W.eq (g2 := F0 m 7 ls [.int r1]) rfl ?_
  refine lv_if_eq (tgt := 18) hx hb dX9_hold_7 (by decide) (fun c2 => ?_) (fun c2 => ?_)
  · rw [if_pos c2] at h
    exact w_X9_hold_18 C0   μ1 _ _ _ hP hS (lv_sub hl [0] rfl) h
  · rw [if_neg c2] at h
    refine lv_iload hx hb dX9_hold_10 (lv_at hl 4 rfl) ?_
    obtain ⟨r4, μ4, h1, h⟩ := ob2_some h
    refine x_callS C0 (rest := []) (c_X9_isPart l g x4 μ1 h1) q2_189 q2_187 q2_188 q1_1 hd_X9_isPart ⟨rfl, rfl⟩ ⟨Nat.le_of_ble_eq_true rfl, Nat.le_of_ble_eq_true rfl⟩ hP hS hl.1 rfl rfl (Nat.le_of_ble_eq_true rfl) dX9_hold_12 (fun H locs hP hS => ?_)
    refine W.eq (g2 := F0 m 15 ls [.int r4]) rfl ?_
    refine lv_if_ne (tgt := 24) hx hb dX9_hold_15 (by decide) (fun c5 => ?_) (fun c5 => ?_)
    · rw [if_neg c5] at h
      refine lv_aload_n hx hb dX9_hold_24 rfl (lv_at hl 0 rfl) ?_
      refine x_get C0 hP inu9 (k := 0) cx_0 (by decide) rfl 5 (by decide) q2_86 rfl (v := .ref (g.2.2.1 + 85)) rfl dX9_hold_25 ?_
      refine lv_iload_n hx hb dX9_hold_28 rfl (lv_at hl 2 rfl) ?_
      obtain ⟨z6, h⟩ := gd_some h
      refine x_saald C0 hP (k := 85) cx_85 (j := x2.toNatClampNeg) z6 rfl dX9_hold_29 ?_
      refine W.eq (g2 := F0 m 30 ls [.ref (g.2.2.1 + (88 + 2 * x2.toNatClampNeg))]) rfl ?_
      obtain ⟨r7, μ7, h1, h⟩ := ob2_some h
      refine x_callV C0 (rest := []) (q := (RX4, TX4, 3)) (c_X4_isMissing l g (88 + 2 * x2.toNatClampNeg) (sht_i z6) μ4 h1) q3_214 q3_211 q3_212 q3_213 q1_10 hd_X4_isMissing ⟨rfl, rfl⟩ ⟨Nat.le_of_ble_eq_true rfl, Nat.le_of_ble_eq_true rfl⟩ (id4_0 (sht_i z6)) (by decide) rfl hP hS hl.1 rfl rfl (Nat.le_of_ble_eq_true rfl) dX9_hold_30 (fun H locs hP hS => ?_)
      refine W.eq (g2 := F0 m 33 ls [.int r7]) rfl ?_
      refine lv_if_eq (tgt := 42) hx hb dX9_hold_33 (by decide) (fun c8 => ?_) (fun c8 => ?_)
      · rw [if_pos c8] at h
        refine lv_aload_n hx hb dX9_hold_42 rfl (lv_at hl 0 rfl) ?_
        refine lv_aload_n hx hb dX9_hold_43 rfl (lv_at hl 0 rfl) ?_
        refine x_get C0 hP inu9 (k := 0) cx_0 (by decide) rfl 0 (by decide) q2_81 rfl (v := .ref (g.2.2.1 + 1)) rfl dX9_hold_44 ?_
        refine x_get C0 hP inu7 (k := 1) cx_1 (by decide) rfl 0 (by decide) q1_221 rfl (v := .ref (g.2.2.1 + 2)) rfl dX9_hold_47 ?_
        refine lv_iload_n hx hb dX9_hold_50 rfl (lv_at hl 1 rfl) ?_
        obtain ⟨z9, h⟩ := gd_some h
        refine x_maald C0 hP (k := 2) cx_2 (j := x1.toNatClampNeg) z9 rfl dX9_hold_51 ?_
        refine W.eq (g2 := F0 m 52 ls [.ref (g.2.2.1 + (24 + 2 * x1.toNatClampNeg)), .ref (g.2.2.1 + 0)]) rfl ?_
        refine lv_aload_n hx hb dX9_hold_52 rfl (lv_at hl 0 rfl) ?_
        refine x_get C0 hP inu9 (k := 0) cx_0 (by decide) rfl 5 (by decide) q2_86 rfl (v := .ref (g.2.2.1 + 85)) rfl dX9_hold_53 ?_
        refine lv_iload_n hx hb dX9_hold_56 rfl (lv_at hl 2 rfl) ?_
        obtain ⟨z10, h⟩ := gd_some h
        refine x_saald C0 hP (k := 85) cx_85 (j := x2.toNatClampNeg) z10 rfl dX9_hold_57 ?_
        refine W.eq (g2 := F0 m 58 ls [.ref (g.2.2.1 + (88 + 2 * x2.toNatClampNeg)), .ref (g.2.2.1 + (24 + 2 * x1.toNatClampNeg)), .ref (g.2.2.1 + 0)]) rfl ?_
        refine lv_iload_n hx hb dX9_hold_58 rfl (lv_at hl 3 rfl) ?_
        refine lv_iload hx hb dX9_hold_59 (lv_at hl 4 rfl) ?_
        refine lv_sipush (v := (9000 : Int32)) hx hb dX9_hold_61 (by decide +kernel) ?_
        obtain ⟨r11, μ11, h1, h⟩ := ob2_some h
        refine x_callV C0 (rest := []) (q := (RX9, TX9, 9)) (c_X9_darkMore l g (24 + 2 * x1.toNatClampNeg) (met_i z9) (88 + 2 * x2.toNatClampNeg) (sht_i z10) x3 x4 (9000 : Int32) μ7 h1) q3_218 q3_215 q3_217 r1_15 q1_1 hd_X9_darkMore ⟨rfl, rfl⟩ ⟨Nat.le_of_ble_eq_true rfl, Nat.le_of_ble_eq_true rfl⟩ cx_0 (by decide) rfl hP hS hl.1 rfl rfl (Nat.le_of_ble_eq_true rfl) dX9_hold_64 (fun H locs hP hS => ?_)
        refine W.eq (g2 := F0 m 67 ls [.int r11]) rfl ?_
        obtain ⟨rfl, rfl⟩ := some2 h
        exact x_iret C0 hP hS dX9_hold_67
      · rw [if_neg c8] at h
        refine lv_aload_n hx hb dX9_hold_36 rfl (lv_at hl 0 rfl) ?_
        refine lv_iconst (v := (2 : Int32)) hx hb dX9_hold_37 rfl ?_
        obtain ⟨r12, μ12, h1, h⟩ := ob2_some h
        refine x_callV C0 (rest := []) (q := (RX9, TX9, 9)) (c_X9_finding l g (2 : Int32) μ7 h1) q2_122 q2_119 q2_121 r1_0 q1_1 hd_X9_finding ⟨rfl, rfl⟩ ⟨Nat.le_of_ble_eq_true rfl, Nat.le_of_ble_eq_true rfl⟩ cx_0 (by decide) rfl hP hS hl.1 rfl rfl (Nat.le_of_ble_eq_true rfl) dX9_hold_38 (fun H locs hP hS => ?_)
        refine W.eq (g2 := F0 m 41 ls [.int r12]) rfl ?_
        obtain ⟨rfl, rfl⟩ := some2 h
        exact x_iret C0 hP hS dX9_hold_41
    · rw [if_pos c5] at h
      exact w_X9_hold_18 C0   μ4 _ _ _ hP hS (lv_sub hl [0] rfl) h
