def X9_sheet_29   (μ : Mem) : Option (Int32 × Mem) :=
  ob2 (X9_finding (1 : Int32) μ) fun r3 μ3 => some (r3, μ3)
set_option maxRecDepth 100000 in
set_option maxHeartbeats 4000000 in
theorem w_X9_sheet_29 {g : Gx} {p : Program} {l : Launch} {e : Env} {s : State} {m : MethodId} {args : Array Value} {below : List Frame} {meth : Method} {c : Code} (C0 : Cx Lx g p s m args meth c cX9_sheet 4 (some .int) RX9) {r : Int32} {ν : Mem}   (μ : Mem) (H : Heap) (locs : List Loc) (ls : Array Slot) (hP : Px Lx g μ H) (hS : va_S (Ax Lx g) s.heap H locs) (hl : lv_has ls 4 [(0, .ref (g.2.2.1 + 0))]) (h : X9_sheet_29   μ = some (r, ν)) : W p l e { frames := 3, cells := 0, slots := 0, locals := 59 } s m args below meth c H locs 0 0 (MQ below (Qx Lx g (some (.int r)) ν) args s 0 0 (Ax Lx g)) (F0 m 29 ls []) := by
  obtain ⟨hx, hb, hr, hml, hown, hts, hlocks, hK⟩ := id C0
  unfold X9_sheet_29 at h
  refine lv_aload_n hx hb dX9_sheet_29 rfl (lv_at hl 0 rfl) ?_
  refine lv_iconst (v := (1 : Int32)) hx hb dX9_sheet_30 rfl ?_
  obtain ⟨r3, μ3, h1, h⟩ := ob2_some h
  refine x_callV C0 (rest := []) (q := (RX9, TX9, 9)) (c_X9_finding l g (1 : Int32) μ h1) q2_122 q2_119 q2_121 r1_0 q1_1 hd_X9_finding ⟨rfl, rfl⟩ ⟨Nat.le_of_ble_eq_true rfl, Nat.le_of_ble_eq_true rfl⟩ cx_0 (by decide) rfl hP hS hl.1 rfl rfl (Nat.le_of_ble_eq_true rfl) dX9_sheet_31 (fun H locs hP hS => ?_)
  refine W.eq (g2 := F0 m 34 ls [.int r3]) rfl ?_
  obtain ⟨rfl, rfl⟩ := some2 h
  exact x_iret C0 hP hS dX9_sheet_34
def X9_sheet_65  (x1 : Int32) (x2 : Int32) (x3 : Int32) (μ : Mem) : Option (Int32 × Mem) :=
  gd (inB x1 4) (ob (X4_begin (88 + 2 * x1.toNatClampNeg) x2 x3 μ) fun μ8 => some ((1 : Int32), μ8))
set_option maxRecDepth 100000 in
set_option maxHeartbeats 4000000 in
theorem w_X9_sheet_65 {g : Gx} {p : Program} {l : Launch} {e : Env} {s : State} {m : MethodId} {args : Array Value} {below : List Frame} {meth : Method} {c : Code} (C0 : Cx Lx g p s m args meth c cX9_sheet 4 (some .int) RX9) {r : Int32} {ν : Mem}  (x1 : Int32) (x2 : Int32) (x3 : Int32) (μ : Mem) (H : Heap) (locs : List Loc) (ls : Array Slot) (hP : Px Lx g μ H) (hS : va_S (Ax Lx g) s.heap H locs) (hl : lv_has ls 4 [(0, .ref (g.2.2.1 + 0)), (1, .int x1), (2, .int x2), (3, .int x3)]) (h : X9_sheet_65  x1 x2 x3 μ = some (r, ν)) : W p l e { frames := 3, cells := 0, slots := 0, locals := 59 } s m args below meth c H locs 0 0 (MQ below (Qx Lx g (some (.int r)) ν) args s 0 0 (Ax Lx g)) (F0 m 65 ls []) := by
  obtain ⟨hx, hb, hr, hml, hown, hts, hlocks, hK⟩ := id C0
  unfold X9_sheet_65 at h
  refine lv_aload_n hx hb dX9_sheet_65 rfl (lv_at hl 0 rfl) ?_
  refine x_get C0 hP inu9 (k := 0) cx_0 (by decide) rfl 5 (by decide) q2_86 rfl (v := .ref (g.2.2.1 + 85)) rfl dX9_sheet_66 ?_
  refine lv_iload_n hx hb dX9_sheet_69 rfl (lv_at hl 1 rfl) ?_
  obtain ⟨z7, h⟩ := gd_some h
  refine x_saald C0 hP (k := 85) cx_85 (j := x1.toNatClampNeg) z7 rfl dX9_sheet_70 ?_
  refine W.eq (g2 := F0 m 71 ls [.ref (g.2.2.1 + (88 + 2 * x1.toNatClampNeg))]) rfl ?_
  refine lv_iload_n hx hb dX9_sheet_71 rfl (lv_at hl 2 rfl) ?_
  refine lv_iload_n hx hb dX9_sheet_72 rfl (lv_at hl 3 rfl) ?_
  obtain ⟨μ8, h1, h⟩ := ob_some h
  refine x_callV C0 (rest := []) (q := (RX4, TX4, 3)) (c_X4_begin l g (88 + 2 * x1.toNatClampNeg) (sht_i z7) x2 x3 μ h1) q4_56 q4_53 q4_54 q4_55 q1_10 hd_X4_begin ⟨rfl, rfl⟩ ⟨Nat.le_of_ble_eq_true rfl, Nat.le_of_ble_eq_true rfl⟩ (id4_0 (sht_i z7)) (by decide) rfl hP hS hl.1 rfl rfl (Nat.le_of_ble_eq_true rfl) dX9_sheet_73 (fun H locs hP hS => ?_)
  refine W.eq (g2 := F0 m 76 ls []) rfl ?_
  refine lv_iconst (v := (1 : Int32)) hx hb dX9_sheet_76 rfl ?_
  obtain ⟨rfl, rfl⟩ := some2 h
  exact x_iret C0 hP hS dX9_sheet_77
def X9_sheet_49  (x1 : Int32) (x2 : Int32) (x3 : Int32) (μ : Mem) : Option (Int32 × Mem) :=
  (if x2 = (0 : Int32) then X9_sheet_65 x1 x2 x3 μ else (if x3 ≤ (24 : Int32) then X9_sheet_65 x1 x2 x3 μ else ob2 (X9_finding (1 : Int32) μ) fun r10 μ10 => some (r10, μ10)))
set_option maxRecDepth 100000 in
set_option maxHeartbeats 4000000 in
theorem w_X9_sheet_49 {g : Gx} {p : Program} {l : Launch} {e : Env} {s : State} {m : MethodId} {args : Array Value} {below : List Frame} {meth : Method} {c : Code} (C0 : Cx Lx g p s m args meth c cX9_sheet 4 (some .int) RX9) {r : Int32} {ν : Mem}  (x1 : Int32) (x2 : Int32) (x3 : Int32) (μ : Mem) (H : Heap) (locs : List Loc) (ls : Array Slot) (hP : Px Lx g μ H) (hS : va_S (Ax Lx g) s.heap H locs) (hl : lv_has ls 4 [(0, .ref (g.2.2.1 + 0)), (1, .int x1), (2, .int x2), (3, .int x3)]) (h : X9_sheet_49  x1 x2 x3 μ = some (r, ν)) : W p l e { frames := 3, cells := 0, slots := 0, locals := 59 } s m args below meth c H locs 0 0 (MQ below (Qx Lx g (some (.int r)) ν) args s 0 0 (Ax Lx g)) (F0 m 49 ls []) := by
  obtain ⟨hx, hb, hr, hml, hown, hts, hlocks, hK⟩ := id C0
  unfold X9_sheet_49 at h
  refine lv_iload_n hx hb dX9_sheet_49 rfl (lv_at hl 2 rfl) ?_
  refine lv_if_eq (tgt := 65) hx hb dX9_sheet_50 (by decide) (fun c6 => ?_) (fun c6 => ?_)
  · rw [if_pos c6] at h
    exact w_X9_sheet_65 C0  x1 x2 x3 μ _ _ _ hP hS (lv_sub hl [0, 1, 2, 3] rfl) h
  · rw [if_neg c6] at h
    refine lv_iload_n hx hb dX9_sheet_53 rfl (lv_at hl 3 rfl) ?_
    refine lv_bipush (v := (24 : Int32)) hx hb dX9_sheet_54 (by decide +kernel) ?_
    refine lv_icmp_le (tgt := 65) hx hb dX9_sheet_56 (by decide) (fun c9 => ?_) (fun c9 => ?_)
    · rw [if_pos c9] at h
      exact w_X9_sheet_65 C0  x1 x2 x3 μ _ _ _ hP hS (lv_sub hl [0, 1, 2, 3] rfl) h
    · rw [if_neg c9] at h
      refine lv_aload_n hx hb dX9_sheet_59 rfl (lv_at hl 0 rfl) ?_
      refine lv_iconst (v := (1 : Int32)) hx hb dX9_sheet_60 rfl ?_
      obtain ⟨r10, μ10, h1, h⟩ := ob2_some h
      refine x_callV C0 (rest := []) (q := (RX9, TX9, 9)) (c_X9_finding l g (1 : Int32) μ h1) q2_122 q2_119 q2_121 r1_0 q1_1 hd_X9_finding ⟨rfl, rfl⟩ ⟨Nat.le_of_ble_eq_true rfl, Nat.le_of_ble_eq_true rfl⟩ cx_0 (by decide) rfl hP hS hl.1 rfl rfl (Nat.le_of_ble_eq_true rfl) dX9_sheet_61 (fun H locs hP hS => ?_)
      refine W.eq (g2 := F0 m 64 ls [.int r10]) rfl ?_
      obtain ⟨rfl, rfl⟩ := some2 h
      exact x_iret C0 hP hS dX9_sheet_64
def X9_sheet_35  (x1 : Int32) (x2 : Int32) (x3 : Int32) (μ : Mem) : Option (Int32 × Mem) :=
  (if x2 = (0 : Int32) then X9_sheet_49 x1 x2 x3 μ else (if (0 : Int32) ≤ x3 then X9_sheet_49 x1 x2 x3 μ else ob2 (X9_finding (3 : Int32) μ) fun r12 μ12 => some (r12, μ12)))
set_option maxRecDepth 100000 in
set_option maxHeartbeats 4000000 in
theorem w_X9_sheet_35 {g : Gx} {p : Program} {l : Launch} {e : Env} {s : State} {m : MethodId} {args : Array Value} {below : List Frame} {meth : Method} {c : Code} (C0 : Cx Lx g p s m args meth c cX9_sheet 4 (some .int) RX9) {r : Int32} {ν : Mem}  (x1 : Int32) (x2 : Int32) (x3 : Int32) (μ : Mem) (H : Heap) (locs : List Loc) (ls : Array Slot) (hP : Px Lx g μ H) (hS : va_S (Ax Lx g) s.heap H locs) (hl : lv_has ls 4 [(0, .ref (g.2.2.1 + 0)), (1, .int x1), (2, .int x2), (3, .int x3)]) (h : X9_sheet_35  x1 x2 x3 μ = some (r, ν)) : W p l e { frames := 3, cells := 0, slots := 0, locals := 59 } s m args below meth c H locs 0 0 (MQ below (Qx Lx g (some (.int r)) ν) args s 0 0 (Ax Lx g)) (F0 m 35 ls []) := by
  obtain ⟨hx, hb, hr, hml, hown, hts, hlocks, hK⟩ := id C0
  unfold X9_sheet_35 at h
  refine lv_iload_n hx hb dX9_sheet_35 rfl (lv_at hl 2 rfl) ?_
  refine lv_if_eq (tgt := 49) hx hb dX9_sheet_36 (by decide) (fun c5 => ?_) (fun c5 => ?_)
  · rw [if_pos c5] at h
    exact w_X9_sheet_49 C0  x1 x2 x3 μ _ _ _ hP hS (lv_sub hl [0, 1, 2, 3] rfl) h
  · rw [if_neg c5] at h
    refine lv_iload_n hx hb dX9_sheet_39 rfl (lv_at hl 3 rfl) ?_
    refine lv_if_ge (tgt := 49) hx hb dX9_sheet_40 (by decide) (fun c11 => ?_) (fun c11 => ?_)
    · rw [if_pos c11] at h
      exact w_X9_sheet_49 C0  x1 x2 x3 μ _ _ _ hP hS (lv_sub hl [0, 1, 2, 3] rfl) h
    · rw [if_neg c11] at h
      refine lv_aload_n hx hb dX9_sheet_43 rfl (lv_at hl 0 rfl) ?_
      refine lv_iconst (v := (3 : Int32)) hx hb dX9_sheet_44 rfl ?_
      obtain ⟨r12, μ12, h1, h⟩ := ob2_some h
      refine x_callV C0 (rest := []) (q := (RX9, TX9, 9)) (c_X9_finding l g (3 : Int32) μ h1) q2_122 q2_119 q2_121 r1_0 q1_1 hd_X9_finding ⟨rfl, rfl⟩ ⟨Nat.le_of_ble_eq_true rfl, Nat.le_of_ble_eq_true rfl⟩ cx_0 (by decide) rfl hP hS hl.1 rfl rfl (Nat.le_of_ble_eq_true rfl) dX9_sheet_45 (fun H locs hP hS => ?_)
      refine W.eq (g2 := F0 m 48 ls [.int r12]) rfl ?_
      obtain ⟨rfl, rfl⟩ := some2 h
      exact x_iret C0 hP hS dX9_sheet_48
def X9_sheet (x1 : Int32) (x2 : Int32) (x3 : Int32) (μ : Mem) : Option (Int32 × Mem) :=
  ob2 (X9_isSheet x1 μ) fun r1 μ1 => (if r1 = (0 : Int32) then X9_sheet_29 μ1 else (if x2 = (0 : Int32) then X9_sheet_35 x1 x2 x3 μ1 else (if x2 = (8 : Int32) then X9_sheet_35 x1 x2 x3 μ1 else (if x2 = (16 : Int32) then X9_sheet_35 x1 x2 x3 μ1 else (if x2 = (32 : Int32) then X9_sheet_35 x1 x2 x3 μ1 else X9_sheet_29 μ1)))))
set_option maxRecDepth 100000 in
set_option maxHeartbeats 4000000 in
theorem c_X9_sheet (l : Launch) (g : Gx) (x1 : Int32) (x2 : Int32) (x3 : Int32) (μ : Mem) {r : Int32} {ν : Mem} (h : X9_sheet x1 x2 x3 μ = some (r, ν)) : Ct Lx g l yX9_sheet cX9_sheet 4 (some .int) { frames := 3, cells := 0, slots := 0, locals := 59 } [.ref (g.2.2.1 + 0), .int x1, .int x2, .int x3] μ (some (.int r)) ν := by
  refine x_met (lv := [(0, .ref (g.2.2.1 + 0)), (1, .int x1), (2, .int x2), (3, .int x3)]) rfl (Nat.le_of_ble_eq_true rfl) rfl ?_
  intro p e s m below meth c C0 hP ls hl
  generalize ([.ref (g.2.2.1 + 0), .int x1, .int x2, .int x3] : List Value).toArray = args at C0 ⊢
  have C0 : Cx Lx g p s m args meth c cX9_sheet 4 (some .int) RX9 := C0
  have hS : va_S (Ax Lx g) s.heap s.heap [] := va_S.rf
  obtain ⟨hx, hb, hr, hml, hown, hts, hlocks, hK⟩ := id C0
  unfold X9_sheet at h
  skip
  refine lv_iload_n hx hb dX9_sheet_0 rfl (lv_at hl 1 rfl) ?_
  obtain ⟨r1, μ1, h1, h⟩ := ob2_some h
  refine x_callS C0 (rest := []) (c_X9_isSheet l g x1 μ h1) q3_210 q3_208 q3_209 q1_1 hd_X9_isSheet ⟨rfl, rfl⟩ ⟨Nat.le_of_ble_eq_true rfl, Nat.le_of_ble_eq_true rfl⟩ hP hS hl.1 rfl rfl (Nat.le_of_ble_eq_true rfl) dX9_sheet_1 (fun H locs hP hS => ?_)
  refine W.eq (g2 := F0 m 4 ls [.int r1]) rfl ?_
  refine lv_if_eq (tgt := 29) hx hb dX9_sheet_4 (by decide) (fun c2 => ?_) (fun c2 => ?_)
  · rw [if_pos c2] at h
    exact w_X9_sheet_29 C0   μ1 _ _ _ hP hS (lv_sub hl [0] rfl) h
  · rw [if_neg c2] at h
    refine lv_iload_n hx hb dX9_sheet_7 rfl (lv_at hl 2 rfl) ?_
    refine lv_if_eq (tgt := 35) hx hb dX9_sheet_8 (by decide) (fun c4 => ?_) (fun c4 => ?_)
    · rw [if_pos c4] at h
      exact w_X9_sheet_35 C0  x1 x2 x3 μ1 _ _ _ hP hS (lv_sub hl [0, 1, 2, 3] rfl) h
    · rw [if_neg c4] at h
      refine lv_iload_n hx hb dX9_sheet_11 rfl (lv_at hl 2 rfl) ?_
      refine lv_bipush (v := (8 : Int32)) hx hb dX9_sheet_12 (by decide +kernel) ?_
      refine lv_icmp_eq (tgt := 35) hx hb dX9_sheet_14 (by decide) (fun c13 => ?_) (fun c13 => ?_)
      · rw [if_pos c13] at h
        exact w_X9_sheet_35 C0  x1 x2 x3 μ1 _ _ _ hP hS (lv_sub hl [0, 1, 2, 3] rfl) h
      · rw [if_neg c13] at h
        refine lv_iload_n hx hb dX9_sheet_17 rfl (lv_at hl 2 rfl) ?_
        refine lv_bipush (v := (16 : Int32)) hx hb dX9_sheet_18 (by decide +kernel) ?_
        refine lv_icmp_eq (tgt := 35) hx hb dX9_sheet_20 (by decide) (fun c14 => ?_) (fun c14 => ?_)
        · rw [if_pos c14] at h
          exact w_X9_sheet_35 C0  x1 x2 x3 μ1 _ _ _ hP hS (lv_sub hl [0, 1, 2, 3] rfl) h
        · rw [if_neg c14] at h
          refine lv_iload_n hx hb dX9_sheet_23 rfl (lv_at hl 2 rfl) ?_
          refine lv_bipush (v := (32 : Int32)) hx hb dX9_sheet_24 (by decide +kernel) ?_
          refine lv_icmp_eq (tgt := 35) hx hb dX9_sheet_26 (by decide) (fun c15 => ?_) (fun c15 => ?_)
          · rw [if_pos c15] at h
            exact w_X9_sheet_35 C0  x1 x2 x3 μ1 _ _ _ hP hS (lv_sub hl [0, 1, 2, 3] rfl) h
          · rw [if_neg c15] at h
            exact w_X9_sheet_29 C0   μ1 _ _ _ hP hS (lv_sub hl [0] rfl) h
def X9_put_48   (μ : Mem) : Option (Int32 × Mem) :=
  ob2 (X9_finding (1 : Int32) μ) fun r7 μ7 => some (r7, μ7)
set_option maxRecDepth 100000 in
set_option maxHeartbeats 4000000 in
theorem w_X9_put_48 {g : Gx} {p : Program} {l : Launch} {e : Env} {s : State} {m : MethodId} {args : Array Value} {below : List Frame} {meth : Method} {c : Code} (C0 : Cx Lx g p s m args meth c cX9_put 5 (some .int) RX9) {r : Int32} {ν : Mem}   (μ : Mem) (H : Heap) (locs : List Loc) (ls : Array Slot) (hP : Px Lx g μ H) (hS : va_S (Ax Lx g) s.heap H locs) (hl : lv_has ls 5 [(0, .ref (g.2.2.1 + 0))]) (h : X9_put_48   μ = some (r, ν)) : W p l e { frames := 2, cells := 0, slots := 0, locals := 43 } s m args below meth c H locs 0 0 (MQ below (Qx Lx g (some (.int r)) ν) args s 0 0 (Ax Lx g)) (F0 m 48 ls []) := by
  obtain ⟨hx, hb, hr, hml, hown, hts, hlocks, hK⟩ := id C0
  unfold X9_put_48 at h
  refine lv_aload_n hx hb dX9_put_48 rfl (lv_at hl 0 rfl) ?_
  refine lv_iconst (v := (1 : Int32)) hx hb dX9_put_49 rfl ?_
  obtain ⟨r7, μ7, h1, h⟩ := ob2_some h
  refine x_callV C0 (rest := []) (q := (RX9, TX9, 9)) (c_X9_finding l g (1 : Int32) μ h1) q2_122 q2_119 q2_121 r1_0 q1_1 hd_X9_finding ⟨rfl, rfl⟩ ⟨Nat.le_of_ble_eq_true rfl, Nat.le_of_ble_eq_true rfl⟩ cx_0 (by decide) rfl hP hS hl.1 rfl rfl (Nat.le_of_ble_eq_true rfl) dX9_put_50 (fun H locs hP hS => ?_)
  refine W.eq (g2 := F0 m 53 ls [.int r7]) rfl ?_
  obtain ⟨rfl, rfl⟩ := some2 h
  exact x_iret C0 hP hS dX9_put_53
def X9_put (x1 : Int32) (x2 : Int32) (x3 : Int32) (μ : Mem) : Option (Int32 × Mem) :=
  ob2 (X9_isSheet x1 μ) fun r1 μ1 => (if r1 = (0 : Int32) then ob2 (X9_finding (1 : Int32) μ1) fun r11 μ11 => some (r11, μ11) else gd (inB x1 4) (ob2 (X4_isMissing (88 + 2 * x1.toNatClampNeg) μ1) fun r4 μ4 => (if r4 = (0 : Int32) then (if x2 < (0 : Int32) then X9_put_48 μ4 else (if x2 < (μ4 (88 + 2 * x1.toNatClampNeg) 2) then ob (X4_write (88 + 2 * x1.toNatClampNeg) x2 x3 μ4) fun μ9 => some ((1 : Int32), μ9) else X9_put_48 μ4)) else ob2 (X9_finding (2 : Int32) μ4) fun r10 μ10 => some (r10, μ10))))
set_option maxRecDepth 100000 in
set_option maxHeartbeats 4000000 in
theorem c_X9_put (l : Launch) (g : Gx) (x1 : Int32) (x2 : Int32) (x3 : Int32) (μ : Mem) {r : Int32} {ν : Mem} (h : X9_put x1 x2 x3 μ = some (r, ν)) : Ct Lx g l yX9_put cX9_put 5 (some .int) { frames := 2, cells := 0, slots := 0, locals := 43 } [.ref (g.2.2.1 + 0), .int x1, .int x2, .int x3] μ (some (.int r)) ν := by
  refine x_met (lv := [(0, .ref (g.2.2.1 + 0)), (1, .int x1), (2, .int x2), (3, .int x3)]) rfl (Nat.le_of_ble_eq_true rfl) rfl ?_
  intro p e s m below meth c C0 hP ls hl
  generalize ([.ref (g.2.2.1 + 0), .int x1, .int x2, .int x3] : List Value).toArray = args at C0 ⊢
  have C0 : Cx Lx g p s m args meth c cX9_put 5 (some .int) RX9 := C0
  have hS : va_S (Ax Lx g) s.heap s.heap [] := va_S.rf
  obtain ⟨hx, hb, hr, hml, hown, hts, hlocks, hK⟩ := id C0
  unfold X9_put at h
  skip
  refine lv_iload_n hx hb dX9_put_0 rfl (lv_at hl 1 rfl) ?_
  obtain ⟨r1, μ1, h1, h⟩ := ob2_some h
  refine x_callS C0 (rest := []) (c_X9_isSheet l g x1 μ h1) q3_210 q3_208 q3_209 q1_1 hd_X9_isSheet ⟨rfl, rfl⟩ ⟨Nat.le_of_ble_eq_true rfl, Nat.le_of_ble_eq_true rfl⟩ hP hS hl.1 rfl rfl (Nat.le_of_ble_eq_true rfl) dX9_put_1 (fun H locs hP hS => ?_)
  refine W.eq (g2 := F0 m 4 ls [.int r1]) rfl ?_
  refine lv_if_ne (tgt := 13) hx hb dX9_put_4 (by decide) (fun c2 => ?_) (fun c2 => ?_)
  · rw [if_neg c2] at h
    refine lv_aload_n hx hb dX9_put_13 rfl (lv_at hl 0 rfl) ?_
    refine x_get C0 hP inu9 (k := 0) cx_0 (by decide) rfl 5 (by decide) q2_86 rfl (v := .ref (g.2.2.1 + 85)) rfl dX9_put_14 ?_
    refine lv_iload_n hx hb dX9_put_17 rfl (lv_at hl 1 rfl) ?_
    obtain ⟨z3, h⟩ := gd_some h
    refine x_saald C0 hP (k := 85) cx_85 (j := x1.toNatClampNeg) z3 rfl dX9_put_18 ?_
    refine W.eq (g2 := F0 m 19 ls [.ref (g.2.2.1 + (88 + 2 * x1.toNatClampNeg))]) rfl ?_
    refine lv_astore (lv' := [(4, .ref (g.2.2.1 + (88 + 2 * x1.toNatClampNeg))), (0, .ref (g.2.2.1 + 0)), (1, .int x1), (2, .int x2), (3, .int x3)]) hx hb dX9_put_19 hl (by decide) rfl (fun ls hl => ?_)
    refine lv_aload hx hb dX9_put_21 (lv_at hl 0 rfl) ?_
    obtain ⟨r4, μ4, h1, h⟩ := ob2_some h
    refine x_callV C0 (rest := []) (q := (RX4, TX4, 3)) (c_X4_isMissing l g (88 + 2 * x1.toNatClampNeg) (sht_i z3) μ1 h1) q3_214 q3_211 q3_212 q3_213 q1_10 hd_X4_isMissing ⟨rfl, rfl⟩ ⟨Nat.le_of_ble_eq_true rfl, Nat.le_of_ble_eq_true rfl⟩ (id4_0 (sht_i z3)) (by decide) rfl hP hS hl.1 rfl rfl (Nat.le_of_ble_eq_true rfl) dX9_put_23 (fun H locs hP hS => ?_)
    refine W.eq (g2 := F0 m 26 ls [.int r4]) rfl ?_
    refine lv_if_eq (tgt := 35) hx hb dX9_put_26 (by decide) (fun c5 => ?_) (fun c5 => ?_)
    · rw [if_pos c5] at h
      refine lv_iload_n hx hb dX9_put_35 rfl (lv_at hl 3 rfl) ?_
      refine lv_if_lt (tgt := 48) hx hb dX9_put_36 (by decide) (fun c6 => ?_) (fun c6 => ?_)
      · rw [if_pos c6] at h
        exact w_X9_put_48 C0   μ4 _ _ _ hP hS (lv_sub hl [1] rfl) h
      · rw [if_neg c6] at h
        refine lv_iload_n hx hb dX9_put_39 rfl (lv_at hl 3 rfl) ?_
        refine lv_aload hx hb dX9_put_40 (lv_at hl 0 rfl) ?_
        refine x_get C0 hP inu4 (k := (88 + 2 * x1.toNatClampNeg)) (id4_0 (sht_i z3)) (by decide) rfl 2 (by decide) q2_73 rfl (v := .int (μ4 (88 + 2 * x1.toNatClampNeg) 2)) rfl dX9_put_42 ?_
        refine lv_icmp_lt (tgt := 54) hx hb dX9_put_45 (by decide) (fun c8 => ?_) (fun c8 => ?_)
        · rw [if_pos c8] at h
          refine lv_aload hx hb dX9_put_54 (lv_at hl 0 rfl) ?_
          refine lv_iload_n hx hb dX9_put_56 rfl (lv_at hl 3 rfl) ?_
          refine lv_iload_n hx hb dX9_put_57 rfl (lv_at hl 4 rfl) ?_
          obtain ⟨μ9, h1, h⟩ := ob_some h
          refine x_callV C0 (rest := []) (q := (RX4, TX4, 3)) (c_X4_write l g (88 + 2 * x1.toNatClampNeg) (sht_i z3) x2 x3 μ4 h1) q4_65 q4_62 q4_63 q4_64 q1_10 hd_X4_write ⟨rfl, rfl⟩ ⟨Nat.le_of_ble_eq_true rfl, Nat.le_of_ble_eq_true rfl⟩ (id4_0 (sht_i z3)) (by decide) rfl hP hS hl.1 rfl rfl (Nat.le_of_ble_eq_true rfl) dX9_put_58 (fun H locs hP hS => ?_)
          refine W.eq (g2 := F0 m 61 ls []) rfl ?_
          refine lv_iconst (v := (1 : Int32)) hx hb dX9_put_61 rfl ?_
          obtain ⟨rfl, rfl⟩ := some2 h
          exact x_iret C0 hP hS dX9_put_62
        · rw [if_neg c8] at h
          exact w_X9_put_48 C0   μ4 _ _ _ hP hS (lv_sub hl [1] rfl) h
    · rw [if_neg c5] at h
      refine lv_aload_n hx hb dX9_put_29 rfl (lv_at hl 1 rfl) ?_
      refine lv_iconst (v := (2 : Int32)) hx hb dX9_put_30 rfl ?_
      obtain ⟨r10, μ10, h1, h⟩ := ob2_some h
      refine x_callV C0 (rest := []) (q := (RX9, TX9, 9)) (c_X9_finding l g (2 : Int32) μ4 h1) q2_122 q2_119 q2_121 r1_0 q1_1 hd_X9_finding ⟨rfl, rfl⟩ ⟨Nat.le_of_ble_eq_true rfl, Nat.le_of_ble_eq_true rfl⟩ cx_0 (by decide) rfl hP hS hl.1 rfl rfl (Nat.le_of_ble_eq_true rfl) dX9_put_31 (fun H locs hP hS => ?_)
      refine W.eq (g2 := F0 m 34 ls [.int r10]) rfl ?_
      obtain ⟨rfl, rfl⟩ := some2 h
      exact x_iret C0 hP hS dX9_put_34
  · rw [if_pos c2] at h
    refine lv_aload_n hx hb dX9_put_7 rfl (lv_at hl 0 rfl) ?_
    refine lv_iconst (v := (1 : Int32)) hx hb dX9_put_8 rfl ?_
    obtain ⟨r11, μ11, h1, h⟩ := ob2_some h
    refine x_callV C0 (rest := []) (q := (RX9, TX9, 9)) (c_X9_finding l g (1 : Int32) μ1 h1) q2_122 q2_119 q2_121 r1_0 q1_1 hd_X9_finding ⟨rfl, rfl⟩ ⟨Nat.le_of_ble_eq_true rfl, Nat.le_of_ble_eq_true rfl⟩ cx_0 (by decide) rfl hP hS hl.1 rfl rfl (Nat.le_of_ble_eq_true rfl) dX9_put_9 (fun H locs hP hS => ?_)
    refine W.eq (g2 := F0 m 12 ls [.int r11]) rfl ?_
    obtain ⟨rfl, rfl⟩ := some2 h
    exact x_iret C0 hP hS dX9_put_12
def X9_move_14   (μ : Mem) : Option (Int32 × Mem) :=
  ob2 (X9_finding (1 : Int32) μ) fun r3 μ3 => some (r3, μ3)
set_option maxRecDepth 100000 in
set_option maxHeartbeats 4000000 in
theorem w_X9_move_14 {g : Gx} {p : Program} {l : Launch} {e : Env} {s : State} {m : MethodId} {args : Array Value} {below : List Frame} {meth : Method} {c : Code} (C0 : Cx Lx g p s m args meth c cX9_move 8 (some .int) RX9) {r : Int32} {ν : Mem}   (μ : Mem) (H : Heap) (locs : List Loc) (ls : Array Slot) (hP : Px Lx g μ H) (hS : va_S (Ax Lx g) s.heap H locs) (hl : lv_has ls 8 [(0, .ref (g.2.2.1 + 0))]) (h : X9_move_14   μ = some (r, ν)) : W p l e { frames := 1, cells := 0, slots := 0, locals := 22 } s m args below meth c H locs 0 0 (MQ below (Qx Lx g (some (.int r)) ν) args s 0 0 (Ax Lx g)) (F0 m 14 ls []) := by
  obtain ⟨hx, hb, hr, hml, hown, hts, hlocks, hK⟩ := id C0
  unfold X9_move_14 at h
  refine lv_aload_n hx hb dX9_move_14 rfl (lv_at hl 0 rfl) ?_
  refine lv_iconst (v := (1 : Int32)) hx hb dX9_move_15 rfl ?_
  obtain ⟨r3, μ3, h1, h⟩ := ob2_some h
  refine x_callV C0 (rest := []) (q := (RX9, TX9, 9)) (c_X9_finding l g (1 : Int32) μ h1) q2_122 q2_119 q2_121 r1_0 q1_1 hd_X9_finding ⟨rfl, rfl⟩ ⟨Nat.le_of_ble_eq_true rfl, Nat.le_of_ble_eq_true rfl⟩ cx_0 (by decide) rfl hP hS hl.1 rfl rfl (Nat.le_of_ble_eq_true rfl) dX9_move_16 (fun H locs hP hS => ?_)
  refine W.eq (g2 := F0 m 19 ls [.int r3]) rfl ?_
  obtain ⟨rfl, rfl⟩ := some2 h
  exact x_iret C0 hP hS dX9_move_19
def X9_move_52   (μ : Mem) : Option (Int32 × Mem) :=
  ob2 (X9_finding (2 : Int32) μ) fun r10 μ10 => some (r10, μ10)
set_option maxRecDepth 100000 in
set_option maxHeartbeats 4000000 in
theorem w_X9_move_52 {g : Gx} {p : Program} {l : Launch} {e : Env} {s : State} {m : MethodId} {args : Array Value} {below : List Frame} {meth : Method} {c : Code} (C0 : Cx Lx g p s m args meth c cX9_move 8 (some .int) RX9) {r : Int32} {ν : Mem}   (μ : Mem) (H : Heap) (locs : List Loc) (ls : Array Slot) (hP : Px Lx g μ H) (hS : va_S (Ax Lx g) s.heap H locs) (hl : lv_has ls 8 [(0, .ref (g.2.2.1 + 0))]) (h : X9_move_52   μ = some (r, ν)) : W p l e { frames := 1, cells := 0, slots := 0, locals := 22 } s m args below meth c H locs 0 0 (MQ below (Qx Lx g (some (.int r)) ν) args s 0 0 (Ax Lx g)) (F0 m 52 ls []) := by
  obtain ⟨hx, hb, hr, hml, hown, hts, hlocks, hK⟩ := id C0
  unfold X9_move_52 at h
  refine lv_aload_n hx hb dX9_move_52 rfl (lv_at hl 0 rfl) ?_
  refine lv_iconst (v := (2 : Int32)) hx hb dX9_move_53 rfl ?_
  obtain ⟨r10, μ10, h1, h⟩ := ob2_some h
  refine x_callV C0 (rest := []) (q := (RX9, TX9, 9)) (c_X9_finding l g (2 : Int32) μ h1) q2_122 q2_119 q2_121 r1_0 q1_1 hd_X9_finding ⟨rfl, rfl⟩ ⟨Nat.le_of_ble_eq_true rfl, Nat.le_of_ble_eq_true rfl⟩ cx_0 (by decide) rfl hP hS hl.1 rfl rfl (Nat.le_of_ble_eq_true rfl) dX9_move_54 (fun H locs hP hS => ?_)
  refine W.eq (g2 := F0 m 57 ls [.int r10]) rfl ?_
  obtain ⟨rfl, rfl⟩ := some2 h
  exact x_iret C0 hP hS dX9_move_57
def X9_move_100   (μ : Mem) : Option (Int32 × Mem) :=
  ob2 (X9_finding (1 : Int32) μ) fun r16 μ16 => some (r16, μ16)
set_option maxRecDepth 100000 in
set_option maxHeartbeats 4000000 in
theorem w_X9_move_100 {g : Gx} {p : Program} {l : Launch} {e : Env} {s : State} {m : MethodId} {args : Array Value} {below : List Frame} {meth : Method} {c : Code} (C0 : Cx Lx g p s m args meth c cX9_move 8 (some .int) RX9) {r : Int32} {ν : Mem}   (μ : Mem) (H : Heap) (locs : List Loc) (ls : Array Slot) (hP : Px Lx g μ H) (hS : va_S (Ax Lx g) s.heap H locs) (hl : lv_has ls 8 [(0, .ref (g.2.2.1 + 0))]) (h : X9_move_100   μ = some (r, ν)) : W p l e { frames := 1, cells := 0, slots := 0, locals := 22 } s m args below meth c H locs 0 0 (MQ below (Qx Lx g (some (.int r)) ν) args s 0 0 (Ax Lx g)) (F0 m 100 ls []) := by
  obtain ⟨hx, hb, hr, hml, hown, hts, hlocks, hK⟩ := id C0
  unfold X9_move_100 at h
  refine lv_aload_n hx hb dX9_move_100 rfl (lv_at hl 0 rfl) ?_
  refine lv_iconst (v := (1 : Int32)) hx hb dX9_move_101 rfl ?_
  obtain ⟨r16, μ16, h1, h⟩ := ob2_some h
  refine x_callV C0 (rest := []) (q := (RX9, TX9, 9)) (c_X9_finding l g (1 : Int32) μ h1) q2_122 q2_119 q2_121 r1_0 q1_1 hd_X9_finding ⟨rfl, rfl⟩ ⟨Nat.le_of_ble_eq_true rfl, Nat.le_of_ble_eq_true rfl⟩ cx_0 (by decide) rfl hP hS hl.1 rfl rfl (Nat.le_of_ble_eq_true rfl) dX9_move_102 (fun H locs hP hS => ?_)
  refine W.eq (g2 := F0 m 105 ls [.int r16]) rfl ?_
  obtain ⟨rfl, rfl⟩ := some2 h
  exact x_iret C0 hP hS dX9_move_105
def X9_move (x1 : Int32) (x2 : Int32) (x3 : Int32) (x4 : Int32) (x5 : Int32) (μ : Mem) : Option (Int32 × Mem) :=
  ob2 (X9_isSheet x1 μ) fun r1 μ1 => (if r1 = (0 : Int32) then X9_move_14 μ1 else ob2 (X9_isSheet x3 μ1) fun r4 μ4 => (if r4 = (0 : Int32) then X9_move_14 μ4 else gd (inB x1 4) (gd (inB x3 4) (ob2 (X4_isMissing (88 + 2 * x1.toNatClampNeg) μ4) fun r8 μ8 => (if r8 = (0 : Int32) then ob2 (X4_isMissing (88 + 2 * x3.toNatClampNeg) μ8) fun r11 μ11 => (if r11 = (0 : Int32) then (if (μ11 (88 + 2 * x1.toNatClampNeg) 1) = (μ11 (88 + 2 * x3.toNatClampNeg) 1) then ob2 (X4_holds (88 + 2 * x1.toNatClampNeg) x2 x5 μ11) fun r14 μ14 => (if r14 = (0 : Int32) then X9_move_100 μ14 else ob2 (X4_holds (88 + 2 * x3.toNatClampNeg) x4 x5 μ14) fun r17 μ17 => (if r17 = (0 : Int32) then X9_move_100 μ17 else gd (0 ≤ x2.toInt ∧ 0 ≤ x4.toInt ∧ 0 ≤ x5.toInt ∧ x2.toInt + x5.toInt ≤ (24 : Nat) ∧ x4.toInt + x5.toInt ≤ (24 : Nat)) (lt (str μ17 ((88 + 2 * x3.toNatClampNeg) + 1) (va_cpy (μ17 ((88 + 2 * x1.toNatClampNeg) + 1)) (μ17 ((88 + 2 * x3.toNatClampNeg) + 1)) x2.toNatClampNeg x4.toNatClampNeg x5.toNatClampNeg)) fun μ19 => some (x5, μ19)))) else ob2 (X9_finding (5 : Int32) μ11) fun r21 μ21 => some (r21, μ21)) else X9_move_52 μ11) else X9_move_52 μ8)))))
set_option maxRecDepth 100000 in
set_option maxHeartbeats 4000000 in
theorem c_X9_move (l : Launch) (g : Gx) (x1 : Int32) (x2 : Int32) (x3 : Int32) (x4 : Int32) (x5 : Int32) (μ : Mem) {r : Int32} {ν : Mem} (h : X9_move x1 x2 x3 x4 x5 μ = some (r, ν)) : Ct Lx g l yX9_move cX9_move 8 (some .int) { frames := 1, cells := 0, slots := 0, locals := 22 } [.ref (g.2.2.1 + 0), .int x1, .int x2, .int x3, .int x4, .int x5] μ (some (.int r)) ν := by
  refine x_met (lv := [(0, .ref (g.2.2.1 + 0)), (1, .int x1), (2, .int x2), (3, .int x3), (4, .int x4), (5, .int x5)]) rfl (Nat.le_of_ble_eq_true rfl) rfl ?_
  intro p e s m below meth c C0 hP ls hl
  generalize ([.ref (g.2.2.1 + 0), .int x1, .int x2, .int x3, .int x4, .int x5] : List Value).toArray = args at C0 ⊢
  have C0 : Cx Lx g p s m args meth c cX9_move 8 (some .int) RX9 := C0
  have hS : va_S (Ax Lx g) s.heap s.heap [] := va_S.rf
  obtain ⟨hx, hb, hr, hml, hown, hts, hlocks, hK⟩ := id C0
  unfold X9_move at h
  skip
  refine lv_iload_n hx hb dX9_move_0 rfl (lv_at hl 1 rfl) ?_
  obtain ⟨r1, μ1, h1, h⟩ := ob2_some h
  refine x_callS C0 (rest := []) (c_X9_isSheet l g x1 μ h1) q3_210 q3_208 q3_209 q1_1 hd_X9_isSheet ⟨rfl, rfl⟩ ⟨Nat.le_of_ble_eq_true rfl, Nat.le_of_ble_eq_true rfl⟩ hP hS hl.1 rfl rfl (Nat.le_of_ble_eq_true rfl) dX9_move_1 (fun H locs hP hS => ?_)
  refine W.eq (g2 := F0 m 4 ls [.int r1]) rfl ?_
  refine lv_if_eq (tgt := 14) hx hb dX9_move_4 (by decide) (fun c2 => ?_) (fun c2 => ?_)
  · rw [if_pos c2] at h
    exact w_X9_move_14 C0   μ1 _ _ _ hP hS (lv_sub hl [0] rfl) h
  · rw [if_neg c2] at h
    refine lv_iload_n hx hb dX9_move_7 rfl (lv_at hl 3 rfl) ?_
    obtain ⟨r4, μ4, h1, h⟩ := ob2_some h
    refine x_callS C0 (rest := []) (c_X9_isSheet l g x3 μ1 h1) q3_210 q3_208 q3_209 q1_1 hd_X9_isSheet ⟨rfl, rfl⟩ ⟨Nat.le_of_ble_eq_true rfl, Nat.le_of_ble_eq_true rfl⟩ hP hS hl.1 rfl rfl (Nat.le_of_ble_eq_true rfl) dX9_move_8 (fun H locs hP hS => ?_)
    refine W.eq (g2 := F0 m 11 ls [.int r4]) rfl ?_
    refine lv_if_ne (tgt := 20) hx hb dX9_move_11 (by decide) (fun c5 => ?_) (fun c5 => ?_)
    · rw [if_neg c5] at h
      refine lv_aload_n hx hb dX9_move_20 rfl (lv_at hl 0 rfl) ?_
      refine x_get C0 hP inu9 (k := 0) cx_0 (by decide) rfl 5 (by decide) q2_86 rfl (v := .ref (g.2.2.1 + 85)) rfl dX9_move_21 ?_
      refine lv_iload_n hx hb dX9_move_24 rfl (lv_at hl 1 rfl) ?_
      obtain ⟨z6, h⟩ := gd_some h
      refine x_saald C0 hP (k := 85) cx_85 (j := x1.toNatClampNeg) z6 rfl dX9_move_25 ?_
      refine W.eq (g2 := F0 m 26 ls [.ref (g.2.2.1 + (88 + 2 * x1.toNatClampNeg))]) rfl ?_
      refine lv_astore (lv' := [(6, .ref (g.2.2.1 + (88 + 2 * x1.toNatClampNeg))), (0, .ref (g.2.2.1 + 0)), (1, .int x1), (2, .int x2), (3, .int x3), (4, .int x4), (5, .int x5)]) hx hb dX9_move_26 hl (by decide) rfl (fun ls hl => ?_)
      refine lv_aload_n hx hb dX9_move_28 rfl (lv_at hl 1 rfl) ?_
      refine x_get C0 hP inu9 (k := 0) cx_0 (by decide) rfl 5 (by decide) q2_86 rfl (v := .ref (g.2.2.1 + 85)) rfl dX9_move_29 ?_
      refine lv_iload_n hx hb dX9_move_32 rfl (lv_at hl 4 rfl) ?_
      obtain ⟨z7, h⟩ := gd_some h
      refine x_saald C0 hP (k := 85) cx_85 (j := x3.toNatClampNeg) z7 rfl dX9_move_33 ?_
      refine W.eq (g2 := F0 m 34 ls [.ref (g.2.2.1 + (88 + 2 * x3.toNatClampNeg))]) rfl ?_
      refine lv_astore (lv' := [(7, .ref (g.2.2.1 + (88 + 2 * x3.toNatClampNeg))), (6, .ref (g.2.2.1 + (88 + 2 * x1.toNatClampNeg))), (0, .ref (g.2.2.1 + 0)), (1, .int x1), (2, .int x2), (3, .int x3), (4, .int x4), (5, .int x5)]) hx hb dX9_move_34 hl (by decide) rfl (fun ls hl => ?_)
      refine lv_aload hx hb dX9_move_36 (lv_at hl 1 rfl) ?_
      obtain ⟨r8, μ8, h1, h⟩ := ob2_some h
      refine x_callV C0 (rest := []) (q := (RX4, TX4, 3)) (c_X4_isMissing l g (88 + 2 * x1.toNatClampNeg) (sht_i z6) μ4 h1) q3_214 q3_211 q3_212 q3_213 q1_10 hd_X4_isMissing ⟨rfl, rfl⟩ ⟨Nat.le_of_ble_eq_true rfl, Nat.le_of_ble_eq_true rfl⟩ (id4_0 (sht_i z6)) (by decide) rfl hP hS hl.1 rfl rfl (Nat.le_of_ble_eq_true rfl) dX9_move_38 (fun H locs hP hS => ?_)
      refine W.eq (g2 := F0 m 41 ls [.int r8]) rfl ?_
      refine lv_if_ne (tgt := 52) hx hb dX9_move_41 (by decide) (fun c9 => ?_) (fun c9 => ?_)
      · rw [if_neg c9] at h
        exact w_X9_move_52 C0   μ8 _ _ _ hP hS (lv_sub hl [2] rfl) h
      · rw [if_pos c9] at h
        refine lv_aload hx hb dX9_move_44 (lv_at hl 0 rfl) ?_
        obtain ⟨r11, μ11, h1, h⟩ := ob2_some h
        refine x_callV C0 (rest := []) (q := (RX4, TX4, 3)) (c_X4_isMissing l g (88 + 2 * x3.toNatClampNeg) (sht_i z7) μ8 h1) q3_214 q3_211 q3_212 q3_213 q1_10 hd_X4_isMissing ⟨rfl, rfl⟩ ⟨Nat.le_of_ble_eq_true rfl, Nat.le_of_ble_eq_true rfl⟩ (id4_0 (sht_i z7)) (by decide) rfl hP hS hl.1 rfl rfl (Nat.le_of_ble_eq_true rfl) dX9_move_46 (fun H locs hP hS => ?_)
        refine W.eq (g2 := F0 m 49 ls [.int r11]) rfl ?_
        refine lv_if_eq (tgt := 58) hx hb dX9_move_49 (by decide) (fun c12 => ?_) (fun c12 => ?_)
        · rw [if_pos c12] at h
          refine lv_aload hx hb dX9_move_58 (lv_at hl 1 rfl) ?_
          refine x_get C0 hP inu4 (k := (88 + 2 * x1.toNatClampNeg)) (id4_0 (sht_i z6)) (by decide) rfl 1 (by decide) q2_71 rfl (v := .int (μ11 (88 + 2 * x1.toNatClampNeg) 1)) rfl dX9_move_60 ?_
          refine lv_aload hx hb dX9_move_63 (lv_at hl 0 rfl) ?_
          refine x_get C0 hP inu4 (k := (88 + 2 * x3.toNatClampNeg)) (id4_0 (sht_i z7)) (by decide) rfl 1 (by decide) q2_71 rfl (v := .int (μ11 (88 + 2 * x3.toNatClampNeg) 1)) rfl dX9_move_65 ?_
          refine lv_icmp_eq (tgt := 77) hx hb dX9_move_68 (by decide) (fun c13 => ?_) (fun c13 => ?_)
          · rw [if_pos c13] at h
            refine lv_aload hx hb dX9_move_77 (lv_at hl 1 rfl) ?_
            refine lv_iload_n hx hb dX9_move_79 rfl (lv_at hl 4 rfl) ?_
            refine lv_iload hx hb dX9_move_80 (lv_at hl 7 rfl) ?_
            obtain ⟨r14, μ14, h1, h⟩ := ob2_some h
            refine x_callV C0 (rest := []) (q := (RX4, TX4, 3)) (c_X4_holds l g (88 + 2 * x1.toNatClampNeg) (sht_i z6) x2 x5 μ11 h1) q4_77 q4_74 q4_75 q4_76 q1_10 hd_X4_holds ⟨rfl, rfl⟩ ⟨Nat.le_of_ble_eq_true rfl, Nat.le_of_ble_eq_true rfl⟩ (id4_0 (sht_i z6)) (by decide) rfl hP hS hl.1 rfl rfl (Nat.le_of_ble_eq_true rfl) dX9_move_82 (fun H locs hP hS => ?_)
            refine W.eq (g2 := F0 m 85 ls [.int r14]) rfl ?_
            refine lv_if_eq (tgt := 100) hx hb dX9_move_85 (by decide) (fun c15 => ?_) (fun c15 => ?_)
            · rw [if_pos c15] at h
              exact w_X9_move_100 C0   μ14 _ _ _ hP hS (lv_sub hl [2] rfl) h
            · rw [if_neg c15] at h
              refine lv_aload hx hb dX9_move_88 (lv_at hl 0 rfl) ?_
              refine lv_iload hx hb dX9_move_90 (lv_at hl 6 rfl) ?_
              refine lv_iload hx hb dX9_move_92 (lv_at hl 7 rfl) ?_
              obtain ⟨r17, μ17, h1, h⟩ := ob2_some h
              refine x_callV C0 (rest := []) (q := (RX4, TX4, 3)) (c_X4_holds l g (88 + 2 * x3.toNatClampNeg) (sht_i z7) x4 x5 μ14 h1) q4_77 q4_74 q4_75 q4_76 q1_10 hd_X4_holds ⟨rfl, rfl⟩ ⟨Nat.le_of_ble_eq_true rfl, Nat.le_of_ble_eq_true rfl⟩ (id4_0 (sht_i z7)) (by decide) rfl hP hS hl.1 rfl rfl (Nat.le_of_ble_eq_true rfl) dX9_move_94 (fun H locs hP hS => ?_)
              refine W.eq (g2 := F0 m 97 ls [.int r17]) rfl ?_
              refine lv_if_ne (tgt := 106) hx hb dX9_move_97 (by decide) (fun c18 => ?_) (fun c18 => ?_)
              · rw [if_neg c18] at h
                refine lv_aload hx hb dX9_move_106 (lv_at hl 1 rfl) ?_
                refine x_get C0 hP inu4 (k := (88 + 2 * x1.toNatClampNeg)) (id4_0 (sht_i z6)) (by decide) rfl 0 (by decide) q2_69 rfl (v := .ref (g.2.2.1 + ((88 + 2 * x1.toNatClampNeg) + 1))) rfl dX9_move_108 ?_
                refine lv_iload_n hx hb dX9_move_111 rfl (lv_at hl 4 rfl) ?_
                refine lv_aload hx hb dX9_move_112 (lv_at hl 0 rfl) ?_
                refine x_get C0 hP inu4 (k := (88 + 2 * x3.toNatClampNeg)) (id4_0 (sht_i z7)) (by decide) rfl 0 (by decide) q2_69 rfl (v := .ref (g.2.2.1 + ((88 + 2 * x3.toNatClampNeg) + 1))) rfl dX9_move_114 ?_
                refine lv_iload hx hb dX9_move_117 (lv_at hl 6 rfl) ?_
                refine lv_iload hx hb dX9_move_119 (lv_at hl 7 rfl) ?_
                obtain ⟨z20, h⟩ := gd_some h
                obtain ⟨μ19, e19, h⟩ := lt_some h
                refine x_copyi C0 hP hS hl.1 (k0 := ((88 + 2 * x1.toNatClampNeg) + 1)) (k1 := ((88 + 2 * x3.toNatClampNeg) + 1)) (id4_1 (sht_i z6)) (id4_1 (sht_i z7)) q4_78 q3_124 q3_123 q1_13 z20 (sp2 := x2.toNatClampNeg) (dp2 := x4.toNatClampNeg) (n2 := x5.toNatClampNeg) rfl rfl rfl (Nat.le_of_ble_eq_true rfl) (Nat.le_of_ble_eq_true rfl) dX9_move_121 (fun H locs hP hS => ?_)
                rw [← e19] at hP
                refine lv_iload hx hb dX9_move_124 (lv_at hl 7 rfl) ?_
                obtain ⟨rfl, rfl⟩ := some2 h
                exact x_iret C0 hP hS dX9_move_126
              · rw [if_pos c18] at h
                exact w_X9_move_100 C0   μ17 _ _ _ hP hS (lv_sub hl [2] rfl) h
          · rw [if_neg c13] at h
            refine lv_aload_n hx hb dX9_move_71 rfl (lv_at hl 2 rfl) ?_
            refine lv_iconst (v := (5 : Int32)) hx hb dX9_move_72 rfl ?_
            obtain ⟨r21, μ21, h1, h⟩ := ob2_some h
            refine x_callV C0 (rest := []) (q := (RX9, TX9, 9)) (c_X9_finding l g (5 : Int32) μ11 h1) q2_122 q2_119 q2_121 r1_0 q1_1 hd_X9_finding ⟨rfl, rfl⟩ ⟨Nat.le_of_ble_eq_true rfl, Nat.le_of_ble_eq_true rfl⟩ cx_0 (by decide) rfl hP hS hl.1 rfl rfl (Nat.le_of_ble_eq_true rfl) dX9_move_73 (fun H locs hP hS => ?_)
            refine W.eq (g2 := F0 m 76 ls [.int r21]) rfl ?_
            obtain ⟨rfl, rfl⟩ := some2 h
            exact x_iret C0 hP hS dX9_move_76
        · rw [if_neg c12] at h
          exact w_X9_move_52 C0   μ11 _ _ _ hP hS (lv_sub hl [2] rfl) h
    · rw [if_pos c5] at h
      exact w_X9_move_14 C0   μ4 _ _ _ hP hS (lv_sub hl [0] rfl) h
def X9_image  (μ : Mem) : Option (Int32 × Mem) :=
  ob (X7_copyFrom 40 1 μ) fun μ1 => lt (st μ1 0 8 ((μ1 0 8) + (1 : Int32))) fun μ2 => some ((μ2 0 8), μ2)
set_option maxRecDepth 100000 in
set_option maxHeartbeats 4000000 in
theorem c_X9_image (l : Launch) (g : Gx)  (μ : Mem) {r : Int32} {ν : Mem} (h : X9_image  μ = some (r, ν)) : Ct Lx g l yX9_image cX9_image 1 (some .int) { frames := 3, cells := 0, slots := 0, locals := 61 } [.ref (g.2.2.1 + 0)] μ (some (.int r)) ν := by
  refine x_met (lv := [(0, .ref (g.2.2.1 + 0))]) rfl (Nat.le_of_ble_eq_true rfl) rfl ?_
  intro p e s m below meth c C0 hP ls hl
  generalize ([.ref (g.2.2.1 + 0)] : List Value).toArray = args at C0 ⊢
  have C0 : Cx Lx g p s m args meth c cX9_image 1 (some .int) RX9 := C0
  have hS : va_S (Ax Lx g) s.heap s.heap [] := va_S.rf
  obtain ⟨hx, hb, hr, hml, hown, hts, hlocks, hK⟩ := id C0
  unfold X9_image at h
  skip
  refine lv_aload_n hx hb dX9_image_0 rfl (lv_at hl 0 rfl) ?_
  refine x_get C0 hP inu9 (k := 0) cx_0 (by decide) rfl 1 (by decide) q2_82 rfl (v := .ref (g.2.2.1 + 40)) rfl dX9_image_1 ?_
  refine lv_aload_n hx hb dX9_image_4 rfl (lv_at hl 0 rfl) ?_
  refine x_get C0 hP inu9 (k := 0) cx_0 (by decide) rfl 0 (by decide) q2_81 rfl (v := .ref (g.2.2.1 + 1)) rfl dX9_image_5 ?_
  obtain ⟨μ1, h1, h⟩ := ob_some h
  refine x_callV C0 (rest := []) (q := (RX7, TX7, 9)) (c_X7_copyFrom l g 40 idc_40 1 idc_1 μ h1) q4_86 q4_83 q4_84 q4_85 q1_2 hd_X7_copyFrom ⟨rfl, rfl⟩ ⟨Nat.le_of_ble_eq_true rfl, Nat.le_of_ble_eq_true rfl⟩ (id7_0 idc_40) (by decide) rfl hP hS hl.1 rfl rfl (Nat.le_of_ble_eq_true rfl) dX9_image_8 (fun H locs hP hS => ?_)
  refine W.eq (g2 := F0 m 11 ls []) rfl ?_
  refine lv_aload_n hx hb dX9_image_11 rfl (lv_at hl 0 rfl) ?_
  refine lv_dup hx hb dX9_image_12 rfl ?_
  refine x_get C0 hP inu9 (k := 0) cx_0 (by decide) rfl 8 (by decide) q2_89 rfl (v := .int (μ1 0 8)) rfl dX9_image_13 ?_
  refine lv_iconst (v := (1 : Int32)) hx hb dX9_image_16 rfl ?_
  refine lv_iadd hx hb dX9_image_17 ?_
  obtain ⟨μ2, e2, h⟩ := lt_some h
  refine x_put C0 hP hS inu9 tyX9 tyX9_ok nmX9 (k := 0) cx_0 (by decide) rfl 8 (by decide) q2_89 rfl rfl (v := .int ((μ1 0 8) + (1 : Int32))) (x := ((μ1 0 8) + (1 : Int32))) rfl rfl (Nat.le_of_ble_eq_true rfl) (os_9_8 _ _ _ _) dX9_image_18 (fun H locs hP hS => ?_)
  rw [← e2] at hP
  refine lv_aload_n hx hb dX9_image_21 rfl (lv_at hl 0 rfl) ?_
  refine x_get C0 hP inu9 (k := 0) cx_0 (by decide) rfl 8 (by decide) q2_89 rfl (v := .int (μ2 0 8)) rfl dX9_image_22 ?_
  obtain ⟨rfl, rfl⟩ := some2 h
  exact x_iret C0 hP hS dX9_image_25
def X9_restore  (μ : Mem) : Option (Int32 × Mem) :=
  (if (μ 0 8) = (0 : Int32) then ob2 (X9_finding (2 : Int32) μ) fun r3 μ3 => some (r3, μ3) else ob (X7_copyFrom 1 40 μ) fun μ2 => some ((μ2 1 8), μ2))
set_option maxRecDepth 100000 in
set_option maxHeartbeats 4000000 in
theorem c_X9_restore (l : Launch) (g : Gx)  (μ : Mem) {r : Int32} {ν : Mem} (h : X9_restore  μ = some (r, ν)) : Ct Lx g l yX9_restore cX9_restore 1 (some .int) { frames := 3, cells := 0, slots := 0, locals := 61 } [.ref (g.2.2.1 + 0)] μ (some (.int r)) ν := by
  refine x_met (lv := [(0, .ref (g.2.2.1 + 0))]) rfl (Nat.le_of_ble_eq_true rfl) rfl ?_
  intro p e s m below meth c C0 hP ls hl
  generalize ([.ref (g.2.2.1 + 0)] : List Value).toArray = args at C0 ⊢
  have C0 : Cx Lx g p s m args meth c cX9_restore 1 (some .int) RX9 := C0
  have hS : va_S (Ax Lx g) s.heap s.heap [] := va_S.rf
  obtain ⟨hx, hb, hr, hml, hown, hts, hlocks, hK⟩ := id C0
  unfold X9_restore at h
  skip
  refine lv_aload_n hx hb dX9_restore_0 rfl (lv_at hl 0 rfl) ?_
  refine x_get C0 hP inu9 (k := 0) cx_0 (by decide) rfl 8 (by decide) q2_89 rfl (v := .int (μ 0 8)) rfl dX9_restore_1 ?_
  refine lv_if_ne (tgt := 13) hx hb dX9_restore_4 (by decide) (fun c1 => ?_) (fun c1 => ?_)
  · rw [if_neg c1] at h
    refine lv_aload_n hx hb dX9_restore_13 rfl (lv_at hl 0 rfl) ?_
    refine x_get C0 hP inu9 (k := 0) cx_0 (by decide) rfl 0 (by decide) q2_81 rfl (v := .ref (g.2.2.1 + 1)) rfl dX9_restore_14 ?_
    refine lv_aload_n hx hb dX9_restore_17 rfl (lv_at hl 0 rfl) ?_
    refine x_get C0 hP inu9 (k := 0) cx_0 (by decide) rfl 1 (by decide) q2_82 rfl (v := .ref (g.2.2.1 + 40)) rfl dX9_restore_18 ?_
    obtain ⟨μ2, h1, h⟩ := ob_some h
    refine x_callV C0 (rest := []) (q := (RX7, TX7, 9)) (c_X7_copyFrom l g 1 idc_1 40 idc_40 μ h1) q4_86 q4_83 q4_84 q4_85 q1_2 hd_X7_copyFrom ⟨rfl, rfl⟩ ⟨Nat.le_of_ble_eq_true rfl, Nat.le_of_ble_eq_true rfl⟩ (id7_0 idc_1) (by decide) rfl hP hS hl.1 rfl rfl (Nat.le_of_ble_eq_true rfl) dX9_restore_21 (fun H locs hP hS => ?_)
    refine W.eq (g2 := F0 m 24 ls []) rfl ?_
    refine lv_aload_n hx hb dX9_restore_24 rfl (lv_at hl 0 rfl) ?_
    refine x_get C0 hP inu9 (k := 0) cx_0 (by decide) rfl 0 (by decide) q2_81 rfl (v := .ref (g.2.2.1 + 1)) rfl dX9_restore_25 ?_
    refine x_get C0 hP inu7 (k := 1) cx_1 (by decide) rfl 8 (by decide) q1_237 rfl (v := .int (μ2 1 8)) rfl dX9_restore_28 ?_
    obtain ⟨rfl, rfl⟩ := some2 h
    exact x_iret C0 hP hS dX9_restore_31
  · rw [if_pos c1] at h
    refine lv_aload_n hx hb dX9_restore_7 rfl (lv_at hl 0 rfl) ?_
    refine lv_iconst (v := (2 : Int32)) hx hb dX9_restore_8 rfl ?_
    obtain ⟨r3, μ3, h1, h⟩ := ob2_some h
    refine x_callV C0 (rest := []) (q := (RX9, TX9, 9)) (c_X9_finding l g (2 : Int32) μ h1) q2_122 q2_119 q2_121 r1_0 q1_1 hd_X9_finding ⟨rfl, rfl⟩ ⟨Nat.le_of_ble_eq_true rfl, Nat.le_of_ble_eq_true rfl⟩ cx_0 (by decide) rfl hP hS hl.1 rfl rfl (Nat.le_of_ble_eq_true rfl) dX9_restore_9 (fun H locs hP hS => ?_)
    refine W.eq (g2 := F0 m 12 ls [.int r3]) rfl ?_
    obtain ⟨rfl, rfl⟩ := some2 h
    exact x_iret C0 hP hS dX9_restore_12
def X9_told (x1 : Int32) (μ : Mem) : Option (Int32 × Mem) :=
  (if x1 = (0 : Int32) then some ((μ 1 6), μ) else (if x1 = (1 : Int32) then some ((μ 3 4), μ) else (if x1 = (2 : Int32) then some ((μ 8 5), μ) else (if x1 = (3 : Int32) then some ((μ 1 8), μ) else (if x1 = (4 : Int32) then some ((μ 1 7), μ) else (if x1 = (5 : Int32) then some ((μ 14 4), μ) else (if x1 = (6 : Int32) then some ((μ 19 3), μ) else (if x1 = (7 : Int32) then some ((μ 19 4), μ) else (if x1 = (8 : Int32) then some ((μ 19 5), μ) else (if x1 = (9 : Int32) then ob2 (X7_countCut  μ) fun r11 μ11 => some (r11, μ11) else (if x1 = (10 : Int32) then ob2 (X7_allDebt  μ) fun r13 μ13 => some (r13, μ13) else (if x1 = (11 : Int32) then some ((μ 83 1), μ) else ob2 (X9_finding (1 : Int32) μ) fun r15 μ15 => some (r15, μ15)))))))))))))
set_option maxRecDepth 100000 in
set_option maxHeartbeats 4000000 in
theorem c_X9_told (l : Launch) (g : Gx) (x1 : Int32) (μ : Mem) {r : Int32} {ν : Mem} (h : X9_told x1 μ = some (r, ν)) : Ct Lx g l yX9_told cX9_told 2 (some .int) { frames := 1, cells := 0, slots := 0, locals := 22 } [.ref (g.2.2.1 + 0), .int x1] μ (some (.int r)) ν := by
  refine x_met (lv := [(0, .ref (g.2.2.1 + 0)), (1, .int x1)]) rfl (Nat.le_of_ble_eq_true rfl) rfl ?_
  intro p e s m below meth c C0 hP ls hl
  generalize ([.ref (g.2.2.1 + 0), .int x1] : List Value).toArray = args at C0 ⊢
  have C0 : Cx Lx g p s m args meth c cX9_told 2 (some .int) RX9 := C0
  have hS : va_S (Ax Lx g) s.heap s.heap [] := va_S.rf
  obtain ⟨hx, hb, hr, hml, hown, hts, hlocks, hK⟩ := id C0
  unfold X9_told at h
  skip
  refine lv_iload_n hx hb dX9_told_0 rfl (lv_at hl 1 rfl) ?_
  by_cases c1 : x1 = (0 : Int32)
  · rw [if_pos c1] at h
    refine lv_tableIn (tgt := 64) (off := 63) hx hb dX9_told_1 (by rw [c1]; decide) (by rw [c1]; decide) (by rw [c1]; decide) (by decide) ?_
    refine lv_aload_n hx hb dX9_told_64 rfl (lv_at hl 0 rfl) ?_
    refine x_get C0 hP inu9 (k := 0) cx_0 (by decide) rfl 0 (by decide) q2_81 rfl (v := .ref (g.2.2.1 + 1)) rfl dX9_told_65 ?_
    refine x_get C0 hP inu7 (k := 1) cx_1 (by decide) rfl 6 (by decide) q1_233 rfl (v := .int (μ 1 6)) rfl dX9_told_68 ?_
    obtain ⟨rfl, rfl⟩ := some2 h
    exact x_iret C0 hP hS dX9_told_71
  rw [if_neg c1] at h
  by_cases c2 : x1 = (1 : Int32)
  · rw [if_pos c2] at h
    refine lv_tableIn (tgt := 72) (off := 71) hx hb dX9_told_1 (by rw [c2]; decide) (by rw [c2]; decide) (by rw [c2]; decide) (by decide) ?_
    refine lv_aload_n hx hb dX9_told_72 rfl (lv_at hl 0 rfl) ?_
    refine x_get C0 hP inu9 (k := 0) cx_0 (by decide) rfl 0 (by decide) q2_81 rfl (v := .ref (g.2.2.1 + 1)) rfl dX9_told_73 ?_
    refine x_get C0 hP inu7 (k := 1) cx_1 (by decide) rfl 1 (by decide) q1_223 rfl (v := .ref (g.2.2.1 + 3)) rfl dX9_told_76 ?_
    refine x_get C0 hP inu5 (k := 3) cx_3 (by decide) rfl 4 (by decide) q1_42 rfl (v := .int (μ 3 4)) rfl dX9_told_79 ?_
    obtain ⟨rfl, rfl⟩ := some2 h
    exact x_iret C0 hP hS dX9_told_82
  rw [if_neg c2] at h
  by_cases c3 : x1 = (2 : Int32)
  · rw [if_pos c3] at h
    refine lv_tableIn (tgt := 83) (off := 82) hx hb dX9_told_1 (by rw [c3]; decide) (by rw [c3]; decide) (by rw [c3]; decide) (by decide) ?_
    refine lv_aload_n hx hb dX9_told_83 rfl (lv_at hl 0 rfl) ?_
    refine x_get C0 hP inu9 (k := 0) cx_0 (by decide) rfl 0 (by decide) q2_81 rfl (v := .ref (g.2.2.1 + 1)) rfl dX9_told_84 ?_
    refine x_get C0 hP inu7 (k := 1) cx_1 (by decide) rfl 2 (by decide) q1_225 rfl (v := .ref (g.2.2.1 + 8)) rfl dX9_told_87 ?_
    refine x_get C0 hP inu1 (k := 8) cx_8 (by decide) rfl 5 (by decide) q1_67 rfl (v := .int (μ 8 5)) rfl dX9_told_90 ?_
    obtain ⟨rfl, rfl⟩ := some2 h
    exact x_iret C0 hP hS dX9_told_93
  rw [if_neg c3] at h
  by_cases c4 : x1 = (3 : Int32)
  · rw [if_pos c4] at h
    refine lv_tableIn (tgt := 94) (off := 93) hx hb dX9_told_1 (by rw [c4]; decide) (by rw [c4]; decide) (by rw [c4]; decide) (by decide) ?_
    refine lv_aload_n hx hb dX9_told_94 rfl (lv_at hl 0 rfl) ?_
    refine x_get C0 hP inu9 (k := 0) cx_0 (by decide) rfl 0 (by decide) q2_81 rfl (v := .ref (g.2.2.1 + 1)) rfl dX9_told_95 ?_
    refine x_get C0 hP inu7 (k := 1) cx_1 (by decide) rfl 8 (by decide) q1_237 rfl (v := .int (μ 1 8)) rfl dX9_told_98 ?_
    obtain ⟨rfl, rfl⟩ := some2 h
    exact x_iret C0 hP hS dX9_told_101
  rw [if_neg c4] at h
  by_cases c5 : x1 = (4 : Int32)
  · rw [if_pos c5] at h
    refine lv_tableIn (tgt := 102) (off := 101) hx hb dX9_told_1 (by rw [c5]; decide) (by rw [c5]; decide) (by rw [c5]; decide) (by decide) ?_
    refine lv_aload_n hx hb dX9_told_102 rfl (lv_at hl 0 rfl) ?_
    refine x_get C0 hP inu9 (k := 0) cx_0 (by decide) rfl 0 (by decide) q2_81 rfl (v := .ref (g.2.2.1 + 1)) rfl dX9_told_103 ?_
    refine x_get C0 hP inu7 (k := 1) cx_1 (by decide) rfl 7 (by decide) q1_235 rfl (v := .int (μ 1 7)) rfl dX9_told_106 ?_
    obtain ⟨rfl, rfl⟩ := some2 h
    exact x_iret C0 hP hS dX9_told_109
  rw [if_neg c5] at h
  by_cases c6 : x1 = (5 : Int32)
  · rw [if_pos c6] at h
    refine lv_tableIn (tgt := 110) (off := 109) hx hb dX9_told_1 (by rw [c6]; decide) (by rw [c6]; decide) (by rw [c6]; decide) (by decide) ?_
    refine lv_aload_n hx hb dX9_told_110 rfl (lv_at hl 0 rfl) ?_
    refine x_get C0 hP inu9 (k := 0) cx_0 (by decide) rfl 0 (by decide) q2_81 rfl (v := .ref (g.2.2.1 + 1)) rfl dX9_told_111 ?_
    refine x_get C0 hP inu7 (k := 1) cx_1 (by decide) rfl 3 (by decide) q1_227 rfl (v := .ref (g.2.2.1 + 14)) rfl dX9_told_114 ?_
    refine x_get C0 hP inu3 (k := 14) cx_14 (by decide) rfl 4 (by decide) q1_94 rfl (v := .int (μ 14 4)) rfl dX9_told_117 ?_
    obtain ⟨rfl, rfl⟩ := some2 h
    exact x_iret C0 hP hS dX9_told_120
  rw [if_neg c6] at h
  by_cases c7 : x1 = (6 : Int32)
  · rw [if_pos c7] at h
    refine lv_tableIn (tgt := 121) (off := 120) hx hb dX9_told_1 (by rw [c7]; decide) (by rw [c7]; decide) (by rw [c7]; decide) (by decide) ?_
    refine lv_aload_n hx hb dX9_told_121 rfl (lv_at hl 0 rfl) ?_
    refine x_get C0 hP inu9 (k := 0) cx_0 (by decide) rfl 0 (by decide) q2_81 rfl (v := .ref (g.2.2.1 + 1)) rfl dX9_told_122 ?_
    refine x_get C0 hP inu7 (k := 1) cx_1 (by decide) rfl 4 (by decide) q1_229 rfl (v := .ref (g.2.2.1 + 19)) rfl dX9_told_125 ?_
    refine x_get C0 hP inu6 (k := 19) cx_19 (by decide) rfl 3 (by decide) q1_116 rfl (v := .int (μ 19 3)) rfl dX9_told_128 ?_
    obtain ⟨rfl, rfl⟩ := some2 h
    exact x_iret C0 hP hS dX9_told_131
  rw [if_neg c7] at h
  by_cases c8 : x1 = (7 : Int32)
  · rw [if_pos c8] at h
    refine lv_tableIn (tgt := 132) (off := 131) hx hb dX9_told_1 (by rw [c8]; decide) (by rw [c8]; decide) (by rw [c8]; decide) (by decide) ?_
    refine lv_aload_n hx hb dX9_told_132 rfl (lv_at hl 0 rfl) ?_
    refine x_get C0 hP inu9 (k := 0) cx_0 (by decide) rfl 0 (by decide) q2_81 rfl (v := .ref (g.2.2.1 + 1)) rfl dX9_told_133 ?_
    refine x_get C0 hP inu7 (k := 1) cx_1 (by decide) rfl 4 (by decide) q1_229 rfl (v := .ref (g.2.2.1 + 19)) rfl dX9_told_136 ?_
    refine x_get C0 hP inu6 (k := 19) cx_19 (by decide) rfl 4 (by decide) q1_118 rfl (v := .int (μ 19 4)) rfl dX9_told_139 ?_
    obtain ⟨rfl, rfl⟩ := some2 h
    exact x_iret C0 hP hS dX9_told_142
  rw [if_neg c8] at h
  by_cases c9 : x1 = (8 : Int32)
  · rw [if_pos c9] at h
    refine lv_tableIn (tgt := 143) (off := 142) hx hb dX9_told_1 (by rw [c9]; decide) (by rw [c9]; decide) (by rw [c9]; decide) (by decide) ?_
    refine lv_aload_n hx hb dX9_told_143 rfl (lv_at hl 0 rfl) ?_
    refine x_get C0 hP inu9 (k := 0) cx_0 (by decide) rfl 0 (by decide) q2_81 rfl (v := .ref (g.2.2.1 + 1)) rfl dX9_told_144 ?_
    refine x_get C0 hP inu7 (k := 1) cx_1 (by decide) rfl 4 (by decide) q1_229 rfl (v := .ref (g.2.2.1 + 19)) rfl dX9_told_147 ?_
    refine x_get C0 hP inu6 (k := 19) cx_19 (by decide) rfl 5 (by decide) q1_120 rfl (v := .int (μ 19 5)) rfl dX9_told_150 ?_
    obtain ⟨rfl, rfl⟩ := some2 h
    exact x_iret C0 hP hS dX9_told_153
  rw [if_neg c9] at h
  by_cases c10 : x1 = (9 : Int32)
  · rw [if_pos c10] at h
    refine lv_tableIn (tgt := 154) (off := 153) hx hb dX9_told_1 (by rw [c10]; decide) (by rw [c10]; decide) (by rw [c10]; decide) (by decide) ?_
    refine lv_aload_n hx hb dX9_told_154 rfl (lv_at hl 0 rfl) ?_
    refine x_get C0 hP inu9 (k := 0) cx_0 (by decide) rfl 0 (by decide) q2_81 rfl (v := .ref (g.2.2.1 + 1)) rfl dX9_told_155 ?_
    obtain ⟨r11, μ11, h1, h⟩ := ob2_some h
    refine x_callV C0 (rest := []) (q := (RX7, TX7, 9)) (c_X7_countCut l g μ h1) q4_119 q4_116 q4_117 q4_118 q1_2 hd_X7_countCut ⟨rfl, rfl⟩ ⟨Nat.le_of_ble_eq_true rfl, Nat.le_of_ble_eq_true rfl⟩ cx_1 (by decide) rfl hP hS hl.1 rfl rfl (Nat.le_of_ble_eq_true rfl) dX9_told_158 (fun H locs hP hS => ?_)
    refine W.eq (g2 := F0 m 161 ls [.int r11]) rfl ?_
    obtain ⟨rfl, rfl⟩ := some2 h
    exact x_iret C0 hP hS dX9_told_161
  rw [if_neg c10] at h
  by_cases c12 : x1 = (10 : Int32)
  · rw [if_pos c12] at h
    refine lv_tableIn (tgt := 162) (off := 161) hx hb dX9_told_1 (by rw [c12]; decide) (by rw [c12]; decide) (by rw [c12]; decide) (by decide) ?_
    refine lv_aload_n hx hb dX9_told_162 rfl (lv_at hl 0 rfl) ?_
    refine x_get C0 hP inu9 (k := 0) cx_0 (by decide) rfl 0 (by decide) q2_81 rfl (v := .ref (g.2.2.1 + 1)) rfl dX9_told_163 ?_
    obtain ⟨r13, μ13, h1, h⟩ := ob2_some h
    refine x_callV C0 (rest := []) (q := (RX7, TX7, 9)) (c_X7_allDebt l g μ h1) q4_123 q4_120 q4_121 q4_122 q1_2 hd_X7_allDebt ⟨rfl, rfl⟩ ⟨Nat.le_of_ble_eq_true rfl, Nat.le_of_ble_eq_true rfl⟩ cx_1 (by decide) rfl hP hS hl.1 rfl rfl (Nat.le_of_ble_eq_true rfl) dX9_told_166 (fun H locs hP hS => ?_)
    refine W.eq (g2 := F0 m 169 ls [.int r13]) rfl ?_
    obtain ⟨rfl, rfl⟩ := some2 h
    exact x_iret C0 hP hS dX9_told_169
  rw [if_neg c12] at h
  by_cases c14 : x1 = (11 : Int32)
  · rw [if_pos c14] at h
    refine lv_tableIn (tgt := 170) (off := 169) hx hb dX9_told_1 (by rw [c14]; decide) (by rw [c14]; decide) (by rw [c14]; decide) (by decide) ?_
    refine lv_aload_n hx hb dX9_told_170 rfl (lv_at hl 0 rfl) ?_
    refine x_get C0 hP inu9 (k := 0) cx_0 (by decide) rfl 4 (by decide) q2_85 rfl (v := .ref (g.2.2.1 + 83)) rfl dX9_told_171 ?_
    refine x_get C0 hP inu8 (k := 83) cx_83 (by decide) rfl 1 (by decide) q2_55 rfl (v := .int (μ 83 1)) rfl dX9_told_174 ?_
    obtain ⟨rfl, rfl⟩ := some2 h
    exact x_iret C0 hP hS dX9_told_177
  rw [if_neg c14] at h
  have i1 : ¬ x1.toInt = 0 := fun q => c1 (Int32.toInt_inj.mp (q.trans (by decide)))
  have i2 : ¬ x1.toInt = 1 := fun q => c2 (Int32.toInt_inj.mp (q.trans (by decide)))
  have i3 : ¬ x1.toInt = 2 := fun q => c3 (Int32.toInt_inj.mp (q.trans (by decide)))
  have i4 : ¬ x1.toInt = 3 := fun q => c4 (Int32.toInt_inj.mp (q.trans (by decide)))
  have i5 : ¬ x1.toInt = 4 := fun q => c5 (Int32.toInt_inj.mp (q.trans (by decide)))
  have i6 : ¬ x1.toInt = 5 := fun q => c6 (Int32.toInt_inj.mp (q.trans (by decide)))
  have i7 : ¬ x1.toInt = 6 := fun q => c7 (Int32.toInt_inj.mp (q.trans (by decide)))
  have i8 : ¬ x1.toInt = 7 := fun q => c8 (Int32.toInt_inj.mp (q.trans (by decide)))
  have i9 : ¬ x1.toInt = 8 := fun q => c9 (Int32.toInt_inj.mp (q.trans (by decide)))
  have i10 : ¬ x1.toInt = 9 := fun q => c10 (Int32.toInt_inj.mp (q.trans (by decide)))
  have i12 : ¬ x1.toInt = 10 := fun q => c12 (Int32.toInt_inj.mp (q.trans (by decide)))
  have i14 : ¬ x1.toInt = 11 := fun q => c14 (Int32.toInt_inj.mp (q.trans (by decide)))
  refine lv_tableOut (tgt := 178) hx hb dX9_told_1 (by omega) (by decide) ?_
  refine lv_aload_n hx hb dX9_told_178 rfl (lv_at hl 0 rfl) ?_
  refine lv_iconst (v := (1 : Int32)) hx hb dX9_told_179 rfl ?_
  obtain ⟨r15, μ15, h1, h⟩ := ob2_some h
  refine x_callV C0 (rest := []) (q := (RX9, TX9, 9)) (c_X9_finding l g (1 : Int32) μ h1) q2_122 q2_119 q2_121 r1_0 q1_1 hd_X9_finding ⟨rfl, rfl⟩ ⟨Nat.le_of_ble_eq_true rfl, Nat.le_of_ble_eq_true rfl⟩ cx_0 (by decide) rfl hP hS hl.1 rfl rfl (Nat.le_of_ble_eq_true rfl) dX9_told_180 (fun H locs hP hS => ?_)
  refine W.eq (g2 := F0 m 183 ls [.int r15]) rfl ?_
  obtain ⟨rfl, rfl⟩ := some2 h
  exact x_iret C0 hP hS dX9_told_183
def X9_found_10   (μ : Mem) : Option (Int32 × Mem) :=
  ob2 (X9_finding (1 : Int32) μ) fun r2 μ2 => some (r2, μ2)
set_option maxRecDepth 100000 in
set_option maxHeartbeats 4000000 in
theorem w_X9_found_10 {g : Gx} {p : Program} {l : Launch} {e : Env} {s : State} {m : MethodId} {args : Array Value} {below : List Frame} {meth : Method} {c : Code} (C0 : Cx Lx g p s m args meth c cX9_found 2 (some .int) RX9) {r : Int32} {ν : Mem}   (μ : Mem) (H : Heap) (locs : List Loc) (ls : Array Slot) (hP : Px Lx g μ H) (hS : va_S (Ax Lx g) s.heap H locs) (hl : lv_has ls 2 [(0, .ref (g.2.2.1 + 0))]) (h : X9_found_10   μ = some (r, ν)) : W p l e { frames := 1, cells := 0, slots := 0, locals := 21 } s m args below meth c H locs 0 0 (MQ below (Qx Lx g (some (.int r)) ν) args s 0 0 (Ax Lx g)) (F0 m 10 ls []) := by
  obtain ⟨hx, hb, hr, hml, hown, hts, hlocks, hK⟩ := id C0
  unfold X9_found_10 at h
  refine lv_aload_n hx hb dX9_found_10 rfl (lv_at hl 0 rfl) ?_
  refine lv_iconst (v := (1 : Int32)) hx hb dX9_found_11 rfl ?_
  obtain ⟨r2, μ2, h1, h⟩ := ob2_some h
  refine x_callV C0 (rest := []) (q := (RX9, TX9, 9)) (c_X9_finding l g (1 : Int32) μ h1) q2_122 q2_119 q2_121 r1_0 q1_1 hd_X9_finding ⟨rfl, rfl⟩ ⟨Nat.le_of_ble_eq_true rfl, Nat.le_of_ble_eq_true rfl⟩ cx_0 (by decide) rfl hP hS hl.1 rfl rfl (Nat.le_of_ble_eq_true rfl) dX9_found_12 (fun H locs hP hS => ?_)
  refine W.eq (g2 := F0 m 15 ls [.int r2]) rfl ?_
  obtain ⟨rfl, rfl⟩ := some2 h
  exact x_iret C0 hP hS dX9_found_15
def X9_found (x1 : Int32) (μ : Mem) : Option (Int32 × Mem) :=
  (if x1 < (1 : Int32) then X9_found_10 μ else (if x1 ≤ (5 : Int32) then gd (inB x1 6) (some ((μ 86 x1.toNatClampNeg), μ)) else X9_found_10 μ))
set_option maxRecDepth 100000 in
set_option maxHeartbeats 4000000 in
theorem c_X9_found (l : Launch) (g : Gx) (x1 : Int32) (μ : Mem) {r : Int32} {ν : Mem} (h : X9_found x1 μ = some (r, ν)) : Ct Lx g l yX9_found cX9_found 2 (some .int) { frames := 1, cells := 0, slots := 0, locals := 21 } [.ref (g.2.2.1 + 0), .int x1] μ (some (.int r)) ν := by
  refine x_met (lv := [(0, .ref (g.2.2.1 + 0)), (1, .int x1)]) rfl (Nat.le_of_ble_eq_true rfl) rfl ?_
  intro p e s m below meth c C0 hP ls hl
  generalize ([.ref (g.2.2.1 + 0), .int x1] : List Value).toArray = args at C0 ⊢
  have C0 : Cx Lx g p s m args meth c cX9_found 2 (some .int) RX9 := C0
  have hS : va_S (Ax Lx g) s.heap s.heap [] := va_S.rf
  obtain ⟨hx, hb, hr, hml, hown, hts, hlocks, hK⟩ := id C0
  unfold X9_found at h
  skip
  refine lv_iload_n hx hb dX9_found_0 rfl (lv_at hl 1 rfl) ?_
  refine lv_iconst (v := (1 : Int32)) hx hb dX9_found_1 rfl ?_
  refine lv_icmp_lt (tgt := 10) hx hb dX9_found_2 (by decide) (fun c1 => ?_) (fun c1 => ?_)
  · rw [if_pos c1] at h
    exact w_X9_found_10 C0   μ _ _ _ hP hS (lv_sub hl [0] rfl) h
  · rw [if_neg c1] at h
    refine lv_iload_n hx hb dX9_found_5 rfl (lv_at hl 1 rfl) ?_
    refine lv_iconst (v := (5 : Int32)) hx hb dX9_found_6 rfl ?_
    refine lv_icmp_le (tgt := 16) hx hb dX9_found_7 (by decide) (fun c3 => ?_) (fun c3 => ?_)
    · rw [if_pos c3] at h
      refine lv_aload_n hx hb dX9_found_16 rfl (lv_at hl 0 rfl) ?_
      refine x_get C0 hP inu9 (k := 0) cx_0 (by decide) rfl 6 (by decide) q2_87 rfl (v := .ref (g.2.2.1 + 86)) rfl dX9_found_17 ?_
      refine lv_iload_n hx hb dX9_found_20 rfl (lv_at hl 1 rfl) ?_
      obtain ⟨z4, h⟩ := gd_some h
      refine x_iald C0 hP (k := 86) cx_86 (j := x1.toNatClampNeg) z4 rfl dX9_found_21 ?_
      obtain ⟨rfl, rfl⟩ := some2 h
      exact x_iret C0 hP hS dX9_found_22
    · rw [if_neg c3] at h
      exact w_X9_found_10 C0   μ _ _ _ hP hS (lv_sub hl [0] rfl) h
def X10_finding (x1 : Int32) (μ : Mem) : Option (Int32 × Mem) :=
  gd (inB x1 6) (gd (inB x1 6) (lt (st μ 4 x1.toNatClampNeg ((μ 4 x1.toNatClampNeg) + (1 : Int32))) fun μ3 => some (((-1000000 : Int32) - x1), μ3)))
set_option maxRecDepth 100000 in
set_option maxHeartbeats 4000000 in
theorem c_X10_finding (l : Launch) (g : Gx) (x1 : Int32) (μ : Mem) {r : Int32} {ν : Mem} (h : X10_finding x1 μ = some (r, ν)) : Ct Lm g l yX10_finding cX10_finding 2 (some .int) { frames := 0, cells := 0, slots := 0, locals := 0 } [.ref (g.2.2.1 + 0), .int x1] μ (some (.int r)) ν := by
  refine x_met (lv := [(0, .ref (g.2.2.1 + 0)), (1, .int x1)]) rfl (Nat.le_of_ble_eq_true rfl) rfl ?_
  intro p e s m below meth c C0 hP ls hl
  generalize ([.ref (g.2.2.1 + 0), .int x1] : List Value).toArray = args at C0 ⊢
  have C0 : Cx Lm g p s m args meth c cX10_finding 2 (some .int) RX10 := C0
  have hS : va_S (Ax Lm g) s.heap s.heap [] := va_S.rf
  obtain ⟨hx, hb, hr, hml, hown, hts, hlocks, hK⟩ := id C0
  unfold X10_finding at h
  skip
  refine lv_aload_n hx hb dX10_finding_0 rfl (lv_at hl 0 rfl) ?_
  refine x_get C0 hP inu10 (k := 0) cm_0 (by decide) rfl 5 (by decide) q4_139 rfl (v := .ref (g.2.2.1 + 4)) rfl dX10_finding_1 ?_
  refine lv_iload_n hx hb dX10_finding_4 rfl (lv_at hl 1 rfl) ?_
  refine lv_dup2_11 hx hb dX10_finding_5 rfl rfl ?_
  obtain ⟨z1, h⟩ := gd_some h
  refine x_iald C0 hP (k := 4) cm_4 (j := x1.toNatClampNeg) z1 rfl dX10_finding_6 ?_
  refine lv_iconst (v := (1 : Int32)) hx hb dX10_finding_7 rfl ?_
  refine lv_iadd hx hb dX10_finding_8 ?_
  obtain ⟨z2, h⟩ := gd_some h
  obtain ⟨μ3, e3, h⟩ := lt_some h
  refine x_iast C0 hP hS (k := 4) cm_4 (j := x1.toNatClampNeg) z2 rfl dX10_finding_9 (fun H locs hP hS => ?_)
  rw [← e3] at hP
  refine lv_ldc (v := (-1000000 : Int32)) hx hb hown (hts _ q4_215) dX10_finding_10 ?_
  refine lv_iload_n hx hb dX10_finding_12 rfl (lv_at hl 1 rfl) ?_
  refine lv_isub hx hb dX10_finding_13 ?_
  obtain ⟨rfl, rfl⟩ := some2 h
  exact x_iret C0 hP hS dX10_finding_14
def X10_in (x0 : Int32) (x1 : Int32) (x2 : Int32) (μ : Mem) : Option (Int32 × Mem) :=
  (if x0 < x1 then some ((0 : Int32), μ) else (if x2 < x0 then some ((0 : Int32), μ) else some ((1 : Int32), μ)))
set_option maxRecDepth 100000 in
set_option maxHeartbeats 4000000 in
theorem c_X10_in (l : Launch) (g : Gx) (x0 : Int32) (x1 : Int32) (x2 : Int32) (μ : Mem) {r : Int32} {ν : Mem} (h : X10_in x0 x1 x2 μ = some (r, ν)) : Ct Lm g l yX10_in cX10_in 3 (some .boolean) { frames := 0, cells := 0, slots := 0, locals := 0 } [.int x0, .int x1, .int x2] μ (some (.int r)) ν := by
  refine x_met (lv := [(0, .int x0), (1, .int x1), (2, .int x2)]) rfl (Nat.le_of_ble_eq_true rfl) rfl ?_
  intro p e s m below meth c C0 hP ls hl
  generalize ([.int x0, .int x1, .int x2] : List Value).toArray = args at C0 ⊢
  have C0 : Cx Lm g p s m args meth c cX10_in 3 (some .boolean) RX10 := C0
  have hS : va_S (Ax Lm g) s.heap s.heap [] := va_S.rf
  obtain ⟨hx, hb, hr, hml, hown, hts, hlocks, hK⟩ := id C0
  unfold X10_in at h
  skip
  refine lv_iload_n hx hb dX10_in_0 rfl (lv_at hl 0 rfl) ?_
  refine lv_iload_n hx hb dX10_in_1 rfl (lv_at hl 1 rfl) ?_
  refine lv_icmp_lt (tgt := 14) hx hb dX10_in_2 (by decide) (fun c1 => ?_) (fun c1 => ?_)
  · rw [if_pos c1] at h
    refine lv_iconst (v := (0 : Int32)) hx hb dX10_in_14 rfl ?_
    obtain ⟨rfl, rfl⟩ := some2 h
    exact x_zret C0 hP hS (by decide) dX10_in_15
  · rw [if_neg c1] at h
    refine lv_iload_n hx hb dX10_in_5 rfl (lv_at hl 0 rfl) ?_
    refine lv_iload_n hx hb dX10_in_6 rfl (lv_at hl 2 rfl) ?_
    refine lv_icmp_gt (tgt := 14) hx hb dX10_in_7 (by decide) (fun c2 => ?_) (fun c2 => ?_)
    · rw [if_pos c2] at h
      refine lv_iconst (v := (0 : Int32)) hx hb dX10_in_14 rfl ?_
      obtain ⟨rfl, rfl⟩ := some2 h
      exact x_zret C0 hP hS (by decide) dX10_in_15
    · rw [if_neg c2] at h
      refine lv_iconst (v := (1 : Int32)) hx hb dX10_in_10 rfl ?_
      refine lv_goto (tgt := 15) hx hb dX10_in_11 (by decide) ?_
      obtain ⟨rfl, rfl⟩ := some2 h
      exact x_zret C0 hP hS (by decide) dX10_in_15
def X10_within (x0 : Int32) (x1 : Int32) (x2 : Int32) (μ : Mem) : Option (Int32 × Mem) :=
  (if x1 ≤ x0 then (if x0 ≤ x2 then some (x0, μ) else some (x2, μ)) else some (x1, μ))
set_option maxRecDepth 100000 in
set_option maxHeartbeats 4000000 in
theorem c_X10_within (l : Launch) (g : Gx) (x0 : Int32) (x1 : Int32) (x2 : Int32) (μ : Mem) {r : Int32} {ν : Mem} (h : X10_within x0 x1 x2 μ = some (r, ν)) : Ct Lm g l yX10_within cX10_within 3 (some .int) { frames := 0, cells := 0, slots := 0, locals := 0 } [.int x0, .int x1, .int x2] μ (some (.int r)) ν := by
  refine x_met (lv := [(0, .int x0), (1, .int x1), (2, .int x2)]) rfl (Nat.le_of_ble_eq_true rfl) rfl ?_
  intro p e s m below meth c C0 hP ls hl
  generalize ([.int x0, .int x1, .int x2] : List Value).toArray = args at C0 ⊢
  have C0 : Cx Lm g p s m args meth c cX10_within 3 (some .int) RX10 := C0
  have hS : va_S (Ax Lm g) s.heap s.heap [] := va_S.rf
  obtain ⟨hx, hb, hr, hml, hown, hts, hlocks, hK⟩ := id C0
  unfold X10_within at h
  skip
  refine lv_iload_n hx hb dX10_within_0 rfl (lv_at hl 0 rfl) ?_
  refine lv_iload_n hx hb dX10_within_1 rfl (lv_at hl 1 rfl) ?_
  refine lv_icmp_ge (tgt := 9) hx hb dX10_within_2 (by decide) (fun c1 => ?_) (fun c1 => ?_)
  · rw [if_pos c1] at h
    refine lv_iload_n hx hb dX10_within_9 rfl (lv_at hl 0 rfl) ?_
    refine lv_iload_n hx hb dX10_within_10 rfl (lv_at hl 2 rfl) ?_
    refine lv_icmp_le (tgt := 18) hx hb dX10_within_11 (by decide) (fun c2 => ?_) (fun c2 => ?_)
    · rw [if_pos c2] at h
      refine lv_iload_n hx hb dX10_within_18 rfl (lv_at hl 0 rfl) ?_
      obtain ⟨rfl, rfl⟩ := some2 h
      exact x_iret C0 hP hS dX10_within_19
    · rw [if_neg c2] at h
      refine lv_iload_n hx hb dX10_within_14 rfl (lv_at hl 2 rfl) ?_
      refine lv_goto (tgt := 19) hx hb dX10_within_15 (by decide) ?_
      obtain ⟨rfl, rfl⟩ := some2 h
      exact x_iret C0 hP hS dX10_within_19
  · rw [if_neg c1] at h
    refine lv_iload_n hx hb dX10_within_5 rfl (lv_at hl 1 rfl) ?_
    refine lv_goto (tgt := 19) hx hb dX10_within_6 (by decide) ?_
    obtain ⟨rfl, rfl⟩ := some2 h
    exact x_iret C0 hP hS dX10_within_19
def X10_isMeter (x1 : Int32) (μ : Mem) : Option (Int32 × Mem) :=
  ob2 (X10_in x1 (0 : Int32) ((μ 1 1) - (1 : Int32)) μ) fun r1 μ1 => gd (r1 = 0 ∨ r1 = 1) (some (r1, μ1))
set_option maxRecDepth 100000 in
set_option maxHeartbeats 4000000 in
theorem c_X10_isMeter (l : Launch) (g : Gx) (x1 : Int32) (μ : Mem) {r : Int32} {ν : Mem} (h : X10_isMeter x1 μ = some (r, ν)) : Ct Lm g l yX10_isMeter cX10_isMeter 2 (some .boolean) { frames := 1, cells := 0, slots := 0, locals := 22 } [.ref (g.2.2.1 + 0), .int x1] μ (some (.int r)) ν := by
  refine x_met (lv := [(0, .ref (g.2.2.1 + 0)), (1, .int x1)]) rfl (Nat.le_of_ble_eq_true rfl) rfl ?_
  intro p e s m below meth c C0 hP ls hl
  generalize ([.ref (g.2.2.1 + 0), .int x1] : List Value).toArray = args at C0 ⊢
  have C0 : Cx Lm g p s m args meth c cX10_isMeter 2 (some .boolean) RX10 := C0
  have hS : va_S (Ax Lm g) s.heap s.heap [] := va_S.rf
  obtain ⟨hx, hb, hr, hml, hown, hts, hlocks, hK⟩ := id C0
  unfold X10_isMeter at h
  skip
  refine lv_iload_n hx hb dX10_isMeter_0 rfl (lv_at hl 1 rfl) ?_
  refine lv_iconst (v := (0 : Int32)) hx hb dX10_isMeter_1 rfl ?_
  refine lv_aload_n hx hb dX10_isMeter_2 rfl (lv_at hl 0 rfl) ?_
  refine x_get C0 hP inu10 (k := 0) cm_0 (by decide) rfl 0 (by decide) q4_134 rfl (v := .ref (g.2.2.1 + 1)) rfl dX10_isMeter_3 ?_
  refine lv_iconst (v := (1 : Int32)) hx hb dX10_isMeter_6 rfl ?_
  refine x_iald C0 hP (k := 1) cm_1 (j := 1) (by decide) rfl dX10_isMeter_7 ?_
  refine lv_iconst (v := (1 : Int32)) hx hb dX10_isMeter_8 rfl ?_
  refine lv_isub hx hb dX10_isMeter_9 ?_
  obtain ⟨r1, μ1, h1, h⟩ := ob2_some h
  refine x_callS C0 (rest := []) (c_X10_in l g x1 (0 : Int32) ((μ 1 1) - (1 : Int32)) μ h1) q4_207 q4_205 q4_206 q1_11 hd_X10_in ⟨rfl, rfl⟩ ⟨Nat.le_of_ble_eq_true rfl, Nat.le_of_ble_eq_true rfl⟩ hP hS hl.1 rfl rfl (Nat.le_of_ble_eq_true rfl) dX10_isMeter_10 (fun H locs hP hS => ?_)
  refine W.eq (g2 := F0 m 13 ls [.int r1]) rfl ?_
  obtain ⟨z2, h⟩ := gd_some h
  obtain ⟨rfl, rfl⟩ := some2 h
  exact x_zret C0 hP hS z2 dX10_isMeter_13
def X10_of (x1 : Int32) (x2 : Int32) (μ : Mem) : Option (Int32 × Mem) :=
  gd (inB (((16 : Int32) + ((40 : Int32) * x1)) + x2) 1944) (some ((μ 1 (((16 : Int32) + ((40 : Int32) * x1)) + x2).toNatClampNeg), μ))
set_option maxRecDepth 100000 in
set_option maxHeartbeats 4000000 in
theorem c_X10_of (l : Launch) (g : Gx) (x1 : Int32) (x2 : Int32) (μ : Mem) {r : Int32} {ν : Mem} (h : X10_of x1 x2 μ = some (r, ν)) : Ct Lm g l yX10_of cX10_of 3 (some .int) { frames := 0, cells := 0, slots := 0, locals := 0 } [.ref (g.2.2.1 + 0), .int x1, .int x2] μ (some (.int r)) ν := by
  refine x_met (lv := [(0, .ref (g.2.2.1 + 0)), (1, .int x1), (2, .int x2)]) rfl (Nat.le_of_ble_eq_true rfl) rfl ?_
  intro p e s m below meth c C0 hP ls hl
  generalize ([.ref (g.2.2.1 + 0), .int x1, .int x2] : List Value).toArray = args at C0 ⊢
  have C0 : Cx Lm g p s m args meth c cX10_of 3 (some .int) RX10 := C0
  have hS : va_S (Ax Lm g) s.heap s.heap [] := va_S.rf
  obtain ⟨hx, hb, hr, hml, hown, hts, hlocks, hK⟩ := id C0
  unfold X10_of at h
  skip
  refine lv_aload_n hx hb dX10_of_0 rfl (lv_at hl 0 rfl) ?_
  refine x_get C0 hP inu10 (k := 0) cm_0 (by decide) rfl 0 (by decide) q4_134 rfl (v := .ref (g.2.2.1 + 1)) rfl dX10_of_1 ?_
  refine lv_bipush (v := (16 : Int32)) hx hb dX10_of_4 (by decide +kernel) ?_
  refine lv_bipush (v := (40 : Int32)) hx hb dX10_of_6 (by decide +kernel) ?_
  refine lv_iload_n hx hb dX10_of_8 rfl (lv_at hl 1 rfl) ?_
  refine lv_imul hx hb dX10_of_9 ?_
  refine lv_iadd hx hb dX10_of_10 ?_
  refine lv_iload_n hx hb dX10_of_11 rfl (lv_at hl 2 rfl) ?_
  refine lv_iadd hx hb dX10_of_12 ?_
  obtain ⟨z1, h⟩ := gd_some h
  refine x_iald C0 hP (k := 1) cm_1 (j := (((16 : Int32) + ((40 : Int32) * x1)) + x2).toNatClampNeg) z1 rfl dX10_of_13 ?_
  obtain ⟨rfl, rfl⟩ := some2 h
  exact x_iret C0 hP hS dX10_of_14
def X10_set (x1 : Int32) (x2 : Int32) (x3 : Int32) (μ : Mem) : Option Mem :=
  gd (inB (((16 : Int32) + ((40 : Int32) * x1)) + x2) 1944) (lt (st μ 1 (((16 : Int32) + ((40 : Int32) * x1)) + x2).toNatClampNeg x3) fun μ2 => some μ2)
set_option maxRecDepth 100000 in
set_option maxHeartbeats 4000000 in
theorem c_X10_set (l : Launch) (g : Gx) (x1 : Int32) (x2 : Int32) (x3 : Int32) (μ : Mem) {ν : Mem} (h : X10_set x1 x2 x3 μ = some ν) : Ct Lm g l yX10_set cX10_set 4 none { frames := 0, cells := 0, slots := 0, locals := 0 } [.ref (g.2.2.1 + 0), .int x1, .int x2, .int x3] μ none ν := by
  refine x_met (lv := [(0, .ref (g.2.2.1 + 0)), (1, .int x1), (2, .int x2), (3, .int x3)]) rfl (Nat.le_of_ble_eq_true rfl) rfl ?_
  intro p e s m below meth c C0 hP ls hl
  generalize ([.ref (g.2.2.1 + 0), .int x1, .int x2, .int x3] : List Value).toArray = args at C0 ⊢
  have C0 : Cx Lm g p s m args meth c cX10_set 4 none RX10 := C0
  have hS : va_S (Ax Lm g) s.heap s.heap [] := va_S.rf
  obtain ⟨hx, hb, hr, hml, hown, hts, hlocks, hK⟩ := id C0
  unfold X10_set at h
  skip
  refine lv_aload_n hx hb dX10_set_0 rfl (lv_at hl 0 rfl) ?_
  refine x_get C0 hP inu10 (k := 0) cm_0 (by decide) rfl 0 (by decide) q4_134 rfl (v := .ref (g.2.2.1 + 1)) rfl dX10_set_1 ?_
  refine lv_bipush (v := (16 : Int32)) hx hb dX10_set_4 (by decide +kernel) ?_
  refine lv_bipush (v := (40 : Int32)) hx hb dX10_set_6 (by decide +kernel) ?_
  refine lv_iload_n hx hb dX10_set_8 rfl (lv_at hl 1 rfl) ?_
  refine lv_imul hx hb dX10_set_9 ?_
  refine lv_iadd hx hb dX10_set_10 ?_
  refine lv_iload_n hx hb dX10_set_11 rfl (lv_at hl 2 rfl) ?_
  refine lv_iadd hx hb dX10_set_12 ?_
  refine lv_iload_n hx hb dX10_set_13 rfl (lv_at hl 3 rfl) ?_
  obtain ⟨z1, h⟩ := gd_some h
  obtain ⟨μ2, e2, h⟩ := lt_some h
  refine x_iast C0 hP hS (k := 1) cm_1 (j := (((16 : Int32) + ((40 : Int32) * x1)) + x2).toNatClampNeg) z1 rfl dX10_set_14 (fun H locs hP hS => ?_)
  rw [← e2] at hP
  obtain rfl := some1 h
  exact x_vret C0 hP hS dX10_set_15
def X10_more (x1 : Int32) (x2 : Int32) (x3 : Int32) (μ : Mem) : Option Mem :=
  gd (inB (((16 : Int32) + ((40 : Int32) * x1)) + x2) 1944) (gd (inB (((16 : Int32) + ((40 : Int32) * x1)) + x2) 1944) (lt (st μ 1 (((16 : Int32) + ((40 : Int32) * x1)) + x2).toNatClampNeg ((μ 1 (((16 : Int32) + ((40 : Int32) * x1)) + x2).toNatClampNeg) + x3)) fun μ3 => some μ3))
set_option maxRecDepth 100000 in
set_option maxHeartbeats 4000000 in
theorem c_X10_more (l : Launch) (g : Gx) (x1 : Int32) (x2 : Int32) (x3 : Int32) (μ : Mem) {ν : Mem} (h : X10_more x1 x2 x3 μ = some ν) : Ct Lm g l yX10_more cX10_more 4 none { frames := 0, cells := 0, slots := 0, locals := 0 } [.ref (g.2.2.1 + 0), .int x1, .int x2, .int x3] μ none ν := by
  refine x_met (lv := [(0, .ref (g.2.2.1 + 0)), (1, .int x1), (2, .int x2), (3, .int x3)]) rfl (Nat.le_of_ble_eq_true rfl) rfl ?_
  intro p e s m below meth c C0 hP ls hl
  generalize ([.ref (g.2.2.1 + 0), .int x1, .int x2, .int x3] : List Value).toArray = args at C0 ⊢
  have C0 : Cx Lm g p s m args meth c cX10_more 4 none RX10 := C0
  have hS : va_S (Ax Lm g) s.heap s.heap [] := va_S.rf
  obtain ⟨hx, hb, hr, hml, hown, hts, hlocks, hK⟩ := id C0
  unfold X10_more at h
  skip
  refine lv_aload_n hx hb dX10_more_0 rfl (lv_at hl 0 rfl) ?_
  refine x_get C0 hP inu10 (k := 0) cm_0 (by decide) rfl 0 (by decide) q4_134 rfl (v := .ref (g.2.2.1 + 1)) rfl dX10_more_1 ?_
  refine lv_bipush (v := (16 : Int32)) hx hb dX10_more_4 (by decide +kernel) ?_
  refine lv_bipush (v := (40 : Int32)) hx hb dX10_more_6 (by decide +kernel) ?_
  refine lv_iload_n hx hb dX10_more_8 rfl (lv_at hl 1 rfl) ?_
  refine lv_imul hx hb dX10_more_9 ?_
  refine lv_iadd hx hb dX10_more_10 ?_
  refine lv_iload_n hx hb dX10_more_11 rfl (lv_at hl 2 rfl) ?_
  refine lv_iadd hx hb dX10_more_12 ?_
  refine lv_dup2_11 hx hb dX10_more_13 rfl rfl ?_
  obtain ⟨z1, h⟩ := gd_some h
  refine x_iald C0 hP (k := 1) cm_1 (j := (((16 : Int32) + ((40 : Int32) * x1)) + x2).toNatClampNeg) z1 rfl dX10_more_14 ?_
  refine lv_iload_n hx hb dX10_more_15 rfl (lv_at hl 3 rfl) ?_
  refine lv_iadd hx hb dX10_more_16 ?_
  obtain ⟨z2, h⟩ := gd_some h
  obtain ⟨μ3, e3, h⟩ := lt_some h
  refine x_iast C0 hP hS (k := 1) cm_1 (j := (((16 : Int32) + ((40 : Int32) * x1)) + x2).toNatClampNeg) z2 rfl dX10_more_17 (fun H locs hP hS => ?_)
  rw [← e3] at hP
  obtain rfl := some1 h
  exact x_vret C0 hP hS dX10_more_18
def X10_isSmart (x1 : Int32) (μ : Mem) : Option (Int32 × Mem) :=
  ob2 (X10_of x1 (0 : Int32) μ) fun r1 μ1 => (if r1 = (2 : Int32) then some ((1 : Int32), μ1) else ob2 (X10_of x1 (0 : Int32) μ1) fun r3 μ3 => (if r3 = (4 : Int32) then some ((1 : Int32), μ3) else some ((0 : Int32), μ3)))
set_option maxRecDepth 100000 in
set_option maxHeartbeats 4000000 in
theorem c_X10_isSmart (l : Launch) (g : Gx) (x1 : Int32) (μ : Mem) {r : Int32} {ν : Mem} (h : X10_isSmart x1 μ = some (r, ν)) : Ct Lm g l yX10_isSmart cX10_isSmart 2 (some .boolean) { frames := 1, cells := 0, slots := 0, locals := 22 } [.ref (g.2.2.1 + 0), .int x1] μ (some (.int r)) ν := by
  refine x_met (lv := [(0, .ref (g.2.2.1 + 0)), (1, .int x1)]) rfl (Nat.le_of_ble_eq_true rfl) rfl ?_
  intro p e s m below meth c C0 hP ls hl
  generalize ([.ref (g.2.2.1 + 0), .int x1] : List Value).toArray = args at C0 ⊢
  have C0 : Cx Lm g p s m args meth c cX10_isSmart 2 (some .boolean) RX10 := C0
  have hS : va_S (Ax Lm g) s.heap s.heap [] := va_S.rf
  obtain ⟨hx, hb, hr, hml, hown, hts, hlocks, hK⟩ := id C0
  unfold X10_isSmart at h
  skip
  refine lv_aload_n hx hb dX10_isSmart_0 rfl (lv_at hl 0 rfl) ?_
  refine lv_iload_n hx hb dX10_isSmart_1 rfl (lv_at hl 1 rfl) ?_
  refine lv_iconst (v := (0 : Int32)) hx hb dX10_isSmart_2 rfl ?_
  obtain ⟨r1, μ1, h1, h⟩ := ob2_some h
  refine x_callV C0 (rest := []) (q := (RX10, TX10, 22)) (c_X10_of l g x1 (0 : Int32) μ h1) q4_235 q4_232 q4_234 r2_9 q1_11 hd_X10_of ⟨rfl, rfl⟩ ⟨Nat.le_of_ble_eq_true rfl, Nat.le_of_ble_eq_true rfl⟩ cm_0 (by decide) rfl hP hS hl.1 rfl rfl (Nat.le_of_ble_eq_true rfl) dX10_isSmart_3 (fun H locs hP hS => ?_)
  refine W.eq (g2 := F0 m 6 ls [.int r1]) rfl ?_
  refine lv_iconst (v := (2 : Int32)) hx hb dX10_isSmart_6 rfl ?_
  refine lv_icmp_eq (tgt := 20) hx hb dX10_isSmart_7 (by decide) (fun c2 => ?_) (fun c2 => ?_)
  · rw [if_pos c2] at h
    refine lv_iconst (v := (1 : Int32)) hx hb dX10_isSmart_20 rfl ?_
    refine lv_goto (tgt := 25) hx hb dX10_isSmart_21 (by decide) ?_
    obtain ⟨rfl, rfl⟩ := some2 h
    exact x_zret C0 hP hS (by decide) dX10_isSmart_25
  · rw [if_neg c2] at h
    refine lv_aload_n hx hb dX10_isSmart_10 rfl (lv_at hl 0 rfl) ?_
    refine lv_iload_n hx hb dX10_isSmart_11 rfl (lv_at hl 1 rfl) ?_
    refine lv_iconst (v := (0 : Int32)) hx hb dX10_isSmart_12 rfl ?_
    obtain ⟨r3, μ3, h1, h⟩ := ob2_some h
    refine x_callV C0 (rest := []) (q := (RX10, TX10, 22)) (c_X10_of l g x1 (0 : Int32) μ1 h1) q4_235 q4_232 q4_234 r2_9 q1_11 hd_X10_of ⟨rfl, rfl⟩ ⟨Nat.le_of_ble_eq_true rfl, Nat.le_of_ble_eq_true rfl⟩ cm_0 (by decide) rfl hP hS hl.1 rfl rfl (Nat.le_of_ble_eq_true rfl) dX10_isSmart_13 (fun H locs hP hS => ?_)
    refine W.eq (g2 := F0 m 16 ls [.int r3]) rfl ?_
    refine lv_iconst (v := (4 : Int32)) hx hb dX10_isSmart_16 rfl ?_
    refine lv_icmp_ne (tgt := 24) hx hb dX10_isSmart_17 (by decide) (fun c4 => ?_) (fun c4 => ?_)
    · rw [if_neg c4] at h
      refine lv_iconst (v := (0 : Int32)) hx hb dX10_isSmart_24 rfl ?_
      obtain ⟨rfl, rfl⟩ := some2 h
      exact x_zret C0 hP hS (by decide) dX10_isSmart_25
    · rw [if_pos c4] at h
      refine lv_iconst (v := (1 : Int32)) hx hb dX10_isSmart_20 rfl ?_
      refine lv_goto (tgt := 25) hx hb dX10_isSmart_21 (by decide) ?_
      obtain ⟨rfl, rfl⟩ := some2 h
      exact x_zret C0 hP hS (by decide) dX10_isSmart_25
def X10_limit_35  (t0 : Int32) (t1 : Int32) (μ : Mem) : Option (Int32 × Mem) :=
  some ((t0 - t1), μ)
set_option maxRecDepth 100000 in
set_option maxHeartbeats 4000000 in
theorem w_X10_limit_35 {g : Gx} {p : Program} {l : Launch} {e : Env} {s : State} {m : MethodId} {args : Array Value} {below : List Frame} {meth : Method} {c : Code} (C0 : Cx Lm g p s m args meth c cX10_limit 2 (some .int) RX10) {r : Int32} {ν : Mem}  (t0 : Int32) (t1 : Int32) (μ : Mem) (H : Heap) (locs : List Loc) (ls : Array Slot) (hP : Px Lm g μ H) (hS : va_S (Ax Lm g) s.heap H locs) (hl : lv_has ls 2 []) (h : X10_limit_35  t0 t1 μ = some (r, ν)) : W p l e { frames := 1, cells := 0, slots := 0, locals := 22 } s m args below meth c H locs 0 0 (MQ below (Qx Lm g (some (.int r)) ν) args s 0 0 (Ax Lm g)) (F0 m 35 ls [.int t1, .int t0]) := by
  obtain ⟨hx, hb, hr, hml, hown, hts, hlocks, hK⟩ := id C0
  unfold X10_limit_35 at h
  refine lv_isub hx hb dX10_limit_35 ?_
  obtain ⟨rfl, rfl⟩ := some2 h
  exact x_iret C0 hP hS dX10_limit_36
def X10_limit_18  (x1 : Int32) (t0 : Int32) (μ : Mem) : Option (Int32 × Mem) :=
  ob2 (X10_of x1 (0 : Int32) μ) fun r3 μ3 => (if r3 = (5 : Int32) then X10_limit_35 t0 (200 : Int32) μ3 else X10_limit_35 t0 (0 : Int32) μ3)
set_option maxRecDepth 100000 in
set_option maxHeartbeats 4000000 in
theorem w_X10_limit_18 {g : Gx} {p : Program} {l : Launch} {e : Env} {s : State} {m : MethodId} {args : Array Value} {below : List Frame} {meth : Method} {c : Code} (C0 : Cx Lm g p s m args meth c cX10_limit 2 (some .int) RX10) {r : Int32} {ν : Mem}  (x1 : Int32) (t0 : Int32) (μ : Mem) (H : Heap) (locs : List Loc) (ls : Array Slot) (hP : Px Lm g μ H) (hS : va_S (Ax Lm g) s.heap H locs) (hl : lv_has ls 2 [(0, .ref (g.2.2.1 + 0)), (1, .int x1)]) (h : X10_limit_18  x1 t0 μ = some (r, ν)) : W p l e { frames := 1, cells := 0, slots := 0, locals := 22 } s m args below meth c H locs 0 0 (MQ below (Qx Lm g (some (.int r)) ν) args s 0 0 (Ax Lm g)) (F0 m 18 ls [.int t0]) := by
  obtain ⟨hx, hb, hr, hml, hown, hts, hlocks, hK⟩ := id C0
  unfold X10_limit_18 at h
  refine lv_aload_n hx hb dX10_limit_18 rfl (lv_at hl 0 rfl) ?_
  refine lv_iload_n hx hb dX10_limit_19 rfl (lv_at hl 1 rfl) ?_
  refine lv_iconst (v := (0 : Int32)) hx hb dX10_limit_20 rfl ?_
  obtain ⟨r3, μ3, h1, h⟩ := ob2_some h
  refine x_callV C0 (rest := [.int t0]) (q := (RX10, TX10, 22)) (c_X10_of l g x1 (0 : Int32) μ h1) q4_235 q4_232 q4_234 r2_9 q1_11 hd_X10_of ⟨rfl, rfl⟩ ⟨Nat.le_of_ble_eq_true rfl, Nat.le_of_ble_eq_true rfl⟩ cm_0 (by decide) rfl hP hS hl.1 rfl rfl (Nat.le_of_ble_eq_true rfl) dX10_limit_21 (fun H locs hP hS => ?_)
  refine W.eq (g2 := F0 m 24 ls [.int r3, .int t0]) rfl ?_
  refine lv_iconst (v := (5 : Int32)) hx hb dX10_limit_24 rfl ?_
  refine lv_icmp_ne (tgt := 34) hx hb dX10_limit_25 (by decide) (fun c4 => ?_) (fun c4 => ?_)
  · rw [if_neg c4] at h
    refine lv_iconst (v := (0 : Int32)) hx hb dX10_limit_34 rfl ?_
    exact w_X10_limit_35 C0  t0 (0 : Int32) μ3 _ _ _ hP hS (lv_sub hl [] rfl) h
  · rw [if_pos c4] at h
    refine lv_sipush (v := (200 : Int32)) hx hb dX10_limit_28 (by decide +kernel) ?_
    refine lv_goto (tgt := 35) hx hb dX10_limit_31 (by decide) ?_
    exact w_X10_limit_35 C0  t0 (200 : Int32) μ3 _ _ _ hP hS (lv_sub hl [] rfl) h
def X10_limit (x1 : Int32) (μ : Mem) : Option (Int32 × Mem) :=
  ob2 (X10_of x1 (7 : Int32) μ) fun r1 μ1 => (if r1 = (1 : Int32) then X10_limit_18 x1 (-500 : Int32) μ1 else X10_limit_18 x1 (0 : Int32) μ1)
set_option maxRecDepth 100000 in
set_option maxHeartbeats 4000000 in
theorem c_X10_limit (l : Launch) (g : Gx) (x1 : Int32) (μ : Mem) {r : Int32} {ν : Mem} (h : X10_limit x1 μ = some (r, ν)) : Ct Lm g l yX10_limit cX10_limit 2 (some .int) { frames := 1, cells := 0, slots := 0, locals := 22 } [.ref (g.2.2.1 + 0), .int x1] μ (some (.int r)) ν := by
  refine x_met (lv := [(0, .ref (g.2.2.1 + 0)), (1, .int x1)]) rfl (Nat.le_of_ble_eq_true rfl) rfl ?_
  intro p e s m below meth c C0 hP ls hl
  generalize ([.ref (g.2.2.1 + 0), .int x1] : List Value).toArray = args at C0 ⊢
  have C0 : Cx Lm g p s m args meth c cX10_limit 2 (some .int) RX10 := C0
  have hS : va_S (Ax Lm g) s.heap s.heap [] := va_S.rf
  obtain ⟨hx, hb, hr, hml, hown, hts, hlocks, hK⟩ := id C0
  unfold X10_limit at h
  skip
  refine lv_aload_n hx hb dX10_limit_0 rfl (lv_at hl 0 rfl) ?_
  refine lv_iload_n hx hb dX10_limit_1 rfl (lv_at hl 1 rfl) ?_
  refine lv_bipush (v := (7 : Int32)) hx hb dX10_limit_2 (by decide +kernel) ?_
  obtain ⟨r1, μ1, h1, h⟩ := ob2_some h
  refine x_callV C0 (rest := []) (q := (RX10, TX10, 22)) (c_X10_of l g x1 (7 : Int32) μ h1) q4_235 q4_232 q4_234 r2_9 q1_11 hd_X10_of ⟨rfl, rfl⟩ ⟨Nat.le_of_ble_eq_true rfl, Nat.le_of_ble_eq_true rfl⟩ cm_0 (by decide) rfl hP hS hl.1 rfl rfl (Nat.le_of_ble_eq_true rfl) dX10_limit_4 (fun H locs hP hS => ?_)
  refine W.eq (g2 := F0 m 7 ls [.int r1]) rfl ?_
  refine lv_iconst (v := (1 : Int32)) hx hb dX10_limit_7 rfl ?_
  refine lv_icmp_ne (tgt := 17) hx hb dX10_limit_8 (by decide) (fun c2 => ?_) (fun c2 => ?_)
  · rw [if_neg c2] at h
    refine lv_iconst (v := (0 : Int32)) hx hb dX10_limit_17 rfl ?_
    exact w_X10_limit_18 C0  x1 (0 : Int32) μ1 _ _ _ hP hS (lv_sub hl [0, 1] rfl) h
  · rw [if_pos c2] at h
    refine lv_sipush (v := (-500 : Int32)) hx hb dX10_limit_11 (by decide +kernel) ?_
    refine lv_goto (tgt := 18) hx hb dX10_limit_14 (by decide) ?_
    exact w_X10_limit_18 C0  x1 (-500 : Int32) μ1 _ _ _ hP hS (lv_sub hl [0, 1] rfl) h
def X10_isFriendly (x0 : Int32) (μ : Mem) : Option (Int32 × Mem) :=
  (if (18 : Int32) ≤ (x0 - x0 / (24 : Int32) * (24 : Int32)) then some ((1 : Int32), μ) else (if (x0 - x0 / (24 : Int32) * (24 : Int32)) < (9 : Int32) then some ((1 : Int32), μ) else (if ((x0 / (24 : Int32)) - (x0 / (24 : Int32)) / (7 : Int32) * (7 : Int32)) = (5 : Int32) then some ((1 : Int32), μ) else (if ((x0 / (24 : Int32)) - (x0 / (24 : Int32)) / (7 : Int32) * (7 : Int32)) = (6 : Int32) then some ((1 : Int32), μ) else some ((0 : Int32), μ)))))
set_option maxRecDepth 100000 in
set_option maxHeartbeats 4000000 in
theorem c_X10_isFriendly (l : Launch) (g : Gx) (x0 : Int32) (μ : Mem) {r : Int32} {ν : Mem} (h : X10_isFriendly x0 μ = some (r, ν)) : Ct Lm g l yX10_isFriendly cX10_isFriendly 2 (some .boolean) { frames := 0, cells := 0, slots := 0, locals := 0 } [.int x0] μ (some (.int r)) ν := by
  refine x_met (lv := [(0, .int x0)]) rfl (Nat.le_of_ble_eq_true rfl) rfl ?_
  intro p e s m below meth c C0 hP ls hl
  generalize ([.int x0] : List Value).toArray = args at C0 ⊢
  have C0 : Cx Lm g p s m args meth c cX10_isFriendly 2 (some .boolean) RX10 := C0
  have hS : va_S (Ax Lm g) s.heap s.heap [] := va_S.rf
  obtain ⟨hx, hb, hr, hml, hown, hts, hlocks, hK⟩ := id C0
  unfold X10_isFriendly at h
  skip
  refine lv_iload_n hx hb dX10_isFriendly_0 rfl (lv_at hl 0 rfl) ?_
  refine lv_bipush (v := (24 : Int32)) hx hb dX10_isFriendly_1 (by decide +kernel) ?_
  refine lv_idiv hx hb dX10_isFriendly_3 (by decide) ?_
  refine lv_bipush (v := (7 : Int32)) hx hb dX10_isFriendly_4 (by decide +kernel) ?_
  refine lv_irem hx hb dX10_isFriendly_6 (by decide) ?_
  refine lv_istore_n (lv' := [(1, .int ((x0 / (24 : Int32)) - (x0 / (24 : Int32)) / (7 : Int32) * (7 : Int32))), (0, .int x0)]) hx hb dX10_isFriendly_7 rfl hl (by decide) rfl (fun ls hl => ?_)
  refine lv_iload_n hx hb dX10_isFriendly_8 rfl (lv_at hl 1 rfl) ?_
  refine lv_bipush (v := (24 : Int32)) hx hb dX10_isFriendly_9 (by decide +kernel) ?_
  refine lv_irem hx hb dX10_isFriendly_11 (by decide) ?_
  refine lv_bipush (v := (18 : Int32)) hx hb dX10_isFriendly_12 (by decide +kernel) ?_
  refine lv_icmp_ge (tgt := 37) hx hb dX10_isFriendly_14 (by decide) (fun c1 => ?_) (fun c1 => ?_)
  · rw [if_pos c1] at h
    refine lv_iconst (v := (1 : Int32)) hx hb dX10_isFriendly_37 rfl ?_
    refine lv_goto (tgt := 42) hx hb dX10_isFriendly_38 (by decide) ?_
    obtain ⟨rfl, rfl⟩ := some2 h
    exact x_zret C0 hP hS (by decide) dX10_isFriendly_42
  · rw [if_neg c1] at h
    refine lv_iload_n hx hb dX10_isFriendly_17 rfl (lv_at hl 1 rfl) ?_
    refine lv_bipush (v := (24 : Int32)) hx hb dX10_isFriendly_18 (by decide +kernel) ?_
    refine lv_irem hx hb dX10_isFriendly_20 (by decide) ?_
    refine lv_bipush (v := (9 : Int32)) hx hb dX10_isFriendly_21 (by decide +kernel) ?_
    refine lv_icmp_lt (tgt := 37) hx hb dX10_isFriendly_23 (by decide) (fun c2 => ?_) (fun c2 => ?_)
    · rw [if_pos c2] at h
      refine lv_iconst (v := (1 : Int32)) hx hb dX10_isFriendly_37 rfl ?_
      refine lv_goto (tgt := 42) hx hb dX10_isFriendly_38 (by decide) ?_
      obtain ⟨rfl, rfl⟩ := some2 h
      exact x_zret C0 hP hS (by decide) dX10_isFriendly_42
    · rw [if_neg c2] at h
      refine lv_iload_n hx hb dX10_isFriendly_26 rfl (lv_at hl 0 rfl) ?_
      refine lv_iconst (v := (5 : Int32)) hx hb dX10_isFriendly_27 rfl ?_
      refine lv_icmp_eq (tgt := 37) hx hb dX10_isFriendly_28 (by decide) (fun c3 => ?_) (fun c3 => ?_)
      · rw [if_pos c3] at h
        refine lv_iconst (v := (1 : Int32)) hx hb dX10_isFriendly_37 rfl ?_
        refine lv_goto (tgt := 42) hx hb dX10_isFriendly_38 (by decide) ?_
        obtain ⟨rfl, rfl⟩ := some2 h
        exact x_zret C0 hP hS (by decide) dX10_isFriendly_42
      · rw [if_neg c3] at h
        refine lv_iload_n hx hb dX10_isFriendly_31 rfl (lv_at hl 0 rfl) ?_
        refine lv_bipush (v := (6 : Int32)) hx hb dX10_isFriendly_32 (by decide +kernel) ?_
        refine lv_icmp_ne (tgt := 41) hx hb dX10_isFriendly_34 (by decide) (fun c4 => ?_) (fun c4 => ?_)
        · rw [if_neg c4] at h
          refine lv_iconst (v := (0 : Int32)) hx hb dX10_isFriendly_41 rfl ?_
          obtain ⟨rfl, rfl⟩ := some2 h
          exact x_zret C0 hP hS (by decide) dX10_isFriendly_42
        · rw [if_pos c4] at h
          refine lv_iconst (v := (1 : Int32)) hx hb dX10_isFriendly_37 rfl ?_
          refine lv_goto (tgt := 42) hx hb dX10_isFriendly_38 (by decide) ?_
          obtain ⟨rfl, rfl⟩ := some2 h
          exact x_zret C0 hP hS (by decide) dX10_isFriendly_42
def X10_byteAt  (μ : Mem) : Option (Int32 × Mem) :=
  (if (μ 0 10) = (0 : Int32) then (if (μ 0 8) < (μ 0 7) then gd (inB ((μ 0 6) + (μ 0 8)) 1944) (some ((μ 1 ((μ 0 6) + (μ 0 8)).toNatClampNeg), μ)) else some ((-1 : Int32), μ)) else some ((-1 : Int32), μ))
set_option maxRecDepth 100000 in
set_option maxHeartbeats 4000000 in
theorem c_X10_byteAt (l : Launch) (g : Gx)  (μ : Mem) {r : Int32} {ν : Mem} (h : X10_byteAt  μ = some (r, ν)) : Ct Lm g l yX10_byteAt cX10_byteAt 1 (some .int) { frames := 0, cells := 0, slots := 0, locals := 0 } [.ref (g.2.2.1 + 0)] μ (some (.int r)) ν := by
  refine x_met (lv := [(0, .ref (g.2.2.1 + 0))]) rfl (Nat.le_of_ble_eq_true rfl) rfl ?_
  intro p e s m below meth c C0 hP ls hl
  generalize ([.ref (g.2.2.1 + 0)] : List Value).toArray = args at C0 ⊢
  have C0 : Cx Lm g p s m args meth c cX10_byteAt 1 (some .int) RX10 := C0
  have hS : va_S (Ax Lm g) s.heap s.heap [] := va_S.rf
  obtain ⟨hx, hb, hr, hml, hown, hts, hlocks, hK⟩ := id C0
  unfold X10_byteAt at h
  skip
  refine lv_aload_n hx hb dX10_byteAt_0 rfl (lv_at hl 0 rfl) ?_
  refine x_get C0 hP inu10 (k := 0) cm_0 (by decide) rfl 10 (by decide) q4_144 rfl (v := .int (μ 0 10)) rfl dX10_byteAt_1 ?_
  refine lv_if_ne (tgt := 18) hx hb dX10_byteAt_4 (by decide) (fun c1 => ?_) (fun c1 => ?_)
  · rw [if_neg c1] at h
    refine lv_iconst (v := (-1 : Int32)) hx hb dX10_byteAt_18 rfl ?_
    refine lv_goto (tgt := 36) hx hb dX10_byteAt_19 (by decide) ?_
    obtain ⟨rfl, rfl⟩ := some2 h
    exact x_iret C0 hP hS dX10_byteAt_36
  · rw [if_pos c1] at h
    refine lv_aload_n hx hb dX10_byteAt_7 rfl (lv_at hl 0 rfl) ?_
    refine x_get C0 hP inu10 (k := 0) cm_0 (by decide) rfl 8 (by decide) q4_142 rfl (v := .int (μ 0 8)) rfl dX10_byteAt_8 ?_
    refine lv_aload_n hx hb dX10_byteAt_11 rfl (lv_at hl 0 rfl) ?_
    refine x_get C0 hP inu10 (k := 0) cm_0 (by decide) rfl 7 (by decide) q4_141 rfl (v := .int (μ 0 7)) rfl dX10_byteAt_12 ?_
    refine lv_icmp_lt (tgt := 22) hx hb dX10_byteAt_15 (by decide) (fun c2 => ?_) (fun c2 => ?_)
    · rw [if_pos c2] at h
      refine lv_aload_n hx hb dX10_byteAt_22 rfl (lv_at hl 0 rfl) ?_
      refine x_get C0 hP inu10 (k := 0) cm_0 (by decide) rfl 0 (by decide) q4_134 rfl (v := .ref (g.2.2.1 + 1)) rfl dX10_byteAt_23 ?_
      refine lv_aload_n hx hb dX10_byteAt_26 rfl (lv_at hl 0 rfl) ?_
      refine x_get C0 hP inu10 (k := 0) cm_0 (by decide) rfl 6 (by decide) q4_140 rfl (v := .int (μ 0 6)) rfl dX10_byteAt_27 ?_
      refine lv_aload_n hx hb dX10_byteAt_30 rfl (lv_at hl 0 rfl) ?_
      refine x_get C0 hP inu10 (k := 0) cm_0 (by decide) rfl 8 (by decide) q4_142 rfl (v := .int (μ 0 8)) rfl dX10_byteAt_31 ?_
      refine lv_iadd hx hb dX10_byteAt_34 ?_
      obtain ⟨z3, h⟩ := gd_some h
      refine x_iald C0 hP (k := 1) cm_1 (j := ((μ 0 6) + (μ 0 8)).toNatClampNeg) z3 rfl dX10_byteAt_35 ?_
      obtain ⟨rfl, rfl⟩ := some2 h
      exact x_iret C0 hP hS dX10_byteAt_36
    · rw [if_neg c2] at h
      refine lv_iconst (v := (-1 : Int32)) hx hb dX10_byteAt_18 rfl ?_
      refine lv_goto (tgt := 36) hx hb dX10_byteAt_19 (by decide) ?_
      obtain ⟨rfl, rfl⟩ := some2 h
      exact x_iret C0 hP hS dX10_byteAt_36
