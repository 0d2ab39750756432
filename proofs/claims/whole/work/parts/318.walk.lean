def X10_greatest_37  : Nat → Int32 → Int32 → Int32 → Int32 → Mem → Option (Int32 × Mem)
  | 0, _, _, _, _, _ => none
  | n + 1, x1, x2, x3, x4, μ => (if x4 < (0 : Int32) then ob2 (X10_finding (3 : Int32) μ) fun r6 μ6 => some (r6, μ6) else ob2 (X10_holds x1 x2 x3 x4 μ) fun r7 μ7 => (if r7 = (0 : Int32) then some (x4, μ7) else (X10_greatest_37 n) x1 x2 x3 (x4 + (-1 : Int32)) μ7))
set_option maxRecDepth 100000 in
set_option maxHeartbeats 4000000 in
theorem w_X10_greatest_37 {g : Gx} {p : Program} {l : Launch} {e : Env} {s : State} {m : MethodId} {args : Array Value} {below : List Frame} {meth : Method} {c : Code} (C0 : Cx Lm g p s m args meth c cX10_greatest 5 (some .int) RX10) {r : Int32} {ν : Mem}  (n : Nat) : ∀ (x1 : Int32) (x2 : Int32) (x3 : Int32) (x4 : Int32) (μ : Mem) (H : Heap) (locs : List Loc) (ls : Array Slot), Px Lm g μ H → va_S (Ax Lm g) s.heap H locs → lv_has ls 5 [(0, .ref (g.2.2.1 + 0)), (1, .int x1), (2, .int x2), (3, .int x3), (4, .int x4)] → X10_greatest_37  n x1 x2 x3 x4 μ = some (r, ν) → W p l e { frames := 71, cells := 0, slots := 0, locals := 1619 } s m args below meth c H locs 0 0 (MQ below (Qx Lm g (some (.int r)) ν) args s 0 0 (Ax Lm g)) (F0 m 37 ls []) := by
  obtain ⟨hx, hb, hr, hml, hown, hts, hlocks, hK⟩ := id C0
  induction n with
  | zero =>
    intro x1 x2 x3 x4 μ H locs ls hP hS hl h
    have h : (none : Option (Int32 × Mem)) = some (r, ν) := h
    cases h
  | succ n ih =>
    intro x1 x2 x3 x4 μ H locs ls hP hS hl h
    rw [X10_greatest_37.eq_2] at h
    refine lv_iload hx hb dX10_greatest_37 (lv_at hl 4 rfl) ?_
    refine lv_if_lt (tgt := 63) hx hb dX10_greatest_39 (by decide) (fun c5 => ?_) (fun c5 => ?_)
    · rw [if_pos c5] at h
      refine lv_aload_n hx hb dX10_greatest_63 rfl (lv_at hl 0 rfl) ?_
      refine lv_iconst (v := (3 : Int32)) hx hb dX10_greatest_64 rfl ?_
      obtain ⟨r6, μ6, h1, h⟩ := ob2_some h
      refine x_callV C0 (rest := []) (q := (RX10, TX10, 22)) (c_X10_finding l g (3 : Int32) μ h1) q4_214 q4_211 q4_213 r2_5 q1_11 hd_X10_finding ⟨rfl, rfl⟩ ⟨Nat.le_of_ble_eq_true rfl, Nat.le_of_ble_eq_true rfl⟩ cm_0 (by decide) rfl hP hS hl.1 rfl rfl (Nat.le_of_ble_eq_true rfl) dX10_greatest_65 (fun H locs hP hS => ?_)
      refine W.eq (g2 := F0 m 68 ls [.int r6]) rfl ?_
      obtain ⟨rfl, rfl⟩ := some2 h
      exact x_iret C0 hP hS dX10_greatest_68
    · rw [if_neg c5] at h
      refine lv_aload_n hx hb dX10_greatest_42 rfl (lv_at hl 0 rfl) ?_
      refine lv_iload_n hx hb dX10_greatest_43 rfl (lv_at hl 1 rfl) ?_
      refine lv_iload_n hx hb dX10_greatest_44 rfl (lv_at hl 2 rfl) ?_
      refine lv_iload_n hx hb dX10_greatest_45 rfl (lv_at hl 3 rfl) ?_
      refine lv_iload hx hb dX10_greatest_46 (lv_at hl 4 rfl) ?_
      obtain ⟨r7, μ7, h1, h⟩ := ob2_some h
      refine x_callV C0 (rest := []) (q := (RX10, TX10, 22)) (c_X10_holds l g x1 x2 x3 x4 μ h1) q5_175 q5_172 q5_174 r4_0 q1_11 hd_X10_holds ⟨rfl, rfl⟩ ⟨Nat.le_of_ble_eq_true rfl, Nat.le_of_ble_eq_true rfl⟩ cm_0 (by decide) rfl hP hS hl.1 rfl rfl (Nat.le_of_ble_eq_true rfl) dX10_greatest_48 (fun H locs hP hS => ?_)
      refine W.eq (g2 := F0 m 51 ls [.int r7]) rfl ?_
      refine lv_if_ne (tgt := 57) hx hb dX10_greatest_51 (by decide) (fun c8 => ?_) (fun c8 => ?_)
      · rw [if_neg c8] at h
        refine lv_iinc (v := (x4 + (-1 : Int32))) (lv' := [(4, .int (x4 + (-1 : Int32))), (0, .ref (g.2.2.1 + 0)), (1, .int x1), (2, .int x2), (3, .int x3)]) hx hb dX10_greatest_57 hl (k := 4) rfl rfl (by decide) rfl (fun ls hl => ?_)
        refine lv_goto (tgt := 37) hx hb dX10_greatest_60 (by decide) ?_
        exact ih x1 x2 x3 (x4 + (-1 : Int32)) μ7 _ _ _ hP hS (lv_sub hl [1, 2, 3, 4, 0] rfl) h
      · rw [if_pos c8] at h
        refine lv_iload hx hb dX10_greatest_54 (lv_at hl 4 rfl) ?_
        obtain ⟨rfl, rfl⟩ := some2 h
        exact x_iret C0 hP hS dX10_greatest_56
def X10_greatest (x1 : Int32) (x2 : Int32) (x3 : Int32) (μ : Mem) : Option (Int32 × Mem) :=
  ob2 (X10_isHolding x1 x2 x3 (0 : Int32) μ) fun r1 μ1 => (if r1 = (0 : Int32) then ob2 (X10_finding (1 : Int32) μ1) fun r10 μ10 => some (r10, μ10) else gd (inB x2 4) ((if (μ1 8 x2.toNatClampNeg) = (0 : Int32) then ob2 (X10_finding (2 : Int32) μ1) fun r9 μ9 => some (r9, μ9) else X10_greatest_37 FU x1 x2 x3 (200 : Int32) μ1)))
set_option maxRecDepth 100000 in
set_option maxHeartbeats 4000000 in
theorem c_X10_greatest (l : Launch) (g : Gx) (x1 : Int32) (x2 : Int32) (x3 : Int32) (μ : Mem) {r : Int32} {ν : Mem} (h : X10_greatest x1 x2 x3 μ = some (r, ν)) : Ct Lm g l yX10_greatest cX10_greatest 5 (some .int) { frames := 71, cells := 0, slots := 0, locals := 1619 } [.ref (g.2.2.1 + 0), .int x1, .int x2, .int x3] μ (some (.int r)) ν := by
  refine x_met (lv := [(0, .ref (g.2.2.1 + 0)), (1, .int x1), (2, .int x2), (3, .int x3)]) rfl (Nat.le_of_ble_eq_true rfl) rfl ?_
  intro p e s m below meth c C0 hP ls hl
  generalize ([.ref (g.2.2.1 + 0), .int x1, .int x2, .int x3] : List Value).toArray = args at C0 ⊢
  have C0 : Cx Lm g p s m args meth c cX10_greatest 5 (some .int) RX10 := C0
  have hS : va_S (Ax Lm g) s.heap s.heap [] := va_S.rf
  obtain ⟨hx, hb, hr, hml, hown, hts, hlocks, hK⟩ := id C0
  unfold X10_greatest at h
  skip
  refine lv_aload_n hx hb dX10_greatest_0 rfl (lv_at hl 0 rfl) ?_
  refine lv_iload_n hx hb dX10_greatest_1 rfl (lv_at hl 1 rfl) ?_
  refine lv_iload_n hx hb dX10_greatest_2 rfl (lv_at hl 2 rfl) ?_
  refine lv_iload_n hx hb dX10_greatest_3 rfl (lv_at hl 3 rfl) ?_
  refine lv_iconst (v := (0 : Int32)) hx hb dX10_greatest_4 rfl ?_
  obtain ⟨r1, μ1, h1, h⟩ := ob2_some h
  refine x_callV C0 (rest := []) (q := (RX10, TX10, 22)) (c_X10_isHolding l g x1 x2 x3 (0 : Int32) μ h1) q5_171 q5_168 q5_170 r3_15 q1_11 hd_X10_isHolding ⟨rfl, rfl⟩ ⟨Nat.le_of_ble_eq_true rfl, Nat.le_of_ble_eq_true rfl⟩ cm_0 (by decide) rfl hP hS hl.1 rfl rfl (Nat.le_of_ble_eq_true rfl) dX10_greatest_5 (fun H locs hP hS => ?_)
  refine W.eq (g2 := F0 m 8 ls [.int r1]) rfl ?_
  refine lv_if_ne (tgt := 17) hx hb dX10_greatest_8 (by decide) (fun c2 => ?_) (fun c2 => ?_)
  · rw [if_neg c2] at h
    refine lv_aload_n hx hb dX10_greatest_17 rfl (lv_at hl 0 rfl) ?_
    refine x_get C0 hP inu10 (k := 0) cm_0 (by decide) rfl 18 (by decide) q4_152 rfl (v := .ref (g.2.2.1 + 8)) rfl dX10_greatest_18 ?_
    refine lv_iload_n hx hb dX10_greatest_21 rfl (lv_at hl 2 rfl) ?_
    obtain ⟨z3, h⟩ := gd_some h
    refine x_iald C0 hP (k := 8) cm_8 (j := x2.toNatClampNeg) z3 rfl dX10_greatest_22 ?_
    refine lv_if_ne (tgt := 32) hx hb dX10_greatest_23 (by decide) (fun c4 => ?_) (fun c4 => ?_)
    · rw [if_neg c4] at h
      refine lv_sipush (v := (200 : Int32)) hx hb dX10_greatest_32 (by decide +kernel) ?_
      refine lv_istore (lv' := [(4, .int (200 : Int32)), (0, .ref (g.2.2.1 + 0)), (1, .int x1), (2, .int x2), (3, .int x3)]) hx hb dX10_greatest_35 hl (by decide) rfl (fun ls hl => ?_)
      exact w_X10_greatest_37 C0  FU x1 x2 x3 (200 : Int32) μ1 _ _ _ hP hS (lv_sub hl [1, 2, 3, 4, 0] rfl) h
    · rw [if_pos c4] at h
      refine lv_aload_n hx hb dX10_greatest_26 rfl (lv_at hl 0 rfl) ?_
      refine lv_iconst (v := (2 : Int32)) hx hb dX10_greatest_27 rfl ?_
      obtain ⟨r9, μ9, h1, h⟩ := ob2_some h
      refine x_callV C0 (rest := []) (q := (RX10, TX10, 22)) (c_X10_finding l g (2 : Int32) μ1 h1) q4_214 q4_211 q4_213 r2_5 q1_11 hd_X10_finding ⟨rfl, rfl⟩ ⟨Nat.le_of_ble_eq_true rfl, Nat.le_of_ble_eq_true rfl⟩ cm_0 (by decide) rfl hP hS hl.1 rfl rfl (Nat.le_of_ble_eq_true rfl) dX10_greatest_28 (fun H locs hP hS => ?_)
      refine W.eq (g2 := F0 m 31 ls [.int r9]) rfl ?_
      obtain ⟨rfl, rfl⟩ := some2 h
      exact x_iret C0 hP hS dX10_greatest_31
  · rw [if_pos c2] at h
    refine lv_aload_n hx hb dX10_greatest_11 rfl (lv_at hl 0 rfl) ?_
    refine lv_iconst (v := (1 : Int32)) hx hb dX10_greatest_12 rfl ?_
    obtain ⟨r10, μ10, h1, h⟩ := ob2_some h
    refine x_callV C0 (rest := []) (q := (RX10, TX10, 22)) (c_X10_finding l g (1 : Int32) μ1 h1) q4_214 q4_211 q4_213 r2_5 q1_11 hd_X10_finding ⟨rfl, rfl⟩ ⟨Nat.le_of_ble_eq_true rfl, Nat.le_of_ble_eq_true rfl⟩ cm_0 (by decide) rfl hP hS hl.1 rfl rfl (Nat.le_of_ble_eq_true rfl) dX10_greatest_13 (fun H locs hP hS => ?_)
    refine W.eq (g2 := F0 m 16 ls [.int r10]) rfl ?_
    obtain ⟨rfl, rfl⟩ := some2 h
    exact x_iret C0 hP hS dX10_greatest_16
def X10_reaches_56 (K6 : Int32 → Int32 → Int32 → Int32 → Int32 → Int32 → Mem → Option (Int32 × Mem)) (x1 : Int32) (x2 : Int32) (x3 : Int32) (x4 : Int32) (x6 : Int32) (t0 : Int32) (t1 : Int32) (μ : Mem) : Option (Int32 × Mem) :=
  K6 x1 x2 x3 x4 (t0 ||| t1) (x6 + (1 : Int32)) μ
set_option maxRecDepth 100000 in
set_option maxHeartbeats 4000000 in
theorem w_X10_reaches_56 {g : Gx} {p : Program} {l : Launch} {e : Env} {s : State} {m : MethodId} {args : Array Value} {below : List Frame} {meth : Method} {c : Code} (C0 : Cx Lm g p s m args meth c cX10_reaches 7 (some .boolean) RX10) {r : Int32} {ν : Mem} (K6 : Int32 → Int32 → Int32 → Int32 → Int32 → Int32 → Mem → Option (Int32 × Mem)) (hK6 : ∀ (x1 : Int32) (x2 : Int32) (x3 : Int32) (x4 : Int32) (x5 : Int32) (x6 : Int32) (μ : Mem) (H : Heap) (locs : List Loc) (ls : Array Slot), Px Lm g μ H → va_S (Ax Lm g) s.heap H locs → lv_has ls 7 [(0, .ref (g.2.2.1 + 0)), (1, .int x1), (2, .int x2), (3, .int x3), (4, .int x4), (5, .int x5), (6, .int x6)] → K6 x1 x2 x3 x4 x5 x6 μ = some (r, ν) → W p l e { frames := 2, cells := 0, slots := 0, locals := 46 } s m args below meth c H locs 0 0 (MQ below (Qx Lm g (some (.int r)) ν) args s 0 0 (Ax Lm g)) (F0 m 6 ls [])) (x1 : Int32) (x2 : Int32) (x3 : Int32) (x4 : Int32) (x6 : Int32) (t0 : Int32) (t1 : Int32) (μ : Mem) (H : Heap) (locs : List Loc) (ls : Array Slot) (hP : Px Lm g μ H) (hS : va_S (Ax Lm g) s.heap H locs) (hl : lv_has ls 7 [(0, .ref (g.2.2.1 + 0)), (1, .int x1), (2, .int x2), (3, .int x3), (4, .int x4), (6, .int x6)]) (h : X10_reaches_56 K6 x1 x2 x3 x4 x6 t0 t1 μ = some (r, ν)) : W p l e { frames := 2, cells := 0, slots := 0, locals := 46 } s m args below meth c H locs 0 0 (MQ below (Qx Lm g (some (.int r)) ν) args s 0 0 (Ax Lm g)) (F0 m 56 ls [.int t1, .int t0]) := by
  obtain ⟨hx, hb, hr, hml, hown, hts, hlocks, hK⟩ := id C0
  unfold X10_reaches_56 at h
  refine lv_ior hx hb dX10_reaches_56 ?_
  refine lv_istore (lv' := [(5, .int (t0 ||| t1)), (0, .ref (g.2.2.1 + 0)), (1, .int x1), (2, .int x2), (3, .int x3), (4, .int x4), (6, .int x6)]) hx hb dX10_reaches_57 hl (by decide) rfl (fun ls hl => ?_)
  refine lv_iinc (v := (x6 + (1 : Int32))) (lv' := [(6, .int (x6 + (1 : Int32))), (5, .int (t0 ||| t1)), (0, .ref (g.2.2.1 + 0)), (1, .int x1), (2, .int x2), (3, .int x3), (4, .int x4)]) hx hb dX10_reaches_59 hl (k := 6) rfl rfl (by decide) rfl (fun ls hl => ?_)
  refine lv_goto (tgt := 6) hx hb dX10_reaches_62 (by decide) ?_
  exact hK6 x1 x2 x3 x4 (t0 ||| t1) (x6 + (1 : Int32)) μ _ _ _ hP hS (lv_sub hl [2, 3, 4, 5, 6, 1, 0] rfl) h
def X10_reaches_55 (K6 : Int32 → Int32 → Int32 → Int32 → Int32 → Int32 → Mem → Option (Int32 × Mem)) (x1 : Int32) (x2 : Int32) (x3 : Int32) (x4 : Int32) (x6 : Int32) (t0 : Int32) (μ : Mem) : Option (Int32 × Mem) :=
  X10_reaches_56 K6 x1 x2 x3 x4 x6 t0 (0 : Int32) μ
set_option maxRecDepth 100000 in
set_option maxHeartbeats 4000000 in
theorem w_X10_reaches_55 {g : Gx} {p : Program} {l : Launch} {e : Env} {s : State} {m : MethodId} {args : Array Value} {below : List Frame} {meth : Method} {c : Code} (C0 : Cx Lm g p s m args meth c cX10_reaches 7 (some .boolean) RX10) {r : Int32} {ν : Mem} (K6 : Int32 → Int32 → Int32 → Int32 → Int32 → Int32 → Mem → Option (Int32 × Mem)) (hK6 : ∀ (x1 : Int32) (x2 : Int32) (x3 : Int32) (x4 : Int32) (x5 : Int32) (x6 : Int32) (μ : Mem) (H : Heap) (locs : List Loc) (ls : Array Slot), Px Lm g μ H → va_S (Ax Lm g) s.heap H locs → lv_has ls 7 [(0, .ref (g.2.2.1 + 0)), (1, .int x1), (2, .int x2), (3, .int x3), (4, .int x4), (5, .int x5), (6, .int x6)] → K6 x1 x2 x3 x4 x5 x6 μ = some (r, ν) → W p l e { frames := 2, cells := 0, slots := 0, locals := 46 } s m args below meth c H locs 0 0 (MQ below (Qx Lm g (some (.int r)) ν) args s 0 0 (Ax Lm g)) (F0 m 6 ls [])) (x1 : Int32) (x2 : Int32) (x3 : Int32) (x4 : Int32) (x6 : Int32) (t0 : Int32) (μ : Mem) (H : Heap) (locs : List Loc) (ls : Array Slot) (hP : Px Lm g μ H) (hS : va_S (Ax Lm g) s.heap H locs) (hl : lv_has ls 7 [(0, .ref (g.2.2.1 + 0)), (1, .int x1), (2, .int x2), (3, .int x3), (4, .int x4), (6, .int x6)]) (h : X10_reaches_55 K6 x1 x2 x3 x4 x6 t0 μ = some (r, ν)) : W p l e { frames := 2, cells := 0, slots := 0, locals := 46 } s m args below meth c H locs 0 0 (MQ below (Qx Lm g (some (.int r)) ν) args s 0 0 (Ax Lm g)) (F0 m 55 ls [.int t0]) := by
  obtain ⟨hx, hb, hr, hml, hown, hts, hlocks, hK⟩ := id C0
  unfold X10_reaches_55 at h
  refine lv_iconst (v := (0 : Int32)) hx hb dX10_reaches_55 rfl ?_
  exact w_X10_reaches_56 C0 K6 hK6 x1 x2 x3 x4 x6 t0 (0 : Int32) μ _ _ _ hP hS (lv_sub hl [0, 1, 2, 3, 4, 5] rfl) h
def X10_reaches_6  : Nat → Int32 → Int32 → Int32 → Int32 → Int32 → Int32 → Mem → Option (Int32 × Mem)
  | 0, _, _, _, _, _, _, _ => none
  | n + 1, x1, x2, x3, x4, x5, x6, μ => (if (μ 1 2) ≤ x6 then gd (x5 = 0 ∨ x5 = 1) (some (x5, μ)) else (if ((x4 >>> (x6 &&& 31)) &&& (1 : Int32)) = (1 : Int32) then ob2 (X10_isOpen x6 x3 μ) fun r4 μ4 => (if r4 = (0 : Int32) then X10_reaches_55 (X10_reaches_6 n) x1 x2 x3 x4 x6 x5 μ4 else ob2 (X10_farOf x1 x6 μ4) fun r6 μ6 => (if x2 < r6 then X10_reaches_55 (X10_reaches_6 n) x1 x2 x3 x4 x6 x5 μ6 else X10_reaches_56 (X10_reaches_6 n) x1 x2 x3 x4 x6 x5 (1 : Int32) μ6)) else X10_reaches_55 (X10_reaches_6 n) x1 x2 x3 x4 x6 x5 μ))
set_option maxRecDepth 100000 in
set_option maxHeartbeats 4000000 in
theorem w_X10_reaches_6 {g : Gx} {p : Program} {l : Launch} {e : Env} {s : State} {m : MethodId} {args : Array Value} {below : List Frame} {meth : Method} {c : Code} (C0 : Cx Lm g p s m args meth c cX10_reaches 7 (some .boolean) RX10) {r : Int32} {ν : Mem}  (n : Nat) : ∀ (x1 : Int32) (x2 : Int32) (x3 : Int32) (x4 : Int32) (x5 : Int32) (x6 : Int32) (μ : Mem) (H : Heap) (locs : List Loc) (ls : Array Slot), Px Lm g μ H → va_S (Ax Lm g) s.heap H locs → lv_has ls 7 [(0, .ref (g.2.2.1 + 0)), (1, .int x1), (2, .int x2), (3, .int x3), (4, .int x4), (5, .int x5), (6, .int x6)] → X10_reaches_6  n x1 x2 x3 x4 x5 x6 μ = some (r, ν) → W p l e { frames := 2, cells := 0, slots := 0, locals := 46 } s m args below meth c H locs 0 0 (MQ below (Qx Lm g (some (.int r)) ν) args s 0 0 (Ax Lm g)) (F0 m 6 ls []) := by
  obtain ⟨hx, hb, hr, hml, hown, hts, hlocks, hK⟩ := id C0
  induction n with
  | zero =>
    intro x1 x2 x3 x4 x5 x6 μ H locs ls hP hS hl h
    have h : (none : Option (Int32 × Mem)) = some (r, ν) := h
    cases h
  | succ n ih =>
    intro x1 x2 x3 x4 x5 x6 μ H locs ls hP hS hl h
    rw [X10_reaches_6.eq_2] at h
    refine lv_iload hx hb dX10_reaches_6 (lv_at hl 6 rfl) ?_
    refine lv_aload_n hx hb dX10_reaches_8 rfl (lv_at hl 0 rfl) ?_
    refine x_get C0 hP inu10 (k := 0) cm_0 (by decide) rfl 0 (by decide) q4_134 rfl (v := .ref (g.2.2.1 + 1)) rfl dX10_reaches_9 ?_
    refine lv_iconst (v := (2 : Int32)) hx hb dX10_reaches_12 rfl ?_
    refine x_iald C0 hP (k := 1) cm_1 (j := 2) (by decide) rfl dX10_reaches_13 ?_
    refine lv_icmp_ge (tgt := 65) hx hb dX10_reaches_14 (by decide) (fun c1 => ?_) (fun c1 => ?_)
    · rw [if_pos c1] at h
      refine lv_iload hx hb dX10_reaches_65 (lv_at hl 5 rfl) ?_
      obtain ⟨z2, h⟩ := gd_some h
      obtain ⟨rfl, rfl⟩ := some2 h
      exact x_zret C0 hP hS z2 dX10_reaches_67
    · rw [if_neg c1] at h
      refine lv_iload hx hb dX10_reaches_17 (lv_at hl 5 rfl) ?_
      refine lv_iload hx hb dX10_reaches_19 (lv_at hl 4 rfl) ?_
      refine lv_iload hx hb dX10_reaches_21 (lv_at hl 6 rfl) ?_
      refine lv_ishr hx hb dX10_reaches_23 ?_
      refine lv_iconst (v := (1 : Int32)) hx hb dX10_reaches_24 rfl ?_
      refine lv_iand hx hb dX10_reaches_25 ?_
      refine lv_iconst (v := (1 : Int32)) hx hb dX10_reaches_26 rfl ?_
      refine lv_icmp_ne (tgt := 55) hx hb dX10_reaches_27 (by decide) (fun c3 => ?_) (fun c3 => ?_)
      · rw [if_neg c3] at h
        exact w_X10_reaches_55 C0 (X10_reaches_6  n) ih x1 x2 x3 x4 x6 x5 μ _ _ _ hP hS (lv_sub hl [0, 1, 2, 3, 4, 6] rfl) h
      · rw [if_pos c3] at h
        refine lv_aload_n hx hb dX10_reaches_30 rfl (lv_at hl 0 rfl) ?_
        refine lv_iload hx hb dX10_reaches_31 (lv_at hl 6 rfl) ?_
        refine lv_iload_n hx hb dX10_reaches_33 rfl (lv_at hl 3 rfl) ?_
        obtain ⟨r4, μ4, h1, h⟩ := ob2_some h
        refine x_callV C0 (rest := [.int x5]) (q := (RX10, TX10, 22)) (c_X10_isOpen l g x6 x3 μ h1) q5_96 q5_93 q5_95 r3_9 q1_11 hd_X10_isOpen ⟨rfl, rfl⟩ ⟨Nat.le_of_ble_eq_true rfl, Nat.le_of_ble_eq_true rfl⟩ cm_0 (by decide) rfl hP hS hl.1 rfl rfl (Nat.le_of_ble_eq_true rfl) dX10_reaches_34 (fun H locs hP hS => ?_)
        refine W.eq (g2 := F0 m 37 ls [.int r4, .int x5]) rfl ?_
        refine lv_if_eq (tgt := 55) hx hb dX10_reaches_37 (by decide) (fun c5 => ?_) (fun c5 => ?_)
        · rw [if_pos c5] at h
          exact w_X10_reaches_55 C0 (X10_reaches_6  n) ih x1 x2 x3 x4 x6 x5 μ4 _ _ _ hP hS (lv_sub hl [0, 1, 2, 3, 4, 6] rfl) h
        · rw [if_neg c5] at h
          refine lv_aload_n hx hb dX10_reaches_40 rfl (lv_at hl 0 rfl) ?_
          refine lv_iload_n hx hb dX10_reaches_41 rfl (lv_at hl 1 rfl) ?_
          refine lv_iload hx hb dX10_reaches_42 (lv_at hl 6 rfl) ?_
          obtain ⟨r6, μ6, h1, h⟩ := ob2_some h
          refine x_callV C0 (rest := [.int x5]) (q := (RX10, TX10, 22)) (c_X10_farOf l g x1 x6 μ4 h1) q5_100 q5_97 q5_99 r3_10 q1_11 hd_X10_farOf ⟨rfl, rfl⟩ ⟨Nat.le_of_ble_eq_true rfl, Nat.le_of_ble_eq_true rfl⟩ cm_0 (by decide) rfl hP hS hl.1 rfl rfl (Nat.le_of_ble_eq_true rfl) dX10_reaches_44 (fun H locs hP hS => ?_)
          refine W.eq (g2 := F0 m 47 ls [.int r6, .int x5]) rfl ?_
          refine lv_iload_n hx hb dX10_reaches_47 rfl (lv_at hl 2 rfl) ?_
          refine lv_icmp_gt (tgt := 55) hx hb dX10_reaches_48 (by decide) (fun c7 => ?_) (fun c7 => ?_)
          · rw [if_pos c7] at h
            exact w_X10_reaches_55 C0 (X10_reaches_6  n) ih x1 x2 x3 x4 x6 x5 μ6 _ _ _ hP hS (lv_sub hl [0, 1, 2, 3, 4, 6] rfl) h
          · rw [if_neg c7] at h
            refine lv_iconst (v := (1 : Int32)) hx hb dX10_reaches_51 rfl ?_
            refine lv_goto (tgt := 56) hx hb dX10_reaches_52 (by decide) ?_
            exact w_X10_reaches_56 C0 (X10_reaches_6  n) ih x1 x2 x3 x4 x6 x5 (1 : Int32) μ6 _ _ _ hP hS (lv_sub hl [0, 1, 2, 3, 4, 6] rfl) h
def X10_reaches (x1 : Int32) (x2 : Int32) (x3 : Int32) (x4 : Int32) (μ : Mem) : Option (Int32 × Mem) :=
  X10_reaches_6 FU x1 x2 x3 x4 (0 : Int32) (0 : Int32) μ
set_option maxRecDepth 100000 in
set_option maxHeartbeats 4000000 in
theorem c_X10_reaches (l : Launch) (g : Gx) (x1 : Int32) (x2 : Int32) (x3 : Int32) (x4 : Int32) (μ : Mem) {r : Int32} {ν : Mem} (h : X10_reaches x1 x2 x3 x4 μ = some (r, ν)) : Ct Lm g l yX10_reaches cX10_reaches 7 (some .boolean) { frames := 2, cells := 0, slots := 0, locals := 46 } [.ref (g.2.2.1 + 0), .int x1, .int x2, .int x3, .int x4] μ (some (.int r)) ν := by
  refine x_met (lv := [(0, .ref (g.2.2.1 + 0)), (1, .int x1), (2, .int x2), (3, .int x3), (4, .int x4)]) rfl (Nat.le_of_ble_eq_true rfl) rfl ?_
  intro p e s m below meth c C0 hP ls hl
  generalize ([.ref (g.2.2.1 + 0), .int x1, .int x2, .int x3, .int x4] : List Value).toArray = args at C0 ⊢
  have C0 : Cx Lm g p s m args meth c cX10_reaches 7 (some .boolean) RX10 := C0
  have hS : va_S (Ax Lm g) s.heap s.heap [] := va_S.rf
  obtain ⟨hx, hb, hr, hml, hown, hts, hlocks, hK⟩ := id C0
  unfold X10_reaches at h
  skip
  refine lv_iconst (v := (0 : Int32)) hx hb dX10_reaches_0 rfl ?_
  refine lv_istore (lv' := [(5, .int (0 : Int32)), (0, .ref (g.2.2.1 + 0)), (1, .int x1), (2, .int x2), (3, .int x3), (4, .int x4)]) hx hb dX10_reaches_1 hl (by decide) rfl (fun ls hl => ?_)
  refine lv_iconst (v := (0 : Int32)) hx hb dX10_reaches_3 rfl ?_
  refine lv_istore (lv' := [(6, .int (0 : Int32)), (5, .int (0 : Int32)), (0, .ref (g.2.2.1 + 0)), (1, .int x1), (2, .int x2), (3, .int x3), (4, .int x4)]) hx hb dX10_reaches_4 hl (by decide) rfl (fun ls hl => ?_)
  exact w_X10_reaches_6 C0  FU x1 x2 x3 x4 (0 : Int32) (0 : Int32) μ _ _ _ hP hS (lv_sub hl [2, 3, 4, 5, 6, 1, 0] rfl) h
def X10_lacks_39 (K6 : Int32 → Int32 → Int32 → Int32 → Int32 → Mem → Option (Int32 × Mem)) (x1 : Int32) (x2 : Int32) (x3 : Int32) (x5 : Int32) (t0 : Int32) (t1 : Int32) (μ : Mem) : Option (Int32 × Mem) :=
  K6 x1 x2 x3 (t0 ||| t1) (x5 + (1 : Int32)) μ
set_option maxRecDepth 100000 in
set_option maxHeartbeats 4000000 in
theorem w_X10_lacks_39 {g : Gx} {p : Program} {l : Launch} {e : Env} {s : State} {m : MethodId} {args : Array Value} {below : List Frame} {meth : Method} {c : Code} (C0 : Cx Lm g p s m args meth c cX10_lacks 6 (some .int) RX10) {r : Int32} {ν : Mem} (K6 : Int32 → Int32 → Int32 → Int32 → Int32 → Mem → Option (Int32 × Mem)) (hK6 : ∀ (x1 : Int32) (x2 : Int32) (x3 : Int32) (x4 : Int32) (x5 : Int32) (μ : Mem) (H : Heap) (locs : List Loc) (ls : Array Slot), Px Lm g μ H → va_S (Ax Lm g) s.heap H locs → lv_has ls 6 [(0, .ref (g.2.2.1 + 0)), (1, .int x1), (2, .int x2), (3, .int x3), (4, .int x4), (5, .int x5)] → K6 x1 x2 x3 x4 x5 μ = some (r, ν) → W p l e { frames := 3, cells := 0, slots := 0, locals := 72 } s m args below meth c H locs 0 0 (MQ below (Qx Lm g (some (.int r)) ν) args s 0 0 (Ax Lm g)) (F0 m 6 ls [])) (x1 : Int32) (x2 : Int32) (x3 : Int32) (x5 : Int32) (t0 : Int32) (t1 : Int32) (μ : Mem) (H : Heap) (locs : List Loc) (ls : Array Slot) (hP : Px Lm g μ H) (hS : va_S (Ax Lm g) s.heap H locs) (hl : lv_has ls 6 [(0, .ref (g.2.2.1 + 0)), (1, .int x1), (2, .int x2), (3, .int x3), (5, .int x5)]) (h : X10_lacks_39 K6 x1 x2 x3 x5 t0 t1 μ = some (r, ν)) : W p l e { frames := 3, cells := 0, slots := 0, locals := 72 } s m args below meth c H locs 0 0 (MQ below (Qx Lm g (some (.int r)) ν) args s 0 0 (Ax Lm g)) (F0 m 39 ls [.int t1, .int t0]) := by
  obtain ⟨hx, hb, hr, hml, hown, hts, hlocks, hK⟩ := id C0
  unfold X10_lacks_39 at h
  refine lv_ior hx hb dX10_lacks_39 ?_
  refine lv_istore (lv' := [(4, .int (t0 ||| t1)), (0, .ref (g.2.2.1 + 0)), (1, .int x1), (2, .int x2), (3, .int x3), (5, .int x5)]) hx hb dX10_lacks_40 hl (by decide) rfl (fun ls hl => ?_)
  refine lv_iinc (v := (x5 + (1 : Int32))) (lv' := [(5, .int (x5 + (1 : Int32))), (4, .int (t0 ||| t1)), (0, .ref (g.2.2.1 + 0)), (1, .int x1), (2, .int x2), (3, .int x3)]) hx hb dX10_lacks_42 hl (k := 5) rfl rfl (by decide) rfl (fun ls hl => ?_)
  refine lv_goto (tgt := 6) hx hb dX10_lacks_45 (by decide) ?_
  exact hK6 x1 x2 x3 (t0 ||| t1) (x5 + (1 : Int32)) μ _ _ _ hP hS (lv_sub hl [2, 3, 4, 5, 1, 0] rfl) h
def X10_lacks_6  : Nat → Int32 → Int32 → Int32 → Int32 → Int32 → Mem → Option (Int32 × Mem)
  | 0, _, _, _, _, _, _ => none
  | n + 1, x1, x2, x3, x4, x5, μ => (if (μ 1 1) ≤ x5 then some (x4, μ) else ob2 (X10_reaches x5 x1 x2 x3 μ) fun r2 μ2 => (if r2 = (0 : Int32) then X10_lacks_39 (X10_lacks_6 n) x1 x2 x3 x5 x4 ((1 : Int32) <<< (x5 &&& 31)) μ2 else X10_lacks_39 (X10_lacks_6 n) x1 x2 x3 x5 x4 (0 : Int32) μ2))
set_option maxRecDepth 100000 in
set_option maxHeartbeats 4000000 in
theorem w_X10_lacks_6 {g : Gx} {p : Program} {l : Launch} {e : Env} {s : State} {m : MethodId} {args : Array Value} {below : List Frame} {meth : Method} {c : Code} (C0 : Cx Lm g p s m args meth c cX10_lacks 6 (some .int) RX10) {r : Int32} {ν : Mem}  (n : Nat) : ∀ (x1 : Int32) (x2 : Int32) (x3 : Int32) (x4 : Int32) (x5 : Int32) (μ : Mem) (H : Heap) (locs : List Loc) (ls : Array Slot), Px Lm g μ H → va_S (Ax Lm g) s.heap H locs → lv_has ls 6 [(0, .ref (g.2.2.1 + 0)), (1, .int x1), (2, .int x2), (3, .int x3), (4, .int x4), (5, .int x5)] → X10_lacks_6  n x1 x2 x3 x4 x5 μ = some (r, ν) → W p l e { frames := 3, cells := 0, slots := 0, locals := 72 } s m args below meth c H locs 0 0 (MQ below (Qx Lm g (some (.int r)) ν) args s 0 0 (Ax Lm g)) (F0 m 6 ls []) := by
  obtain ⟨hx, hb, hr, hml, hown, hts, hlocks, hK⟩ := id C0
  induction n with
  | zero =>
    intro x1 x2 x3 x4 x5 μ H locs ls hP hS hl h
    have h : (none : Option (Int32 × Mem)) = some (r, ν) := h
    cases h
  | succ n ih =>
    intro x1 x2 x3 x4 x5 μ H locs ls hP hS hl h
    rw [X10_lacks_6.eq_2] at h
    refine lv_iload hx hb dX10_lacks_6 (lv_at hl 5 rfl) ?_
    refine lv_aload_n hx hb dX10_lacks_8 rfl (lv_at hl 0 rfl) ?_
    refine x_get C0 hP inu10 (k := 0) cm_0 (by decide) rfl 0 (by decide) q4_134 rfl (v := .ref (g.2.2.1 + 1)) rfl dX10_lacks_9 ?_
    refine lv_iconst (v := (1 : Int32)) hx hb dX10_lacks_12 rfl ?_
    refine x_iald C0 hP (k := 1) cm_1 (j := 1) (by decide) rfl dX10_lacks_13 ?_
    refine lv_icmp_ge (tgt := 48) hx hb dX10_lacks_14 (by decide) (fun c1 => ?_) (fun c1 => ?_)
    · rw [if_pos c1] at h
      refine lv_iload hx hb dX10_lacks_48 (lv_at hl 4 rfl) ?_
      obtain ⟨rfl, rfl⟩ := some2 h
      exact x_iret C0 hP hS dX10_lacks_50
    · rw [if_neg c1] at h
      refine lv_iload hx hb dX10_lacks_17 (lv_at hl 4 rfl) ?_
      refine lv_aload_n hx hb dX10_lacks_19 rfl (lv_at hl 0 rfl) ?_
      refine lv_iload hx hb dX10_lacks_20 (lv_at hl 5 rfl) ?_
      refine lv_iload_n hx hb dX10_lacks_22 rfl (lv_at hl 1 rfl) ?_
      refine lv_iload_n hx hb dX10_lacks_23 rfl (lv_at hl 2 rfl) ?_
      refine lv_iload_n hx hb dX10_lacks_24 rfl (lv_at hl 3 rfl) ?_
      obtain ⟨r2, μ2, h1, h⟩ := ob2_some h
      refine x_callV C0 (rest := [.int x4]) (q := (RX10, TX10, 22)) (c_X10_reaches l g x5 x1 x2 x3 μ h1) q5_199 q5_196 q5_198 r4_4 q1_11 hd_X10_reaches ⟨rfl, rfl⟩ ⟨Nat.le_of_ble_eq_true rfl, Nat.le_of_ble_eq_true rfl⟩ cm_0 (by decide) rfl hP hS hl.1 rfl rfl (Nat.le_of_ble_eq_true rfl) dX10_lacks_25 (fun H locs hP hS => ?_)
      refine W.eq (g2 := F0 m 28 ls [.int r2, .int x4]) rfl ?_
      refine lv_if_eq (tgt := 35) hx hb dX10_lacks_28 (by decide) (fun c3 => ?_) (fun c3 => ?_)
      · rw [if_pos c3] at h
        refine lv_iconst (v := (1 : Int32)) hx hb dX10_lacks_35 rfl ?_
        refine lv_iload hx hb dX10_lacks_36 (lv_at hl 5 rfl) ?_
        refine lv_ishl hx hb dX10_lacks_38 ?_
        exact w_X10_lacks_39 C0 (X10_lacks_6  n) ih x1 x2 x3 x5 x4 ((1 : Int32) <<< (x5 &&& 31)) μ2 _ _ _ hP hS (lv_sub hl [0, 1, 2, 3, 5] rfl) h
      · rw [if_neg c3] at h
        refine lv_iconst (v := (0 : Int32)) hx hb dX10_lacks_31 rfl ?_
        refine lv_goto (tgt := 39) hx hb dX10_lacks_32 (by decide) ?_
        exact w_X10_lacks_39 C0 (X10_lacks_6  n) ih x1 x2 x3 x5 x4 (0 : Int32) μ2 _ _ _ hP hS (lv_sub hl [0, 1, 2, 3, 5] rfl) h
def X10_lacks (x1 : Int32) (x2 : Int32) (x3 : Int32) (μ : Mem) : Option (Int32 × Mem) :=
  X10_lacks_6 FU x1 x2 x3 (0 : Int32) (0 : Int32) μ
set_option maxRecDepth 100000 in
set_option maxHeartbeats 4000000 in
theorem c_X10_lacks (l : Launch) (g : Gx) (x1 : Int32) (x2 : Int32) (x3 : Int32) (μ : Mem) {r : Int32} {ν : Mem} (h : X10_lacks x1 x2 x3 μ = some (r, ν)) : Ct Lm g l yX10_lacks cX10_lacks 6 (some .int) { frames := 3, cells := 0, slots := 0, locals := 72 } [.ref (g.2.2.1 + 0), .int x1, .int x2, .int x3] μ (some (.int r)) ν := by
  refine x_met (lv := [(0, .ref (g.2.2.1 + 0)), (1, .int x1), (2, .int x2), (3, .int x3)]) rfl (Nat.le_of_ble_eq_true rfl) rfl ?_
  intro p e s m below meth c C0 hP ls hl
  generalize ([.ref (g.2.2.1 + 0), .int x1, .int x2, .int x3] : List Value).toArray = args at C0 ⊢
  have C0 : Cx Lm g p s m args meth c cX10_lacks 6 (some .int) RX10 := C0
  have hS : va_S (Ax Lm g) s.heap s.heap [] := va_S.rf
  obtain ⟨hx, hb, hr, hml, hown, hts, hlocks, hK⟩ := id C0
  unfold X10_lacks at h
  skip
  refine lv_iconst (v := (0 : Int32)) hx hb dX10_lacks_0 rfl ?_
  refine lv_istore (lv' := [(4, .int (0 : Int32)), (0, .ref (g.2.2.1 + 0)), (1, .int x1), (2, .int x2), (3, .int x3)]) hx hb dX10_lacks_1 hl (by decide) rfl (fun ls hl => ?_)
  refine lv_iconst (v := (0 : Int32)) hx hb dX10_lacks_3 rfl ?_
  refine lv_istore (lv' := [(5, .int (0 : Int32)), (4, .int (0 : Int32)), (0, .ref (g.2.2.1 + 0)), (1, .int x1), (2, .int x2), (3, .int x3)]) hx hb dX10_lacks_4 hl (by decide) rfl (fun ls hl => ?_)
  exact w_X10_lacks_6 C0  FU x1 x2 x3 (0 : Int32) (0 : Int32) μ _ _ _ hP hS (lv_sub hl [2, 3, 4, 5, 1, 0] rfl) h
def X10_ones_4  : Nat → Int32 → Int32 → Int32 → Mem → Option (Int32 × Mem)
  | 0, _, _, _, _ => none
  | n + 1, x0, x1, x2, μ => (if (10 : Int32) ≤ x2 then some (x1, μ) else (X10_ones_4 n) x0 (x1 + ((x0 >>> (x2 &&& 31)) &&& (1 : Int32))) (x2 + (1 : Int32)) μ)
set_option maxRecDepth 100000 in
set_option maxHeartbeats 4000000 in
theorem w_X10_ones_4 {g : Gx} {p : Program} {l : Launch} {e : Env} {s : State} {m : MethodId} {args : Array Value} {below : List Frame} {meth : Method} {c : Code} (C0 : Cx Lm g p s m args meth c cX10_ones 3 (some .int) RX10) {r : Int32} {ν : Mem}  (n : Nat) : ∀ (x0 : Int32) (x1 : Int32) (x2 : Int32) (μ : Mem) (H : Heap) (locs : List Loc) (ls : Array Slot), Px Lm g μ H → va_S (Ax Lm g) s.heap H locs → lv_has ls 3 [(0, .int x0), (1, .int x1), (2, .int x2)] → X10_ones_4  n x0 x1 x2 μ = some (r, ν) → W p l e { frames := 0, cells := 0, slots := 0, locals := 0 } s m args below meth c H locs 0 0 (MQ below (Qx Lm g (some (.int r)) ν) args s 0 0 (Ax Lm g)) (F0 m 4 ls []) := by
  obtain ⟨hx, hb, hr, hml, hown, hts, hlocks, hK⟩ := id C0
  induction n with
  | zero =>
    intro x0 x1 x2 μ H locs ls hP hS hl h
    have h : (none : Option (Int32 × Mem)) = some (r, ν) := h
    cases h
  | succ n ih =>
    intro x0 x1 x2 μ H locs ls hP hS hl h
    rw [X10_ones_4.eq_2] at h
    refine lv_iload_n hx hb dX10_ones_4 rfl (lv_at hl 2 rfl) ?_
    refine lv_bipush (v := (10 : Int32)) hx hb dX10_ones_5 (by decide +kernel) ?_
    refine lv_icmp_ge (tgt := 24) hx hb dX10_ones_7 (by decide) (fun c1 => ?_) (fun c1 => ?_)
    · rw [if_pos c1] at h
      refine lv_iload_n hx hb dX10_ones_24 rfl (lv_at hl 1 rfl) ?_
      obtain ⟨rfl, rfl⟩ := some2 h
      exact x_iret C0 hP hS dX10_ones_25
    · rw [if_neg c1] at h
      refine lv_iload_n hx hb dX10_ones_10 rfl (lv_at hl 1 rfl) ?_
      refine lv_iload_n hx hb dX10_ones_11 rfl (lv_at hl 0 rfl) ?_
      refine lv_iload_n hx hb dX10_ones_12 rfl (lv_at hl 2 rfl) ?_
      refine lv_ishr hx hb dX10_ones_13 ?_
      refine lv_iconst (v := (1 : Int32)) hx hb dX10_ones_14 rfl ?_
      refine lv_iand hx hb dX10_ones_15 ?_
      refine lv_iadd hx hb dX10_ones_16 ?_
      refine lv_istore_n (lv' := [(1, .int (x1 + ((x0 >>> (x2 &&& 31)) &&& (1 : Int32)))), (0, .int x0), (2, .int x2)]) hx hb dX10_ones_17 rfl hl (by decide) rfl (fun ls hl => ?_)
      refine lv_iinc (v := (x2 + (1 : Int32))) (lv' := [(2, .int (x2 + (1 : Int32))), (1, .int (x1 + ((x0 >>> (x2 &&& 31)) &&& (1 : Int32)))), (0, .int x0)]) hx hb dX10_ones_18 hl (k := 2) rfl rfl (by decide) rfl (fun ls hl => ?_)
      refine lv_goto (tgt := 4) hx hb dX10_ones_21 (by decide) ?_
      exact ih x0 (x1 + ((x0 >>> (x2 &&& 31)) &&& (1 : Int32))) (x2 + (1 : Int32)) μ _ _ _ hP hS (lv_sub hl [2, 1, 0] rfl) h
def X10_ones (x0 : Int32) (μ : Mem) : Option (Int32 × Mem) :=
  X10_ones_4 FU x0 (0 : Int32) (0 : Int32) μ
set_option maxRecDepth 100000 in
set_option maxHeartbeats 4000000 in
theorem c_X10_ones (l : Launch) (g : Gx) (x0 : Int32) (μ : Mem) {r : Int32} {ν : Mem} (h : X10_ones x0 μ = some (r, ν)) : Ct Lm g l yX10_ones cX10_ones 3 (some .int) { frames := 0, cells := 0, slots := 0, locals := 0 } [.int x0] μ (some (.int r)) ν := by
  refine x_met (lv := [(0, .int x0)]) rfl (Nat.le_of_ble_eq_true rfl) rfl ?_
  intro p e s m below meth c C0 hP ls hl
  generalize ([.int x0] : List Value).toArray = args at C0 ⊢
  have C0 : Cx Lm g p s m args meth c cX10_ones 3 (some .int) RX10 := C0
  have hS : va_S (Ax Lm g) s.heap s.heap [] := va_S.rf
  obtain ⟨hx, hb, hr, hml, hown, hts, hlocks, hK⟩ := id C0
  unfold X10_ones at h
  skip
  refine lv_iconst (v := (0 : Int32)) hx hb dX10_ones_0 rfl ?_
  refine lv_istore_n (lv' := [(1, .int (0 : Int32)), (0, .int x0)]) hx hb dX10_ones_1 rfl hl (by decide) rfl (fun ls hl => ?_)
  refine lv_iconst (v := (0 : Int32)) hx hb dX10_ones_2 rfl ?_
  refine lv_istore_n (lv' := [(2, .int (0 : Int32)), (1, .int (0 : Int32)), (0, .int x0)]) hx hb dX10_ones_3 rfl hl (by decide) rfl (fun ls hl => ?_)
  exact w_X10_ones_4 C0  FU x0 (0 : Int32) (0 : Int32) μ _ _ _ hP hS (lv_sub hl [2, 1, 0] rfl) h
def X10_fewest_20   (μ : Mem) : Option (Int32 × Mem) :=
  ob2 (X10_finding (1 : Int32) μ) fun r3 μ3 => some (r3, μ3)
set_option maxRecDepth 100000 in
set_option maxHeartbeats 4000000 in
theorem w_X10_fewest_20 {g : Gx} {p : Program} {l : Launch} {e : Env} {s : State} {m : MethodId} {args : Array Value} {below : List Frame} {meth : Method} {c : Code} (C0 : Cx Lm g p s m args meth c cX10_fewest 6 (some .int) RX10) {r : Int32} {ν : Mem}   (μ : Mem) (H : Heap) (locs : List Loc) (ls : Array Slot) (hP : Px Lm g μ H) (hS : va_S (Ax Lm g) s.heap H locs) (hl : lv_has ls 6 [(0, .ref (g.2.2.1 + 0))]) (h : X10_fewest_20   μ = some (r, ν)) : W p l e { frames := 4, cells := 0, slots := 0, locals := 97 } s m args below meth c H locs 0 0 (MQ below (Qx Lm g (some (.int r)) ν) args s 0 0 (Ax Lm g)) (F0 m 20 ls []) := by
  obtain ⟨hx, hb, hr, hml, hown, hts, hlocks, hK⟩ := id C0
  unfold X10_fewest_20 at h
  refine lv_aload_n hx hb dX10_fewest_20 rfl (lv_at hl 0 rfl) ?_
  refine lv_iconst (v := (1 : Int32)) hx hb dX10_fewest_21 rfl ?_
  obtain ⟨r3, μ3, h1, h⟩ := ob2_some h
  refine x_callV C0 (rest := []) (q := (RX10, TX10, 22)) (c_X10_finding l g (1 : Int32) μ h1) q4_214 q4_211 q4_213 r2_5 q1_11 hd_X10_finding ⟨rfl, rfl⟩ ⟨Nat.le_of_ble_eq_true rfl, Nat.le_of_ble_eq_true rfl⟩ cm_0 (by decide) rfl hP hS hl.1 rfl rfl (Nat.le_of_ble_eq_true rfl) dX10_fewest_22 (fun H locs hP hS => ?_)
  refine W.eq (g2 := F0 m 25 ls [.int r3]) rfl ?_
  obtain ⟨rfl, rfl⟩ := some2 h
  exact x_iret C0 hP hS dX10_fewest_25
def X10_fewest_84 (K44 : Int32 → Int32 → Int32 → Int32 → Int32 → Mem → Option (Int32 × Mem)) (x1 : Int32) (x2 : Int32) (x3 : Int32) (x5 : Int32) (t0 : Int32) (μ : Mem) : Option (Int32 × Mem) :=
  K44 x1 x2 x3 t0 (x5 + (1 : Int32)) μ
set_option maxRecDepth 100000 in
set_option maxHeartbeats 4000000 in
theorem w_X10_fewest_84 {g : Gx} {p : Program} {l : Launch} {e : Env} {s : State} {m : MethodId} {args : Array Value} {below : List Frame} {meth : Method} {c : Code} (C0 : Cx Lm g p s m args meth c cX10_fewest 6 (some .int) RX10) {r : Int32} {ν : Mem} (K44 : Int32 → Int32 → Int32 → Int32 → Int32 → Mem → Option (Int32 × Mem)) (hK44 : ∀ (x1 : Int32) (x2 : Int32) (x3 : Int32) (x4 : Int32) (x5 : Int32) (μ : Mem) (H : Heap) (locs : List Loc) (ls : Array Slot), Px Lm g μ H → va_S (Ax Lm g) s.heap H locs → lv_has ls 6 [(0, .ref (g.2.2.1 + 0)), (1, .int x1), (2, .int x2), (3, .int x3), (4, .int x4), (5, .int x5)] → K44 x1 x2 x3 x4 x5 μ = some (r, ν) → W p l e { frames := 4, cells := 0, slots := 0, locals := 97 } s m args below meth c H locs 0 0 (MQ below (Qx Lm g (some (.int r)) ν) args s 0 0 (Ax Lm g)) (F0 m 44 ls [])) (x1 : Int32) (x2 : Int32) (x3 : Int32) (x5 : Int32) (t0 : Int32) (μ : Mem) (H : Heap) (locs : List Loc) (ls : Array Slot) (hP : Px Lm g μ H) (hS : va_S (Ax Lm g) s.heap H locs) (hl : lv_has ls 6 [(0, .ref (g.2.2.1 + 0)), (1, .int x1), (2, .int x2), (3, .int x3), (5, .int x5)]) (h : X10_fewest_84 K44 x1 x2 x3 x5 t0 μ = some (r, ν)) : W p l e { frames := 4, cells := 0, slots := 0, locals := 97 } s m args below meth c H locs 0 0 (MQ below (Qx Lm g (some (.int r)) ν) args s 0 0 (Ax Lm g)) (F0 m 84 ls [.int t0]) := by
  obtain ⟨hx, hb, hr, hml, hown, hts, hlocks, hK⟩ := id C0
  unfold X10_fewest_84 at h
  refine lv_istore (lv' := [(4, .int t0), (0, .ref (g.2.2.1 + 0)), (1, .int x1), (2, .int x2), (3, .int x3), (5, .int x5)]) hx hb dX10_fewest_84 hl (by decide) rfl (fun ls hl => ?_)
  refine lv_iinc (v := (x5 + (1 : Int32))) (lv' := [(5, .int (x5 + (1 : Int32))), (4, .int t0), (0, .ref (g.2.2.1 + 0)), (1, .int x1), (2, .int x2), (3, .int x3)]) hx hb dX10_fewest_86 hl (k := 5) rfl rfl (by decide) rfl (fun ls hl => ?_)
  refine lv_goto (tgt := 44) hx hb dX10_fewest_89 (by decide) ?_
  exact hK44 x1 x2 x3 t0 (x5 + (1 : Int32)) μ _ _ _ hP hS (lv_sub hl [2, 3, 4, 5, 1, 0] rfl) h
def X10_fewest_82 (K44 : Int32 → Int32 → Int32 → Int32 → Int32 → Mem → Option (Int32 × Mem)) (x1 : Int32) (x2 : Int32) (x3 : Int32) (x4 : Int32) (x5 : Int32) (μ : Mem) : Option (Int32 × Mem) :=
  X10_fewest_84 K44 x1 x2 x3 x5 x4 μ
set_option maxRecDepth 100000 in
set_option maxHeartbeats 4000000 in
theorem w_X10_fewest_82 {g : Gx} {p : Program} {l : Launch} {e : Env} {s : State} {m : MethodId} {args : Array Value} {below : List Frame} {meth : Method} {c : Code} (C0 : Cx Lm g p s m args meth c cX10_fewest 6 (some .int) RX10) {r : Int32} {ν : Mem} (K44 : Int32 → Int32 → Int32 → Int32 → Int32 → Mem → Option (Int32 × Mem)) (hK44 : ∀ (x1 : Int32) (x2 : Int32) (x3 : Int32) (x4 : Int32) (x5 : Int32) (μ : Mem) (H : Heap) (locs : List Loc) (ls : Array Slot), Px Lm g μ H → va_S (Ax Lm g) s.heap H locs → lv_has ls 6 [(0, .ref (g.2.2.1 + 0)), (1, .int x1), (2, .int x2), (3, .int x3), (4, .int x4), (5, .int x5)] → K44 x1 x2 x3 x4 x5 μ = some (r, ν) → W p l e { frames := 4, cells := 0, slots := 0, locals := 97 } s m args below meth c H locs 0 0 (MQ below (Qx Lm g (some (.int r)) ν) args s 0 0 (Ax Lm g)) (F0 m 44 ls [])) (x1 : Int32) (x2 : Int32) (x3 : Int32) (x4 : Int32) (x5 : Int32) (μ : Mem) (H : Heap) (locs : List Loc) (ls : Array Slot) (hP : Px Lm g μ H) (hS : va_S (Ax Lm g) s.heap H locs) (hl : lv_has ls 6 [(0, .ref (g.2.2.1 + 0)), (1, .int x1), (2, .int x2), (3, .int x3), (4, .int x4), (5, .int x5)]) (h : X10_fewest_82 K44 x1 x2 x3 x4 x5 μ = some (r, ν)) : W p l e { frames := 4, cells := 0, slots := 0, locals := 97 } s m args below meth c H locs 0 0 (MQ below (Qx Lm g (some (.int r)) ν) args s 0 0 (Ax Lm g)) (F0 m 82 ls []) := by
  obtain ⟨hx, hb, hr, hml, hown, hts, hlocks, hK⟩ := id C0
  unfold X10_fewest_82 at h
  refine lv_iload hx hb dX10_fewest_82 (lv_at hl 4 rfl) ?_
  exact w_X10_fewest_84 C0 K44 hK44 x1 x2 x3 x5 x4 μ _ _ _ hP hS (lv_sub hl [0, 1, 2, 3, 5] rfl) h
def X10_fewest_44  : Nat → Int32 → Int32 → Int32 → Int32 → Int32 → Mem → Option (Int32 × Mem)
  | 0, _, _, _, _, _, _ => none
  | n + 1, x1, x2, x3, x4, x5, μ => (if (256 : Int32) ≤ x5 then some (x4, μ) else ob2 (X10_ones x5 μ) fun r8 μ8 => ob2 (X10_ones x4 μ8) fun r9 μ9 => (if r9 ≤ r8 then X10_fewest_82 (X10_fewest_44 n) x1 x2 x3 x4 x5 μ9 else ob2 (X10_lacks x1 x2 x5 μ9) fun r11 μ11 => (if r11 = x3 then X10_fewest_84 (X10_fewest_44 n) x1 x2 x3 x5 x5 μ11 else X10_fewest_82 (X10_fewest_44 n) x1 x2 x3 x4 x5 μ11)))
set_option maxRecDepth 100000 in
set_option maxHeartbeats 4000000 in
theorem w_X10_fewest_44 {g : Gx} {p : Program} {l : Launch} {e : Env} {s : State} {m : MethodId} {args : Array Value} {below : List Frame} {meth : Method} {c : Code} (C0 : Cx Lm g p s m args meth c cX10_fewest 6 (some .int) RX10) {r : Int32} {ν : Mem}  (n : Nat) : ∀ (x1 : Int32) (x2 : Int32) (x3 : Int32) (x4 : Int32) (x5 : Int32) (μ : Mem) (H : Heap) (locs : List Loc) (ls : Array Slot), Px Lm g μ H → va_S (Ax Lm g) s.heap H locs → lv_has ls 6 [(0, .ref (g.2.2.1 + 0)), (1, .int x1), (2, .int x2), (3, .int x3), (4, .int x4), (5, .int x5)] → X10_fewest_44  n x1 x2 x3 x4 x5 μ = some (r, ν) → W p l e { frames := 4, cells := 0, slots := 0, locals := 97 } s m args below meth c H locs 0 0 (MQ below (Qx Lm g (some (.int r)) ν) args s 0 0 (Ax Lm g)) (F0 m 44 ls []) := by
  obtain ⟨hx, hb, hr, hml, hown, hts, hlocks, hK⟩ := id C0
  induction n with
  | zero =>
    intro x1 x2 x3 x4 x5 μ H locs ls hP hS hl h
    have h : (none : Option (Int32 × Mem)) = some (r, ν) := h
    cases h
  | succ n ih =>
    intro x1 x2 x3 x4 x5 μ H locs ls hP hS hl h
    rw [X10_fewest_44.eq_2] at h
    refine lv_iload hx hb dX10_fewest_44 (lv_at hl 5 rfl) ?_
    refine lv_sipush (v := (256 : Int32)) hx hb dX10_fewest_46 (by decide +kernel) ?_
    refine lv_icmp_ge (tgt := 92) hx hb dX10_fewest_49 (by decide) (fun c7 => ?_) (fun c7 => ?_)
    · rw [if_pos c7] at h
      refine lv_iload hx hb dX10_fewest_92 (lv_at hl 4 rfl) ?_
      obtain ⟨rfl, rfl⟩ := some2 h
      exact x_iret C0 hP hS dX10_fewest_94
    · rw [if_neg c7] at h
      refine lv_iload hx hb dX10_fewest_52 (lv_at hl 5 rfl) ?_
      obtain ⟨r8, μ8, h1, h⟩ := ob2_some h
      refine x_callS C0 (rest := []) (c_X10_ones l g x5 μ h1) q5_202 q5_200 q5_201 q1_11 hd_X10_ones ⟨rfl, rfl⟩ ⟨Nat.le_of_ble_eq_true rfl, Nat.le_of_ble_eq_true rfl⟩ hP hS hl.1 rfl rfl (Nat.le_of_ble_eq_true rfl) dX10_fewest_54 (fun H locs hP hS => ?_)
      refine W.eq (g2 := F0 m 57 ls [.int r8]) rfl ?_
      refine lv_iload hx hb dX10_fewest_57 (lv_at hl 4 rfl) ?_
      obtain ⟨r9, μ9, h1, h⟩ := ob2_some h
      refine x_callS C0 (rest := [.int r8]) (c_X10_ones l g x4 μ8 h1) q5_202 q5_200 q5_201 q1_11 hd_X10_ones ⟨rfl, rfl⟩ ⟨Nat.le_of_ble_eq_true rfl, Nat.le_of_ble_eq_true rfl⟩ hP hS hl.1 rfl rfl (Nat.le_of_ble_eq_true rfl) dX10_fewest_59 (fun H locs hP hS => ?_)
      refine W.eq (g2 := F0 m 62 ls [.int r9, .int r8]) rfl ?_
      refine lv_icmp_ge (tgt := 82) hx hb dX10_fewest_62 (by decide) (fun c10 => ?_) (fun c10 => ?_)
      · rw [if_pos c10] at h
        exact w_X10_fewest_82 C0 (X10_fewest_44  n) ih x1 x2 x3 x4 x5 μ9 _ _ _ hP hS (lv_sub hl [0, 1, 2, 3, 4, 5] rfl) h
      · rw [if_neg c10] at h
        refine lv_aload_n hx hb dX10_fewest_65 rfl (lv_at hl 0 rfl) ?_
        refine lv_iload_n hx hb dX10_fewest_66 rfl (lv_at hl 1 rfl) ?_
        refine lv_iload_n hx hb dX10_fewest_67 rfl (lv_at hl 2 rfl) ?_
        refine lv_iload hx hb dX10_fewest_68 (lv_at hl 5 rfl) ?_
        obtain ⟨r11, μ11, h1, h⟩ := ob2_some h
        refine x_callV C0 (rest := []) (q := (RX10, TX10, 22)) (c_X10_lacks l g x1 x2 x5 μ9 h1) q5_195 q5_192 q5_194 r4_3 q1_11 hd_X10_lacks ⟨rfl, rfl⟩ ⟨Nat.le_of_ble_eq_true rfl, Nat.le_of_ble_eq_true rfl⟩ cm_0 (by decide) rfl hP hS hl.1 rfl rfl (Nat.le_of_ble_eq_true rfl) dX10_fewest_70 (fun H locs hP hS => ?_)
        refine W.eq (g2 := F0 m 73 ls [.int r11]) rfl ?_
        refine lv_iload_n hx hb dX10_fewest_73 rfl (lv_at hl 3 rfl) ?_
        refine lv_icmp_ne (tgt := 82) hx hb dX10_fewest_74 (by decide) (fun c12 => ?_) (fun c12 => ?_)
        · rw [if_neg c12] at h
          exact w_X10_fewest_82 C0 (X10_fewest_44  n) ih x1 x2 x3 x4 x5 μ11 _ _ _ hP hS (lv_sub hl [0, 1, 2, 3, 4, 5] rfl) h
        · rw [if_pos c12] at h
          refine lv_iload hx hb dX10_fewest_77 (lv_at hl 5 rfl) ?_
          refine lv_goto (tgt := 84) hx hb dX10_fewest_79 (by decide) ?_
          exact w_X10_fewest_84 C0 (X10_fewest_44  n) ih x1 x2 x3 x5 x5 μ11 _ _ _ hP hS (lv_sub hl [0, 1, 2, 3, 5] rfl) h
def X10_fewest (x1 : Int32) (x2 : Int32) (μ : Mem) : Option (Int32 × Mem) :=
  ob2 (X10_in x1 (0 : Int32) (60 : Int32) μ) fun r1 μ1 => (if r1 = (0 : Int32) then X10_fewest_20 μ1 else ob2 (X10_in x2 (0 : Int32) (23 : Int32) μ1) fun r4 μ4 => (if r4 = (0 : Int32) then X10_fewest_20 μ4 else ob2 (X10_lacks x1 x2 (255 : Int32) μ4) fun r6 μ6 => X10_fewest_44 FU x1 x2 r6 (255 : Int32) (0 : Int32) μ6))
set_option maxRecDepth 100000 in
set_option maxHeartbeats 4000000 in
theorem c_X10_fewest (l : Launch) (g : Gx) (x1 : Int32) (x2 : Int32) (μ : Mem) {r : Int32} {ν : Mem} (h : X10_fewest x1 x2 μ = some (r, ν)) : Ct Lm g l yX10_fewest cX10_fewest 6 (some .int) { frames := 4, cells := 0, slots := 0, locals := 97 } [.ref (g.2.2.1 + 0), .int x1, .int x2] μ (some (.int r)) ν := by
  refine x_met (lv := [(0, .ref (g.2.2.1 + 0)), (1, .int x1), (2, .int x2)]) rfl (Nat.le_of_ble_eq_true rfl) rfl ?_
  intro p e s m below meth c C0 hP ls hl
  generalize ([.ref (g.2.2.1 + 0), .int x1, .int x2] : List Value).toArray = args at C0 ⊢
  have C0 : Cx Lm g p s m args meth c cX10_fewest 6 (some .int) RX10 := C0
  have hS : va_S (Ax Lm g) s.heap s.heap [] := va_S.rf
  obtain ⟨hx, hb, hr, hml, hown, hts, hlocks, hK⟩ := id C0
  unfold X10_fewest at h
  skip
  refine lv_iload_n hx hb dX10_fewest_0 rfl (lv_at hl 1 rfl) ?_
  refine lv_iconst (v := (0 : Int32)) hx hb dX10_fewest_1 rfl ?_
  refine lv_bipush (v := (60 : Int32)) hx hb dX10_fewest_2 (by decide +kernel) ?_
  obtain ⟨r1, μ1, h1, h⟩ := ob2_some h
  refine x_callS C0 (rest := []) (c_X10_in l g x1 (0 : Int32) (60 : Int32) μ h1) q4_207 q4_205 q4_206 q1_11 hd_X10_in ⟨rfl, rfl⟩ ⟨Nat.le_of_ble_eq_true rfl, Nat.le_of_ble_eq_true rfl⟩ hP hS hl.1 rfl rfl (Nat.le_of_ble_eq_true rfl) dX10_fewest_4 (fun H locs hP hS => ?_)
  refine W.eq (g2 := F0 m 7 ls [.int r1]) rfl ?_
  refine lv_if_eq (tgt := 20) hx hb dX10_fewest_7 (by decide) (fun c2 => ?_) (fun c2 => ?_)
  · rw [if_pos c2] at h
    exact w_X10_fewest_20 C0   μ1 _ _ _ hP hS (lv_sub hl [0] rfl) h
  · rw [if_neg c2] at h
    refine lv_iload_n hx hb dX10_fewest_10 rfl (lv_at hl 2 rfl) ?_
    refine lv_iconst (v := (0 : Int32)) hx hb dX10_fewest_11 rfl ?_
    refine lv_bipush (v := (23 : Int32)) hx hb dX10_fewest_12 (by decide +kernel) ?_
    obtain ⟨r4, μ4, h1, h⟩ := ob2_some h
    refine x_callS C0 (rest := []) (c_X10_in l g x2 (0 : Int32) (23 : Int32) μ1 h1) q4_207 q4_205 q4_206 q1_11 hd_X10_in ⟨rfl, rfl⟩ ⟨Nat.le_of_ble_eq_true rfl, Nat.le_of_ble_eq_true rfl⟩ hP hS hl.1 rfl rfl (Nat.le_of_ble_eq_true rfl) dX10_fewest_14 (fun H locs hP hS => ?_)
    refine W.eq (g2 := F0 m 17 ls [.int r4]) rfl ?_
    refine lv_if_ne (tgt := 26) hx hb dX10_fewest_17 (by decide) (fun c5 => ?_) (fun c5 => ?_)
    · rw [if_neg c5] at h
      refine lv_aload_n hx hb dX10_fewest_26 rfl (lv_at hl 0 rfl) ?_
      refine lv_iload_n hx hb dX10_fewest_27 rfl (lv_at hl 1 rfl) ?_
      refine lv_iload_n hx hb dX10_fewest_28 rfl (lv_at hl 2 rfl) ?_
      refine lv_sipush (v := (255 : Int32)) hx hb dX10_fewest_29 (by decide +kernel) ?_
      obtain ⟨r6, μ6, h1, h⟩ := ob2_some h
      refine x_callV C0 (rest := []) (q := (RX10, TX10, 22)) (c_X10_lacks l g x1 x2 (255 : Int32) μ4 h1) q5_195 q5_192 q5_194 r4_3 q1_11 hd_X10_lacks ⟨rfl, rfl⟩ ⟨Nat.le_of_ble_eq_true rfl, Nat.le_of_ble_eq_true rfl⟩ cm_0 (by decide) rfl hP hS hl.1 rfl rfl (Nat.le_of_ble_eq_true rfl) dX10_fewest_32 (fun H locs hP hS => ?_)
      refine W.eq (g2 := F0 m 35 ls [.int r6]) rfl ?_
      refine lv_istore_n (lv' := [(3, .int r6), (0, .ref (g.2.2.1 + 0)), (1, .int x1), (2, .int x2)]) hx hb dX10_fewest_35 rfl hl (by decide) rfl (fun ls hl => ?_)
      refine lv_sipush (v := (255 : Int32)) hx hb dX10_fewest_36 (by decide +kernel) ?_
      refine lv_istore (lv' := [(4, .int (255 : Int32)), (3, .int r6), (0, .ref (g.2.2.1 + 0)), (1, .int x1), (2, .int x2)]) hx hb dX10_fewest_39 hl (by decide) rfl (fun ls hl => ?_)
      refine lv_iconst (v := (0 : Int32)) hx hb dX10_fewest_41 rfl ?_
      refine lv_istore (lv' := [(5, .int (0 : Int32)), (4, .int (255 : Int32)), (3, .int r6), (0, .ref (g.2.2.1 + 0)), (1, .int x1), (2, .int x2)]) hx hb dX10_fewest_42 hl (by decide) rfl (fun ls hl => ?_)
      exact w_X10_fewest_44 C0  FU x1 x2 r6 (255 : Int32) (0 : Int32) μ6 _ _ _ hP hS (lv_sub hl [3, 4, 5, 2, 1, 0] rfl) h
    · rw [if_pos c5] at h
      exact w_X10_fewest_20 C0   μ4 _ _ _ hP hS (lv_sub hl [0] rfl) h
def X10_far_30   (μ : Mem) : Option (Int32 × Mem) :=
  ob2 (X10_finding (1 : Int32) μ) fun r3 μ3 => some (r3, μ3)
set_option maxRecDepth 100000 in
set_option maxHeartbeats 4000000 in
theorem w_X10_far_30 {g : Gx} {p : Program} {l : Launch} {e : Env} {s : State} {m : MethodId} {args : Array Value} {below : List Frame} {meth : Method} {c : Code} (C0 : Cx Lm g p s m args meth c cX10_far 4 (some .int) RX10) {r : Int32} {ν : Mem}   (μ : Mem) (H : Heap) (locs : List Loc) (ls : Array Slot) (hP : Px Lm g μ H) (hS : va_S (Ax Lm g) s.heap H locs) (hl : lv_has ls 4 [(0, .ref (g.2.2.1 + 0))]) (h : X10_far_30   μ = some (r, ν)) : W p l e { frames := 4, cells := 0, slots := 0, locals := 97 } s m args below meth c H locs 0 0 (MQ below (Qx Lm g (some (.int r)) ν) args s 0 0 (Ax Lm g)) (F0 m 30 ls []) := by
  obtain ⟨hx, hb, hr, hml, hown, hts, hlocks, hK⟩ := id C0
  unfold X10_far_30 at h
  refine lv_aload_n hx hb dX10_far_30 rfl (lv_at hl 0 rfl) ?_
  refine lv_iconst (v := (1 : Int32)) hx hb dX10_far_31 rfl ?_
  obtain ⟨r3, μ3, h1, h⟩ := ob2_some h
  refine x_callV C0 (rest := []) (q := (RX10, TX10, 22)) (c_X10_finding l g (1 : Int32) μ h1) q4_214 q4_211 q4_213 r2_5 q1_11 hd_X10_finding ⟨rfl, rfl⟩ ⟨Nat.le_of_ble_eq_true rfl, Nat.le_of_ble_eq_true rfl⟩ cm_0 (by decide) rfl hP hS hl.1 rfl rfl (Nat.le_of_ble_eq_true rfl) dX10_far_32 (fun H locs hP hS => ?_)
  refine W.eq (g2 := F0 m 35 ls [.int r3]) rfl ?_
  obtain ⟨rfl, rfl⟩ := some2 h
  exact x_iret C0 hP hS dX10_far_35
def X10_far (x1 : Int32) (x2 : Int32) (x3 : Int32) (μ : Mem) : Option (Int32 × Mem) :=
  ob2 (X10_in x1 (0 : Int32) (60 : Int32) μ) fun r1 μ1 => (if r1 = (0 : Int32) then X10_far_30 μ1 else ob2 (X10_in x2 (0 : Int32) (23 : Int32) μ1) fun r4 μ4 => (if r4 = (0 : Int32) then X10_far_30 μ4 else ob2 (X10_lacks x1 x2 x3 μ4) fun r6 μ6 => some (r6, μ6)))
set_option maxRecDepth 100000 in
set_option maxHeartbeats 4000000 in
theorem c_X10_far (l : Launch) (g : Gx) (x1 : Int32) (x2 : Int32) (x3 : Int32) (μ : Mem) {r : Int32} {ν : Mem} (h : X10_far x1 x2 x3 μ = some (r, ν)) : Ct Lm g l yX10_far cX10_far 4 (some .int) { frames := 4, cells := 0, slots := 0, locals := 97 } [.ref (g.2.2.1 + 0), .int x1, .int x2, .int x3] μ (some (.int r)) ν := by
  refine x_met (lv := [(0, .ref (g.2.2.1 + 0)), (1, .int x1), (2, .int x2), (3, .int x3)]) rfl (Nat.le_of_ble_eq_true rfl) rfl ?_
  intro p e s m below meth c C0 hP ls hl
  generalize ([.ref (g.2.2.1 + 0), .int x1, .int x2, .int x3] : List Value).toArray = args at C0 ⊢
  have C0 : Cx Lm g p s m args meth c cX10_far 4 (some .int) RX10 := C0
  have hS : va_S (Ax Lm g) s.heap s.heap [] := va_S.rf
  obtain ⟨hx, hb, hr, hml, hown, hts, hlocks, hK⟩ := id C0
  unfold X10_far at h
  skip
  refine lv_iload_n hx hb dX10_far_0 rfl (lv_at hl 1 rfl) ?_
  refine lv_iconst (v := (0 : Int32)) hx hb dX10_far_1 rfl ?_
  refine lv_bipush (v := (60 : Int32)) hx hb dX10_far_2 (by decide +kernel) ?_
  obtain ⟨r1, μ1, h1, h⟩ := ob2_some h
  refine x_callS C0 (rest := []) (c_X10_in l g x1 (0 : Int32) (60 : Int32) μ h1) q4_207 q4_205 q4_206 q1_11 hd_X10_in ⟨rfl, rfl⟩ ⟨Nat.le_of_ble_eq_true rfl, Nat.le_of_ble_eq_true rfl⟩ hP hS hl.1 rfl rfl (Nat.le_of_ble_eq_true rfl) dX10_far_4 (fun H locs hP hS => ?_)
  refine W.eq (g2 := F0 m 7 ls [.int r1]) rfl ?_
  refine lv_if_eq (tgt := 30) hx hb dX10_far_7 (by decide) (fun c2 => ?_) (fun c2 => ?_)
  · rw [if_pos c2] at h
    exact w_X10_far_30 C0   μ1 _ _ _ hP hS (lv_sub hl [0] rfl) h
  · rw [if_neg c2] at h
    refine lv_iload_n hx hb dX10_far_10 rfl (lv_at hl 2 rfl) ?_
    refine lv_iconst (v := (0 : Int32)) hx hb dX10_far_11 rfl ?_
    refine lv_bipush (v := (23 : Int32)) hx hb dX10_far_12 (by decide +kernel) ?_
    obtain ⟨r4, μ4, h1, h⟩ := ob2_some h
    refine x_callS C0 (rest := []) (c_X10_in l g x2 (0 : Int32) (23 : Int32) μ1 h1) q4_207 q4_205 q4_206 q1_11 hd_X10_in ⟨rfl, rfl⟩ ⟨Nat.le_of_ble_eq_true rfl, Nat.le_of_ble_eq_true rfl⟩ hP hS hl.1 rfl rfl (Nat.le_of_ble_eq_true rfl) dX10_far_14 (fun H locs hP hS => ?_)
    refine W.eq (g2 := F0 m 17 ls [.int r4]) rfl ?_
    refine lv_if_eq (tgt := 30) hx hb dX10_far_17 (by decide) (fun c5 => ?_) (fun c5 => ?_)
    · rw [if_pos c5] at h
      exact w_X10_far_30 C0   μ4 _ _ _ hP hS (lv_sub hl [0] rfl) h
    · rw [if_neg c5] at h
      refine lv_aload_n hx hb dX10_far_20 rfl (lv_at hl 0 rfl) ?_
      refine lv_iload_n hx hb dX10_far_21 rfl (lv_at hl 1 rfl) ?_
      refine lv_iload_n hx hb dX10_far_22 rfl (lv_at hl 2 rfl) ?_
      refine lv_iload_n hx hb dX10_far_23 rfl (lv_at hl 3 rfl) ?_
      obtain ⟨r6, μ6, h1, h⟩ := ob2_some h
      refine x_callV C0 (rest := []) (q := (RX10, TX10, 22)) (c_X10_lacks l g x1 x2 x3 μ4 h1) q5_195 q5_192 q5_194 r4_3 q1_11 hd_X10_lacks ⟨rfl, rfl⟩ ⟨Nat.le_of_ble_eq_true rfl, Nat.le_of_ble_eq_true rfl⟩ cm_0 (by decide) rfl hP hS hl.1 rfl rfl (Nat.le_of_ble_eq_true rfl) dX10_far_24 (fun H locs hP hS => ?_)
      refine W.eq (g2 := F0 m 27 ls [.int r6]) rfl ?_
      refine lv_goto (tgt := 35) hx hb dX10_far_27 (by decide) ?_
      obtain ⟨rfl, rfl⟩ := some2 h
      exact x_iret C0 hP hS dX10_far_35
def X10_begins (x1 : Int32) (μ : Mem) : Option Mem :=
  (if (40 : Int32) ≤ (μ 0 14) then some μ else gd (inB (μ 0 14) 40) (lt (st μ 7 (μ 0 14).toNatClampNeg x1) fun μ3 => lt (st μ3 0 14 ((μ3 0 14) + (1 : Int32))) fun μ4 => some μ4))
set_option maxRecDepth 100000 in
set_option maxHeartbeats 4000000 in
theorem c_X10_begins (l : Launch) (g : Gx) (x1 : Int32) (μ : Mem) {ν : Mem} (h : X10_begins x1 μ = some ν) : Ct Lm g l yX10_begins cX10_begins 2 none { frames := 0, cells := 0, slots := 0, locals := 0 } [.ref (g.2.2.1 + 0), .int x1] μ none ν := by
  refine x_met (lv := [(0, .ref (g.2.2.1 + 0)), (1, .int x1)]) rfl (Nat.le_of_ble_eq_true rfl) rfl ?_
  intro p e s m below meth c C0 hP ls hl
  generalize ([.ref (g.2.2.1 + 0), .int x1] : List Value).toArray = args at C0 ⊢
  have C0 : Cx Lm g p s m args meth c cX10_begins 2 none RX10 := C0
  have hS : va_S (Ax Lm g) s.heap s.heap [] := va_S.rf
  obtain ⟨hx, hb, hr, hml, hown, hts, hlocks, hK⟩ := id C0
  unfold X10_begins at h
  skip
  refine lv_aload_n hx hb dX10_begins_0 rfl (lv_at hl 0 rfl) ?_
  refine x_get C0 hP inu10 (k := 0) cm_0 (by decide) rfl 14 (by decide) q4_148 rfl (v := .int (μ 0 14)) rfl dX10_begins_1 ?_
  refine lv_bipush (v := (40 : Int32)) hx hb dX10_begins_4 (by decide +kernel) ?_
  refine lv_icmp_ge (tgt := 29) hx hb dX10_begins_6 (by decide) (fun c1 => ?_) (fun c1 => ?_)
  · rw [if_pos c1] at h
    obtain rfl := some1 h
    exact x_vret C0 hP hS dX10_begins_29
  · rw [if_neg c1] at h
    refine lv_aload_n hx hb dX10_begins_9 rfl (lv_at hl 0 rfl) ?_
    refine x_get C0 hP inu10 (k := 0) cm_0 (by decide) rfl 13 (by decide) q4_147 rfl (v := .ref (g.2.2.1 + 7)) rfl dX10_begins_10 ?_
    refine lv_aload_n hx hb dX10_begins_13 rfl (lv_at hl 0 rfl) ?_
    refine x_get C0 hP inu10 (k := 0) cm_0 (by decide) rfl 14 (by decide) q4_148 rfl (v := .int (μ 0 14)) rfl dX10_begins_14 ?_
    refine lv_iload_n hx hb dX10_begins_17 rfl (lv_at hl 1 rfl) ?_
    obtain ⟨z2, h⟩ := gd_some h
    obtain ⟨μ3, e3, h⟩ := lt_some h
    refine x_iast C0 hP hS (k := 7) cm_7 (j := (μ 0 14).toNatClampNeg) z2 rfl dX10_begins_18 (fun H locs hP hS => ?_)
    rw [← e3] at hP
    refine lv_aload_n hx hb dX10_begins_19 rfl (lv_at hl 0 rfl) ?_
    refine lv_dup hx hb dX10_begins_20 rfl ?_
    refine x_get C0 hP inu10 (k := 0) cm_0 (by decide) rfl 14 (by decide) q4_148 rfl (v := .int (μ3 0 14)) rfl dX10_begins_21 ?_
    refine lv_iconst (v := (1 : Int32)) hx hb dX10_begins_24 rfl ?_
    refine lv_iadd hx hb dX10_begins_25 ?_
    obtain ⟨μ4, e4, h⟩ := lt_some h
    refine x_put C0 hP hS inu10 tyX10 tyX10_ok nmX10 (k := 0) cm_0 (by decide) rfl 14 (by decide) q4_148 rfl rfl (v := .int ((μ3 0 14) + (1 : Int32))) (x := ((μ3 0 14) + (1 : Int32))) rfl rfl (Nat.le_of_ble_eq_true rfl) (os_10_14 _ _ _ _) dX10_begins_26 (fun H locs hP hS => ?_)
    rw [← e4] at hP
    obtain rfl := some1 h
    exact x_vret C0 hP hS dX10_begins_29
def X10_meterTick (x1 : Int32) (μ : Mem) : Option (Int32 × Mem) :=
  ob (X10_begins (10 : Int32) μ) fun μ1 => some ((x1 + (μ1 0 16)), μ1)
set_option maxRecDepth 100000 in
set_option maxHeartbeats 4000000 in
theorem c_X10_meterTick (l : Launch) (g : Gx) (x1 : Int32) (μ : Mem) {r : Int32} {ν : Mem} (h : X10_meterTick x1 μ = some (r, ν)) : Ct Lm g l yX10_meterTick cX10_meterTick 2 (some .int) { frames := 1, cells := 0, slots := 0, locals := 21 } [.ref (g.2.2.1 + 0), .int x1] μ (some (.int r)) ν := by
  refine x_met (lv := [(0, .ref (g.2.2.1 + 0)), (1, .int x1)]) rfl (Nat.le_of_ble_eq_true rfl) rfl ?_
  intro p e s m below meth c C0 hP ls hl
  generalize ([.ref (g.2.2.1 + 0), .int x1] : List Value).toArray = args at C0 ⊢
  have C0 : Cx Lm g p s m args meth c cX10_meterTick 2 (some .int) RX10 := C0
  have hS : va_S (Ax Lm g) s.heap s.heap [] := va_S.rf
  obtain ⟨hx, hb, hr, hml, hown, hts, hlocks, hK⟩ := id C0
  unfold X10_meterTick at h
  skip
  refine lv_aload_n hx hb dX10_meterTick_0 rfl (lv_at hl 0 rfl) ?_
  refine lv_bipush (v := (10 : Int32)) hx hb dX10_meterTick_1 (by decide +kernel) ?_
  obtain ⟨μ1, h1, h⟩ := ob_some h
  refine x_callV C0 (rest := []) (q := (RX10, TX10, 22)) (c_X10_begins l g (10 : Int32) μ h1) q5_218 q5_215 q5_217 r4_6 q1_11 hd_X10_begins ⟨rfl, rfl⟩ ⟨Nat.le_of_ble_eq_true rfl, Nat.le_of_ble_eq_true rfl⟩ cm_0 (by decide) rfl hP hS hl.1 rfl rfl (Nat.le_of_ble_eq_true rfl) dX10_meterTick_3 (fun H locs hP hS => ?_)
  refine W.eq (g2 := F0 m 6 ls []) rfl ?_
  refine lv_iload_n hx hb dX10_meterTick_6 rfl (lv_at hl 1 rfl) ?_
  refine lv_aload_n hx hb dX10_meterTick_7 rfl (lv_at hl 0 rfl) ?_
  refine x_get C0 hP inu10 (k := 0) cm_0 (by decide) rfl 16 (by decide) q4_150 rfl (v := .int (μ1 0 16)) rfl dX10_meterTick_8 ?_
  refine lv_iadd hx hb dX10_meterTick_11 ?_
  obtain ⟨rfl, rfl⟩ := some2 h
  exact x_iret C0 hP hS dX10_meterTick_12
def X10_keyedTick (x1 : Int32) (μ : Mem) : Option (Int32 × Mem) :=
  ob (X10_begins (20 : Int32) μ) fun μ1 => ob2 (X10_meterTick x1 μ1) fun r2 μ2 => some ((r2 - (μ2 0 15)), μ2)
set_option maxRecDepth 100000 in
set_option maxHeartbeats 4000000 in
theorem c_X10_keyedTick (l : Launch) (g : Gx) (x1 : Int32) (μ : Mem) {r : Int32} {ν : Mem} (h : X10_keyedTick x1 μ = some (r, ν)) : Ct Lm g l yX10_keyedTick cX10_keyedTick 2 (some .int) { frames := 2, cells := 0, slots := 0, locals := 42 } [.ref (g.2.2.1 + 0), .int x1] μ (some (.int r)) ν := by
  refine x_met (lv := [(0, .ref (g.2.2.1 + 0)), (1, .int x1)]) rfl (Nat.le_of_ble_eq_true rfl) rfl ?_
  intro p e s m below meth c C0 hP ls hl
  generalize ([.ref (g.2.2.1 + 0), .int x1] : List Value).toArray = args at C0 ⊢
  have C0 : Cx Lm g p s m args meth c cX10_keyedTick 2 (some .int) RX10 := C0
  have hS : va_S (Ax Lm g) s.heap s.heap [] := va_S.rf
  obtain ⟨hx, hb, hr, hml, hown, hts, hlocks, hK⟩ := id C0
  unfold X10_keyedTick at h
  skip
  refine lv_aload_n hx hb dX10_keyedTick_0 rfl (lv_at hl 0 rfl) ?_
  refine lv_bipush (v := (20 : Int32)) hx hb dX10_keyedTick_1 (by decide +kernel) ?_
  obtain ⟨μ1, h1, h⟩ := ob_some h
  refine x_callV C0 (rest := []) (q := (RX10, TX10, 22)) (c_X10_begins l g (20 : Int32) μ h1) q5_218 q5_215 q5_217 r4_6 q1_11 hd_X10_begins ⟨rfl, rfl⟩ ⟨Nat.le_of_ble_eq_true rfl, Nat.le_of_ble_eq_true rfl⟩ cm_0 (by decide) rfl hP hS hl.1 rfl rfl (Nat.le_of_ble_eq_true rfl) dX10_keyedTick_3 (fun H locs hP hS => ?_)
  refine W.eq (g2 := F0 m 6 ls []) rfl ?_
  refine lv_aload_n hx hb dX10_keyedTick_6 rfl (lv_at hl 0 rfl) ?_
  refine lv_iload_n hx hb dX10_keyedTick_7 rfl (lv_at hl 1 rfl) ?_
  obtain ⟨r2, μ2, h1, h⟩ := ob2_some h
  refine x_callV C0 (rest := []) (q := (RX10, TX10, 22)) (c_X10_meterTick l g x1 μ1 h1) q5_226 q5_223 q5_225 r4_8 q1_11 hd_X10_meterTick ⟨rfl, rfl⟩ ⟨Nat.le_of_ble_eq_true rfl, Nat.le_of_ble_eq_true rfl⟩ cm_0 (by decide) rfl hP hS hl.1 rfl rfl (Nat.le_of_ble_eq_true rfl) dX10_keyedTick_8 (fun H locs hP hS => ?_)
  refine W.eq (g2 := F0 m 11 ls [.int r2]) rfl ?_
  refine lv_aload_n hx hb dX10_keyedTick_11 rfl (lv_at hl 0 rfl) ?_
  refine x_get C0 hP inu10 (k := 0) cm_0 (by decide) rfl 15 (by decide) q4_149 rfl (v := .int (μ2 0 15)) rfl dX10_keyedTick_12 ?_
  refine lv_isub hx hb dX10_keyedTick_15 ?_
  obtain ⟨rfl, rfl⟩ := some2 h
  exact x_iret C0 hP hS dX10_keyedTick_16
def X10_tick_41  (x1 : Int32) (μ : Mem) : Option (Int32 × Mem) :=
  ob2 (X10_keyedTick x1 μ) fun r3 μ3 => some (r3, μ3)
set_option maxRecDepth 100000 in
set_option maxHeartbeats 4000000 in
theorem w_X10_tick_41 {g : Gx} {p : Program} {l : Launch} {e : Env} {s : State} {m : MethodId} {args : Array Value} {below : List Frame} {meth : Method} {c : Code} (C0 : Cx Lm g p s m args meth c cX10_tick 2 (some .int) RX10) {r : Int32} {ν : Mem}  (x1 : Int32) (μ : Mem) (H : Heap) (locs : List Loc) (ls : Array Slot) (hP : Px Lm g μ H) (hS : va_S (Ax Lm g) s.heap H locs) (hl : lv_has ls 2 [(0, .ref (g.2.2.1 + 0)), (1, .int x1)]) (h : X10_tick_41  x1 μ = some (r, ν)) : W p l e { frames := 3, cells := 0, slots := 0, locals := 63 } s m args below meth c H locs 0 0 (MQ below (Qx Lm g (some (.int r)) ν) args s 0 0 (Ax Lm g)) (F0 m 41 ls []) := by
  obtain ⟨hx, hb, hr, hml, hown, hts, hlocks, hK⟩ := id C0
  unfold X10_tick_41 at h
  refine lv_aload_n hx hb dX10_tick_41 rfl (lv_at hl 0 rfl) ?_
  refine lv_iload_n hx hb dX10_tick_42 rfl (lv_at hl 1 rfl) ?_
  obtain ⟨r3, μ3, h1, h⟩ := ob2_some h
  refine x_callV C0 (rest := []) (q := (RX10, TX10, 22)) (c_X10_keyedTick l g x1 μ h1) q5_222 q5_219 q5_221 r4_7 q1_11 hd_X10_keyedTick ⟨rfl, rfl⟩ ⟨Nat.le_of_ble_eq_true rfl, Nat.le_of_ble_eq_true rfl⟩ cm_0 (by decide) rfl hP hS hl.1 rfl rfl (Nat.le_of_ble_eq_true rfl) dX10_tick_43 (fun H locs hP hS => ?_)
  refine W.eq (g2 := F0 m 46 ls [.int r3]) rfl ?_
  refine lv_goto (tgt := 54) hx hb dX10_tick_46 (by decide) ?_
  obtain ⟨rfl, rfl⟩ := some2 h
  exact x_iret C0 hP hS dX10_tick_54
def X10_tick (x1 : Int32) (μ : Mem) : Option (Int32 × Mem) :=
  (if (μ 0 17) = (3 : Int32) then ob (X10_begins (41 : Int32) μ) fun μ6 => ob2 (X10_keyedTick (x1 + (μ6 0 16)) μ6) fun r7 μ7 => some (r7, μ7) else (if (μ 0 17) = (1 : Int32) then X10_tick_41 x1 μ else (if (μ 0 17) = (5 : Int32) then X10_tick_41 x1 μ else ob2 (X10_meterTick x1 μ) fun r5 μ5 => some (r5, μ5))))
set_option maxRecDepth 100000 in
set_option maxHeartbeats 4000000 in
theorem c_X10_tick (l : Launch) (g : Gx) (x1 : Int32) (μ : Mem) {r : Int32} {ν : Mem} (h : X10_tick x1 μ = some (r, ν)) : Ct Lm g l yX10_tick cX10_tick 2 (some .int) { frames := 3, cells := 0, slots := 0, locals := 63 } [.ref (g.2.2.1 + 0), .int x1] μ (some (.int r)) ν := by
  refine x_met (lv := [(0, .ref (g.2.2.1 + 0)), (1, .int x1)]) rfl (Nat.le_of_ble_eq_true rfl) rfl ?_
  intro p e s m below meth c C0 hP ls hl
  generalize ([.ref (g.2.2.1 + 0), .int x1] : List Value).toArray = args at C0 ⊢
  have C0 : Cx Lm g p s m args meth c cX10_tick 2 (some .int) RX10 := C0
  have hS : va_S (Ax Lm g) s.heap s.heap [] := va_S.rf
  obtain ⟨hx, hb, hr, hml, hown, hts, hlocks, hK⟩ := id C0
  unfold X10_tick at h
  skip
  refine lv_aload_n hx hb dX10_tick_0 rfl (lv_at hl 0 rfl) ?_
  refine x_get C0 hP inu10 (k := 0) cm_0 (by decide) rfl 17 (by decide) q4_151 rfl (v := .int (μ 0 17)) rfl dX10_tick_1 ?_
  refine lv_iconst (v := (3 : Int32)) hx hb dX10_tick_4 rfl ?_
  refine lv_icmp_ne (tgt := 25) hx hb dX10_tick_5 (by decide) (fun c1 => ?_) (fun c1 => ?_)
  · rw [if_neg c1] at h
    refine lv_aload_n hx hb dX10_tick_25 rfl (lv_at hl 0 rfl) ?_
    refine x_get C0 hP inu10 (k := 0) cm_0 (by decide) rfl 17 (by decide) q4_151 rfl (v := .int (μ 0 17)) rfl dX10_tick_26 ?_
    refine lv_iconst (v := (1 : Int32)) hx hb dX10_tick_29 rfl ?_
    refine lv_icmp_eq (tgt := 41) hx hb dX10_tick_30 (by decide) (fun c2 => ?_) (fun c2 => ?_)
    · rw [if_pos c2] at h
      exact w_X10_tick_41 C0  x1 μ _ _ _ hP hS (lv_sub hl [0, 1] rfl) h
    · rw [if_neg c2] at h
      refine lv_aload_n hx hb dX10_tick_33 rfl (lv_at hl 0 rfl) ?_
      refine x_get C0 hP inu10 (k := 0) cm_0 (by decide) rfl 17 (by decide) q4_151 rfl (v := .int (μ 0 17)) rfl dX10_tick_34 ?_
      refine lv_iconst (v := (5 : Int32)) hx hb dX10_tick_37 rfl ?_
      refine lv_icmp_ne (tgt := 49) hx hb dX10_tick_38 (by decide) (fun c4 => ?_) (fun c4 => ?_)
      · rw [if_neg c4] at h
        refine lv_aload_n hx hb dX10_tick_49 rfl (lv_at hl 0 rfl) ?_
        refine lv_iload_n hx hb dX10_tick_50 rfl (lv_at hl 1 rfl) ?_
        obtain ⟨r5, μ5, h1, h⟩ := ob2_some h
        refine x_callV C0 (rest := []) (q := (RX10, TX10, 22)) (c_X10_meterTick l g x1 μ h1) q5_226 q5_223 q5_225 r4_8 q1_11 hd_X10_meterTick ⟨rfl, rfl⟩ ⟨Nat.le_of_ble_eq_true rfl, Nat.le_of_ble_eq_true rfl⟩ cm_0 (by decide) rfl hP hS hl.1 rfl rfl (Nat.le_of_ble_eq_true rfl) dX10_tick_51 (fun H locs hP hS => ?_)
        refine W.eq (g2 := F0 m 54 ls [.int r5]) rfl ?_
        obtain ⟨rfl, rfl⟩ := some2 h
        exact x_iret C0 hP hS dX10_tick_54
      · rw [if_pos c4] at h
        exact w_X10_tick_41 C0  x1 μ _ _ _ hP hS (lv_sub hl [0, 1] rfl) h
  · rw [if_pos c1] at h
    refine lv_aload_n hx hb dX10_tick_8 rfl (lv_at hl 0 rfl) ?_
    refine lv_bipush (v := (41 : Int32)) hx hb dX10_tick_9 (by decide +kernel) ?_
    obtain ⟨μ6, h1, h⟩ := ob_some h
    refine x_callV C0 (rest := []) (q := (RX10, TX10, 22)) (c_X10_begins l g (41 : Int32) μ h1) q5_218 q5_215 q5_217 r4_6 q1_11 hd_X10_begins ⟨rfl, rfl⟩ ⟨Nat.le_of_ble_eq_true rfl, Nat.le_of_ble_eq_true rfl⟩ cm_0 (by decide) rfl hP hS hl.1 rfl rfl (Nat.le_of_ble_eq_true rfl) dX10_tick_11 (fun H locs hP hS => ?_)
    refine W.eq (g2 := F0 m 14 ls []) rfl ?_
    refine lv_aload_n hx hb dX10_tick_14 rfl (lv_at hl 0 rfl) ?_
    refine lv_iload_n hx hb dX10_tick_15 rfl (lv_at hl 1 rfl) ?_
    refine lv_aload_n hx hb dX10_tick_16 rfl (lv_at hl 0 rfl) ?_
    refine x_get C0 hP inu10 (k := 0) cm_0 (by decide) rfl 16 (by decide) q4_150 rfl (v := .int (μ6 0 16)) rfl dX10_tick_17 ?_
    refine lv_iadd hx hb dX10_tick_20 ?_
    obtain ⟨r7, μ7, h1, h⟩ := ob2_some h
    refine x_callV C0 (rest := []) (q := (RX10, TX10, 22)) (c_X10_keyedTick l g (x1 + (μ6 0 16)) μ6 h1) q5_222 q5_219 q5_221 r4_7 q1_11 hd_X10_keyedTick ⟨rfl, rfl⟩ ⟨Nat.le_of_ble_eq_true rfl, Nat.le_of_ble_eq_true rfl⟩ cm_0 (by decide) rfl hP hS hl.1 rfl rfl (Nat.le_of_ble_eq_true rfl) dX10_tick_21 (fun H locs hP hS => ?_)
    refine W.eq (g2 := F0 m 24 ls [.int r7]) rfl ?_
    obtain ⟨rfl, rfl⟩ := some2 h
    exact x_iret C0 hP hS dX10_tick_24
def X10_meterHum (x1 : Int32) (μ : Mem) : Option (Int32 × Mem) :=
  ob (X10_begins (11 : Int32) μ) fun μ1 => ob2 (X10_tick x1 μ1) fun r2 μ2 => some ((r2 * (2 : Int32)), μ2)
set_option maxRecDepth 100000 in
set_option maxHeartbeats 4000000 in
theorem c_X10_meterHum (l : Launch) (g : Gx) (x1 : Int32) (μ : Mem) {r : Int32} {ν : Mem} (h : X10_meterHum x1 μ = some (r, ν)) : Ct Lm g l yX10_meterHum cX10_meterHum 2 (some .int) { frames := 4, cells := 0, slots := 0, locals := 84 } [.ref (g.2.2.1 + 0), .int x1] μ (some (.int r)) ν := by
  refine x_met (lv := [(0, .ref (g.2.2.1 + 0)), (1, .int x1)]) rfl (Nat.le_of_ble_eq_true rfl) rfl ?_
  intro p e s m below meth c C0 hP ls hl
  generalize ([.ref (g.2.2.1 + 0), .int x1] : List Value).toArray = args at C0 ⊢
  have C0 : Cx Lm g p s m args meth c cX10_meterHum 2 (some .int) RX10 := C0
  have hS : va_S (Ax Lm g) s.heap s.heap [] := va_S.rf
  obtain ⟨hx, hb, hr, hml, hown, hts, hlocks, hK⟩ := id C0
  unfold X10_meterHum at h
  skip
  refine lv_aload_n hx hb dX10_meterHum_0 rfl (lv_at hl 0 rfl) ?_
  refine lv_bipush (v := (11 : Int32)) hx hb dX10_meterHum_1 (by decide +kernel) ?_
  obtain ⟨μ1, h1, h⟩ := ob_some h
  refine x_callV C0 (rest := []) (q := (RX10, TX10, 22)) (c_X10_begins l g (11 : Int32) μ h1) q5_218 q5_215 q5_217 r4_6 q1_11 hd_X10_begins ⟨rfl, rfl⟩ ⟨Nat.le_of_ble_eq_true rfl, Nat.le_of_ble_eq_true rfl⟩ cm_0 (by decide) rfl hP hS hl.1 rfl rfl (Nat.le_of_ble_eq_true rfl) dX10_meterHum_3 (fun H locs hP hS => ?_)
  refine W.eq (g2 := F0 m 6 ls []) rfl ?_
  refine lv_aload_n hx hb dX10_meterHum_6 rfl (lv_at hl 0 rfl) ?_
  refine lv_iload_n hx hb dX10_meterHum_7 rfl (lv_at hl 1 rfl) ?_
  obtain ⟨r2, μ2, h1, h⟩ := ob2_some h
  refine x_callV C0 (rest := []) (q := (RX10, TX10, 22)) (c_X10_tick l g x1 μ1 h1) q5_214 q5_211 q5_213 r4_5 q1_11 hd_X10_tick ⟨rfl, rfl⟩ ⟨Nat.le_of_ble_eq_true rfl, Nat.le_of_ble_eq_true rfl⟩ cm_0 (by decide) rfl hP hS hl.1 rfl rfl (Nat.le_of_ble_eq_true rfl) dX10_meterHum_8 (fun H locs hP hS => ?_)
  refine W.eq (g2 := F0 m 11 ls [.int r2]) rfl ?_
  refine lv_iconst (v := (2 : Int32)) hx hb dX10_meterHum_11 rfl ?_
  refine lv_imul hx hb dX10_meterHum_12 ?_
  obtain ⟨rfl, rfl⟩ := some2 h
  exact x_iret C0 hP hS dX10_meterHum_13
def X10_meterClick (x1 : Int32) (μ : Mem) : Option (Int32 × Mem) :=
  ob (X10_begins (12 : Int32) μ) fun μ1 => some ((x1 - (μ1 0 15)), μ1)
set_option maxRecDepth 100000 in
set_option maxHeartbeats 4000000 in
theorem c_X10_meterClick (l : Launch) (g : Gx) (x1 : Int32) (μ : Mem) {r : Int32} {ν : Mem} (h : X10_meterClick x1 μ = some (r, ν)) : Ct Lm g l yX10_meterClick cX10_meterClick 2 (some .int) { frames := 1, cells := 0, slots := 0, locals := 21 } [.ref (g.2.2.1 + 0), .int x1] μ (some (.int r)) ν := by
  refine x_met (lv := [(0, .ref (g.2.2.1 + 0)), (1, .int x1)]) rfl (Nat.le_of_ble_eq_true rfl) rfl ?_
  intro p e s m below meth c C0 hP ls hl
  generalize ([.ref (g.2.2.1 + 0), .int x1] : List Value).toArray = args at C0 ⊢
  have C0 : Cx Lm g p s m args meth c cX10_meterClick 2 (some .int) RX10 := C0
  have hS : va_S (Ax Lm g) s.heap s.heap [] := va_S.rf
  obtain ⟨hx, hb, hr, hml, hown, hts, hlocks, hK⟩ := id C0
  unfold X10_meterClick at h
  skip
  refine lv_aload_n hx hb dX10_meterClick_0 rfl (lv_at hl 0 rfl) ?_
  refine lv_bipush (v := (12 : Int32)) hx hb dX10_meterClick_1 (by decide +kernel) ?_
  obtain ⟨μ1, h1, h⟩ := ob_some h
  refine x_callV C0 (rest := []) (q := (RX10, TX10, 22)) (c_X10_begins l g (12 : Int32) μ h1) q5_218 q5_215 q5_217 r4_6 q1_11 hd_X10_begins ⟨rfl, rfl⟩ ⟨Nat.le_of_ble_eq_true rfl, Nat.le_of_ble_eq_true rfl⟩ cm_0 (by decide) rfl hP hS hl.1 rfl rfl (Nat.le_of_ble_eq_true rfl) dX10_meterClick_3 (fun H locs hP hS => ?_)
  refine W.eq (g2 := F0 m 6 ls []) rfl ?_
  refine lv_iload_n hx hb dX10_meterClick_6 rfl (lv_at hl 1 rfl) ?_
  refine lv_aload_n hx hb dX10_meterClick_7 rfl (lv_at hl 0 rfl) ?_
  refine x_get C0 hP inu10 (k := 0) cm_0 (by decide) rfl 15 (by decide) q4_149 rfl (v := .int (μ1 0 15)) rfl dX10_meterClick_8 ?_
  refine lv_isub hx hb dX10_meterClick_11 ?_
  obtain ⟨rfl, rfl⟩ := some2 h
  exact x_iret C0 hP hS dX10_meterClick_12
def X10_click (x1 : Int32) (μ : Mem) : Option (Int32 × Mem) :=
  (if (μ 0 17) = (3 : Int32) then ob (X10_begins (40 : Int32) μ) fun μ6 => ob2 (X10_meterClick x1 μ6) fun r7 μ7 => some ((r7 * (3 : Int32)), μ7) else (if (μ 0 17) = (5 : Int32) then ob (X10_begins (60 : Int32) μ) fun μ4 => ob2 (X10_meterClick (x1 - (μ4 0 16)) μ4) fun r5 μ5 => some (r5, μ5) else ob2 (X10_meterClick x1 μ) fun r3 μ3 => some (r3, μ3)))
set_option maxRecDepth 100000 in
set_option maxHeartbeats 4000000 in
theorem c_X10_click (l : Launch) (g : Gx) (x1 : Int32) (μ : Mem) {r : Int32} {ν : Mem} (h : X10_click x1 μ = some (r, ν)) : Ct Lm g l yX10_click cX10_click 2 (some .int) { frames := 2, cells := 0, slots := 0, locals := 42 } [.ref (g.2.2.1 + 0), .int x1] μ (some (.int r)) ν := by
  refine x_met (lv := [(0, .ref (g.2.2.1 + 0)), (1, .int x1)]) rfl (Nat.le_of_ble_eq_true rfl) rfl ?_
  intro p e s m below meth c C0 hP ls hl
  generalize ([.ref (g.2.2.1 + 0), .int x1] : List Value).toArray = args at C0 ⊢
  have C0 : Cx Lm g p s m args meth c cX10_click 2 (some .int) RX10 := C0
  have hS : va_S (Ax Lm g) s.heap s.heap [] := va_S.rf
  obtain ⟨hx, hb, hr, hml, hown, hts, hlocks, hK⟩ := id C0
  unfold X10_click at h
  skip
  refine lv_aload_n hx hb dX10_click_0 rfl (lv_at hl 0 rfl) ?_
  refine x_get C0 hP inu10 (k := 0) cm_0 (by decide) rfl 17 (by decide) q4_151 rfl (v := .int (μ 0 17)) rfl dX10_click_1 ?_
  refine lv_iconst (v := (3 : Int32)) hx hb dX10_click_4 rfl ?_
  refine lv_icmp_ne (tgt := 22) hx hb dX10_click_5 (by decide) (fun c1 => ?_) (fun c1 => ?_)
  · rw [if_neg c1] at h
    refine lv_aload_n hx hb dX10_click_22 rfl (lv_at hl 0 rfl) ?_
    refine x_get C0 hP inu10 (k := 0) cm_0 (by decide) rfl 17 (by decide) q4_151 rfl (v := .int (μ 0 17)) rfl dX10_click_23 ?_
    refine lv_iconst (v := (5 : Int32)) hx hb dX10_click_26 rfl ?_
    refine lv_icmp_ne (tgt := 47) hx hb dX10_click_27 (by decide) (fun c2 => ?_) (fun c2 => ?_)
    · rw [if_neg c2] at h
      refine lv_aload_n hx hb dX10_click_47 rfl (lv_at hl 0 rfl) ?_
      refine lv_iload_n hx hb dX10_click_48 rfl (lv_at hl 1 rfl) ?_
      obtain ⟨r3, μ3, h1, h⟩ := ob2_some h
      refine x_callV C0 (rest := []) (q := (RX10, TX10, 22)) (c_X10_meterClick l g x1 μ h1) q6_6 q6_3 q6_5 r4_13 q1_11 hd_X10_meterClick ⟨rfl, rfl⟩ ⟨Nat.le_of_ble_eq_true rfl, Nat.le_of_ble_eq_true rfl⟩ cm_0 (by decide) rfl hP hS hl.1 rfl rfl (Nat.le_of_ble_eq_true rfl) dX10_click_49 (fun H locs hP hS => ?_)
      refine W.eq (g2 := F0 m 52 ls [.int r3]) rfl ?_
      obtain ⟨rfl, rfl⟩ := some2 h
      exact x_iret C0 hP hS dX10_click_52
    · rw [if_pos c2] at h
      refine lv_aload_n hx hb dX10_click_30 rfl (lv_at hl 0 rfl) ?_
      refine lv_bipush (v := (60 : Int32)) hx hb dX10_click_31 (by decide +kernel) ?_
      obtain ⟨μ4, h1, h⟩ := ob_some h
      refine x_callV C0 (rest := []) (q := (RX10, TX10, 22)) (c_X10_begins l g (60 : Int32) μ h1) q5_218 q5_215 q5_217 r4_6 q1_11 hd_X10_begins ⟨rfl, rfl⟩ ⟨Nat.le_of_ble_eq_true rfl, Nat.le_of_ble_eq_true rfl⟩ cm_0 (by decide) rfl hP hS hl.1 rfl rfl (Nat.le_of_ble_eq_true rfl) dX10_click_33 (fun H locs hP hS => ?_)
      refine W.eq (g2 := F0 m 36 ls []) rfl ?_
      refine lv_aload_n hx hb dX10_click_36 rfl (lv_at hl 0 rfl) ?_
      refine lv_iload_n hx hb dX10_click_37 rfl (lv_at hl 1 rfl) ?_
      refine lv_aload_n hx hb dX10_click_38 rfl (lv_at hl 0 rfl) ?_
      refine x_get C0 hP inu10 (k := 0) cm_0 (by decide) rfl 16 (by decide) q4_150 rfl (v := .int (μ4 0 16)) rfl dX10_click_39 ?_
      refine lv_isub hx hb dX10_click_42 ?_
      obtain ⟨r5, μ5, h1, h⟩ := ob2_some h
      refine x_callV C0 (rest := []) (q := (RX10, TX10, 22)) (c_X10_meterClick l g (x1 - (μ4 0 16)) μ4 h1) q6_6 q6_3 q6_5 r4_13 q1_11 hd_X10_meterClick ⟨rfl, rfl⟩ ⟨Nat.le_of_ble_eq_true rfl, Nat.le_of_ble_eq_true rfl⟩ cm_0 (by decide) rfl hP hS hl.1 rfl rfl (Nat.le_of_ble_eq_true rfl) dX10_click_43 (fun H locs hP hS => ?_)
      refine W.eq (g2 := F0 m 46 ls [.int r5]) rfl ?_
      obtain ⟨rfl, rfl⟩ := some2 h
      exact x_iret C0 hP hS dX10_click_46
  · rw [if_pos c1] at h
    refine lv_aload_n hx hb dX10_click_8 rfl (lv_at hl 0 rfl) ?_
    refine lv_bipush (v := (40 : Int32)) hx hb dX10_click_9 (by decide +kernel) ?_
    obtain ⟨μ6, h1, h⟩ := ob_some h
    refine x_callV C0 (rest := []) (q := (RX10, TX10, 22)) (c_X10_begins l g (40 : Int32) μ h1) q5_218 q5_215 q5_217 r4_6 q1_11 hd_X10_begins ⟨rfl, rfl⟩ ⟨Nat.le_of_ble_eq_true rfl, Nat.le_of_ble_eq_true rfl⟩ cm_0 (by decide) rfl hP hS hl.1 rfl rfl (Nat.le_of_ble_eq_true rfl) dX10_click_11 (fun H locs hP hS => ?_)
    refine W.eq (g2 := F0 m 14 ls []) rfl ?_
    refine lv_aload_n hx hb dX10_click_14 rfl (lv_at hl 0 rfl) ?_
    refine lv_iload_n hx hb dX10_click_15 rfl (lv_at hl 1 rfl) ?_
    obtain ⟨r7, μ7, h1, h⟩ := ob2_some h
    refine x_callV C0 (rest := []) (q := (RX10, TX10, 22)) (c_X10_meterClick l g x1 μ6 h1) q6_6 q6_3 q6_5 r4_13 q1_11 hd_X10_meterClick ⟨rfl, rfl⟩ ⟨Nat.le_of_ble_eq_true rfl, Nat.le_of_ble_eq_true rfl⟩ cm_0 (by decide) rfl hP hS hl.1 rfl rfl (Nat.le_of_ble_eq_true rfl) dX10_click_16 (fun H locs hP hS => ?_)
    refine W.eq (g2 := F0 m 19 ls [.int r7]) rfl ?_
    refine lv_iconst (v := (3 : Int32)) hx hb dX10_click_19 rfl ?_
    refine lv_imul hx hb dX10_click_20 ?_
    obtain ⟨rfl, rfl⟩ := some2 h
    exact x_iret C0 hP hS dX10_click_21
def X10_smartHum (x1 : Int32) (μ : Mem) : Option (Int32 × Mem) :=
  ob (X10_begins (30 : Int32) μ) fun μ1 => ob2 (X10_meterHum x1 μ1) fun r2 μ2 => ob2 (X10_click x1 μ2) fun r3 μ3 => some ((r2 + r3), μ3)
set_option maxRecDepth 100000 in
set_option maxHeartbeats 4000000 in
theorem c_X10_smartHum (l : Launch) (g : Gx) (x1 : Int32) (μ : Mem) {r : Int32} {ν : Mem} (h : X10_smartHum x1 μ = some (r, ν)) : Ct Lm g l yX10_smartHum cX10_smartHum 3 (some .int) { frames := 5, cells := 0, slots := 0, locals := 105 } [.ref (g.2.2.1 + 0), .int x1] μ (some (.int r)) ν := by
  refine x_met (lv := [(0, .ref (g.2.2.1 + 0)), (1, .int x1)]) rfl (Nat.le_of_ble_eq_true rfl) rfl ?_
  intro p e s m below meth c C0 hP ls hl
  generalize ([.ref (g.2.2.1 + 0), .int x1] : List Value).toArray = args at C0 ⊢
  have C0 : Cx Lm g p s m args meth c cX10_smartHum 3 (some .int) RX10 := C0
  have hS : va_S (Ax Lm g) s.heap s.heap [] := va_S.rf
  obtain ⟨hx, hb, hr, hml, hown, hts, hlocks, hK⟩ := id C0
  unfold X10_smartHum at h
  skip
  refine lv_aload_n hx hb dX10_smartHum_0 rfl (lv_at hl 0 rfl) ?_
  refine lv_bipush (v := (30 : Int32)) hx hb dX10_smartHum_1 (by decide +kernel) ?_
  obtain ⟨μ1, h1, h⟩ := ob_some h
  refine x_callV C0 (rest := []) (q := (RX10, TX10, 22)) (c_X10_begins l g (30 : Int32) μ h1) q5_218 q5_215 q5_217 r4_6 q1_11 hd_X10_begins ⟨rfl, rfl⟩ ⟨Nat.le_of_ble_eq_true rfl, Nat.le_of_ble_eq_true rfl⟩ cm_0 (by decide) rfl hP hS hl.1 rfl rfl (Nat.le_of_ble_eq_true rfl) dX10_smartHum_3 (fun H locs hP hS => ?_)
  refine W.eq (g2 := F0 m 6 ls []) rfl ?_
  refine lv_aload_n hx hb dX10_smartHum_6 rfl (lv_at hl 0 rfl) ?_
  refine lv_iload_n hx hb dX10_smartHum_7 rfl (lv_at hl 1 rfl) ?_
  obtain ⟨r2, μ2, h1, h⟩ := ob2_some h
  refine x_callV C0 (rest := []) (q := (RX10, TX10, 22)) (c_X10_meterHum l g x1 μ1 h1) q5_238 q5_235 q5_237 r4_11 q1_11 hd_X10_meterHum ⟨rfl, rfl⟩ ⟨Nat.le_of_ble_eq_true rfl, Nat.le_of_ble_eq_true rfl⟩ cm_0 (by decide) rfl hP hS hl.1 rfl rfl (Nat.le_of_ble_eq_true rfl) dX10_smartHum_8 (fun H locs hP hS => ?_)
  refine W.eq (g2 := F0 m 11 ls [.int r2]) rfl ?_
  refine lv_istore_n (lv' := [(2, .int r2), (0, .ref (g.2.2.1 + 0)), (1, .int x1)]) hx hb dX10_smartHum_11 rfl hl (by decide) rfl (fun ls hl => ?_)
  refine lv_iload_n hx hb dX10_smartHum_12 rfl (lv_at hl 0 rfl) ?_
  refine lv_aload_n hx hb dX10_smartHum_13 rfl (lv_at hl 1 rfl) ?_
  refine lv_iload_n hx hb dX10_smartHum_14 rfl (lv_at hl 2 rfl) ?_
  obtain ⟨r3, μ3, h1, h⟩ := ob2_some h
  refine x_callV C0 (rest := [.int r2]) (q := (RX10, TX10, 22)) (c_X10_click l g x1 μ2 h1) q6_2 q5_239 q6_1 r4_12 q1_11 hd_X10_click ⟨rfl, rfl⟩ ⟨Nat.le_of_ble_eq_true rfl, Nat.le_of_ble_eq_true rfl⟩ cm_0 (by decide) rfl hP hS hl.1 rfl rfl (Nat.le_of_ble_eq_true rfl) dX10_smartHum_15 (fun H locs hP hS => ?_)
  refine W.eq (g2 := F0 m 18 ls [.int r3, .int r2]) rfl ?_
  refine lv_iadd hx hb dX10_smartHum_18 ?_
  obtain ⟨rfl, rfl⟩ := some2 h
  exact x_iret C0 hP hS dX10_smartHum_19
def X10_hum (x1 : Int32) (μ : Mem) : Option (Int32 × Mem) :=
  (if (μ 0 17) = (4 : Int32) then ob (X10_begins (51 : Int32) μ) fun μ5 => ob2 (X10_smartHum x1 μ5) fun r6 μ6 => ob2 (X10_tick x1 μ6) fun r7 μ7 => some ((r6 ^^^ r7), μ7) else (if (μ 0 17) = (2 : Int32) then ob2 (X10_smartHum x1 μ) fun r4 μ4 => some (r4, μ4) else ob2 (X10_meterHum x1 μ) fun r3 μ3 => some (r3, μ3)))
set_option maxRecDepth 100000 in
set_option maxHeartbeats 4000000 in
theorem c_X10_hum (l : Launch) (g : Gx) (x1 : Int32) (μ : Mem) {r : Int32} {ν : Mem} (h : X10_hum x1 μ = some (r, ν)) : Ct Lm g l yX10_hum cX10_hum 3 (some .int) { frames := 6, cells := 0, slots := 0, locals := 127 } [.ref (g.2.2.1 + 0), .int x1] μ (some (.int r)) ν := by
  refine x_met (lv := [(0, .ref (g.2.2.1 + 0)), (1, .int x1)]) rfl (Nat.le_of_ble_eq_true rfl) rfl ?_
  intro p e s m below meth c C0 hP ls hl
  generalize ([.ref (g.2.2.1 + 0), .int x1] : List Value).toArray = args at C0 ⊢
  have C0 : Cx Lm g p s m args meth c cX10_hum 3 (some .int) RX10 := C0
  have hS : va_S (Ax Lm g) s.heap s.heap [] := va_S.rf
  obtain ⟨hx, hb, hr, hml, hown, hts, hlocks, hK⟩ := id C0
  unfold X10_hum at h
  skip
  refine lv_aload_n hx hb dX10_hum_0 rfl (lv_at hl 0 rfl) ?_
  refine x_get C0 hP inu10 (k := 0) cm_0 (by decide) rfl 17 (by decide) q4_151 rfl (v := .int (μ 0 17)) rfl dX10_hum_1 ?_
  refine lv_iconst (v := (4 : Int32)) hx hb dX10_hum_4 rfl ?_
  refine lv_icmp_ne (tgt := 28) hx hb dX10_hum_5 (by decide) (fun c1 => ?_) (fun c1 => ?_)
  · rw [if_neg c1] at h
    refine lv_aload_n hx hb dX10_hum_28 rfl (lv_at hl 0 rfl) ?_
    refine x_get C0 hP inu10 (k := 0) cm_0 (by decide) rfl 17 (by decide) q4_151 rfl (v := .int (μ 0 17)) rfl dX10_hum_29 ?_
    refine lv_iconst (v := (2 : Int32)) hx hb dX10_hum_32 rfl ?_
    refine lv_icmp_ne (tgt := 44) hx hb dX10_hum_33 (by decide) (fun c2 => ?_) (fun c2 => ?_)
    · rw [if_neg c2] at h
      refine lv_aload_n hx hb dX10_hum_44 rfl (lv_at hl 0 rfl) ?_
      refine lv_iload_n hx hb dX10_hum_45 rfl (lv_at hl 1 rfl) ?_
      obtain ⟨r3, μ3, h1, h⟩ := ob2_some h
      refine x_callV C0 (rest := []) (q := (RX10, TX10, 22)) (c_X10_meterHum l g x1 μ h1) q5_238 q5_235 q5_237 r4_11 q1_11 hd_X10_meterHum ⟨rfl, rfl⟩ ⟨Nat.le_of_ble_eq_true rfl, Nat.le_of_ble_eq_true rfl⟩ cm_0 (by decide) rfl hP hS hl.1 rfl rfl (Nat.le_of_ble_eq_true rfl) dX10_hum_46 (fun H locs hP hS => ?_)
      refine W.eq (g2 := F0 m 49 ls [.int r3]) rfl ?_
      obtain ⟨rfl, rfl⟩ := some2 h
      exact x_iret C0 hP hS dX10_hum_49
    · rw [if_pos c2] at h
      refine lv_aload_n hx hb dX10_hum_36 rfl (lv_at hl 0 rfl) ?_
      refine lv_iload_n hx hb dX10_hum_37 rfl (lv_at hl 1 rfl) ?_
      obtain ⟨r4, μ4, h1, h⟩ := ob2_some h
      refine x_callV C0 (rest := []) (q := (RX10, TX10, 22)) (c_X10_smartHum l g x1 μ h1) q5_234 q5_231 q5_233 r4_10 q1_11 hd_X10_smartHum ⟨rfl, rfl⟩ ⟨Nat.le_of_ble_eq_true rfl, Nat.le_of_ble_eq_true rfl⟩ cm_0 (by decide) rfl hP hS hl.1 rfl rfl (Nat.le_of_ble_eq_true rfl) dX10_hum_38 (fun H locs hP hS => ?_)
      refine W.eq (g2 := F0 m 41 ls [.int r4]) rfl ?_
      refine lv_goto (tgt := 49) hx hb dX10_hum_41 (by decide) ?_
      obtain ⟨rfl, rfl⟩ := some2 h
      exact x_iret C0 hP hS dX10_hum_49
  · rw [if_pos c1] at h
    refine lv_aload_n hx hb dX10_hum_8 rfl (lv_at hl 0 rfl) ?_
    refine lv_bipush (v := (51 : Int32)) hx hb dX10_hum_9 (by decide +kernel) ?_
    obtain ⟨μ5, h1, h⟩ := ob_some h
    refine x_callV C0 (rest := []) (q := (RX10, TX10, 22)) (c_X10_begins l g (51 : Int32) μ h1) q5_218 q5_215 q5_217 r4_6 q1_11 hd_X10_begins ⟨rfl, rfl⟩ ⟨Nat.le_of_ble_eq_true rfl, Nat.le_of_ble_eq_true rfl⟩ cm_0 (by decide) rfl hP hS hl.1 rfl rfl (Nat.le_of_ble_eq_true rfl) dX10_hum_11 (fun H locs hP hS => ?_)
    refine W.eq (g2 := F0 m 14 ls []) rfl ?_
    refine lv_aload_n hx hb dX10_hum_14 rfl (lv_at hl 0 rfl) ?_
    refine lv_iload_n hx hb dX10_hum_15 rfl (lv_at hl 1 rfl) ?_
    obtain ⟨r6, μ6, h1, h⟩ := ob2_some h
    refine x_callV C0 (rest := []) (q := (RX10, TX10, 22)) (c_X10_smartHum l g x1 μ5 h1) q5_234 q5_231 q5_233 r4_10 q1_11 hd_X10_smartHum ⟨rfl, rfl⟩ ⟨Nat.le_of_ble_eq_true rfl, Nat.le_of_ble_eq_true rfl⟩ cm_0 (by decide) rfl hP hS hl.1 rfl rfl (Nat.le_of_ble_eq_true rfl) dX10_hum_16 (fun H locs hP hS => ?_)
    refine W.eq (g2 := F0 m 19 ls [.int r6]) rfl ?_
    refine lv_istore_n (lv' := [(2, .int r6), (0, .ref (g.2.2.1 + 0)), (1, .int x1)]) hx hb dX10_hum_19 rfl hl (by decide) rfl (fun ls hl => ?_)
    refine lv_iload_n hx hb dX10_hum_20 rfl (lv_at hl 0 rfl) ?_
    refine lv_aload_n hx hb dX10_hum_21 rfl (lv_at hl 1 rfl) ?_
    refine lv_iload_n hx hb dX10_hum_22 rfl (lv_at hl 2 rfl) ?_
    obtain ⟨r7, μ7, h1, h⟩ := ob2_some h
    refine x_callV C0 (rest := [.int r6]) (q := (RX10, TX10, 22)) (c_X10_tick l g x1 μ6 h1) q5_214 q5_211 q5_213 r4_5 q1_11 hd_X10_tick ⟨rfl, rfl⟩ ⟨Nat.le_of_ble_eq_true rfl, Nat.le_of_ble_eq_true rfl⟩ cm_0 (by decide) rfl hP hS hl.1 rfl rfl (Nat.le_of_ble_eq_true rfl) dX10_hum_23 (fun H locs hP hS => ?_)
    refine W.eq (g2 := F0 m 26 ls [.int r7, .int r6]) rfl ?_
    refine lv_ixor hx hb dX10_hum_26 ?_
    obtain ⟨rfl, rfl⟩ := some2 h
    exact x_iret C0 hP hS dX10_hum_27
def X10_meterTell (x1 : Int32) (μ : Mem) : Option (Int32 × Mem) :=
  ob (X10_begins (13 : Int32) μ) fun μ1 => ob2 (X10_hum x1 μ1) fun r2 μ2 => ob2 (X10_click x1 μ2) fun r3 μ3 => some ((r2 ^^^ r3), μ3)
set_option maxRecDepth 100000 in
set_option maxHeartbeats 4000000 in
theorem c_X10_meterTell (l : Launch) (g : Gx) (x1 : Int32) (μ : Mem) {r : Int32} {ν : Mem} (h : X10_meterTell x1 μ = some (r, ν)) : Ct Lm g l yX10_meterTell cX10_meterTell 3 (some .int) { frames := 7, cells := 0, slots := 0, locals := 149 } [.ref (g.2.2.1 + 0), .int x1] μ (some (.int r)) ν := by
  refine x_met (lv := [(0, .ref (g.2.2.1 + 0)), (1, .int x1)]) rfl (Nat.le_of_ble_eq_true rfl) rfl ?_
  intro p e s m below meth c C0 hP ls hl
  generalize ([.ref (g.2.2.1 + 0), .int x1] : List Value).toArray = args at C0 ⊢
  have C0 : Cx Lm g p s m args meth c cX10_meterTell 3 (some .int) RX10 := C0
  have hS : va_S (Ax Lm g) s.heap s.heap [] := va_S.rf
  obtain ⟨hx, hb, hr, hml, hown, hts, hlocks, hK⟩ := id C0
  unfold X10_meterTell at h
  skip
  refine lv_aload_n hx hb dX10_meterTell_0 rfl (lv_at hl 0 rfl) ?_
  refine lv_bipush (v := (13 : Int32)) hx hb dX10_meterTell_1 (by decide +kernel) ?_
  obtain ⟨μ1, h1, h⟩ := ob_some h
  refine x_callV C0 (rest := []) (q := (RX10, TX10, 22)) (c_X10_begins l g (13 : Int32) μ h1) q5_218 q5_215 q5_217 r4_6 q1_11 hd_X10_begins ⟨rfl, rfl⟩ ⟨Nat.le_of_ble_eq_true rfl, Nat.le_of_ble_eq_true rfl⟩ cm_0 (by decide) rfl hP hS hl.1 rfl rfl (Nat.le_of_ble_eq_true rfl) dX10_meterTell_3 (fun H locs hP hS => ?_)
  refine W.eq (g2 := F0 m 6 ls []) rfl ?_
  refine lv_aload_n hx hb dX10_meterTell_6 rfl (lv_at hl 0 rfl) ?_
  refine lv_iload_n hx hb dX10_meterTell_7 rfl (lv_at hl 1 rfl) ?_
  obtain ⟨r2, μ2, h1, h⟩ := ob2_some h
  refine x_callV C0 (rest := []) (q := (RX10, TX10, 22)) (c_X10_hum l g x1 μ1 h1) q5_230 q5_227 q5_229 r4_9 q1_11 hd_X10_hum ⟨rfl, rfl⟩ ⟨Nat.le_of_ble_eq_true rfl, Nat.le_of_ble_eq_true rfl⟩ cm_0 (by decide) rfl hP hS hl.1 rfl rfl (Nat.le_of_ble_eq_true rfl) dX10_meterTell_8 (fun H locs hP hS => ?_)
  refine W.eq (g2 := F0 m 11 ls [.int r2]) rfl ?_
  refine lv_istore_n (lv' := [(2, .int r2), (0, .ref (g.2.2.1 + 0)), (1, .int x1)]) hx hb dX10_meterTell_11 rfl hl (by decide) rfl (fun ls hl => ?_)
  refine lv_iload_n hx hb dX10_meterTell_12 rfl (lv_at hl 0 rfl) ?_
  refine lv_aload_n hx hb dX10_meterTell_13 rfl (lv_at hl 1 rfl) ?_
  refine lv_iload_n hx hb dX10_meterTell_14 rfl (lv_at hl 2 rfl) ?_
  obtain ⟨r3, μ3, h1, h⟩ := ob2_some h
  refine x_callV C0 (rest := [.int r2]) (q := (RX10, TX10, 22)) (c_X10_click l g x1 μ2 h1) q6_2 q5_239 q6_1 r4_12 q1_11 hd_X10_click ⟨rfl, rfl⟩ ⟨Nat.le_of_ble_eq_true rfl, Nat.le_of_ble_eq_true rfl⟩ cm_0 (by decide) rfl hP hS hl.1 rfl rfl (Nat.le_of_ble_eq_true rfl) dX10_meterTell_15 (fun H locs hP hS => ?_)
  refine W.eq (g2 := F0 m 18 ls [.int r3, .int r2]) rfl ?_
  refine lv_ixor hx hb dX10_meterTell_18 ?_
  obtain ⟨rfl, rfl⟩ := some2 h
  exact x_iret C0 hP hS dX10_meterTell_19
