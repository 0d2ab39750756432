def X10_eats_28  (x2 : Int32) (t1 : Int32) (t2 : Int32) (μ : Mem) : Option (Int32 × Mem) :=
  lt (st μ 0 8 (t1 + t2)) fun μ4 => gd (x2 = 0 ∨ x2 = 1) (some (x2, μ4))
set_option maxRecDepth 100000 in
set_option maxHeartbeats 4000000 in
theorem w_X10_eats_28 {g : Gx} {p : Program} {l : Launch} {e : Env} {s : State} {m : MethodId} {args : Array Value} {below : List Frame} {meth : Method} {c : Code} (C0 : Cx Lm g p s m args meth c cX10_eats 3 (some .boolean) RX10) {r : Int32} {ν : Mem}  (x2 : Int32) (t1 : Int32) (t2 : Int32) (μ : Mem) (H : Heap) (locs : List Loc) (ls : Array Slot) (hP : Px Lm g μ H) (hS : va_S (Ax Lm g) s.heap H locs) (hl : lv_has ls 3 [(2, .int x2)]) (h : X10_eats_28  x2 t1 t2 μ = some (r, ν)) : W p l e { frames := 1, cells := 0, slots := 0, locals := 20 } s m args below meth c H locs 0 0 (MQ below (Qx Lm g (some (.int r)) ν) args s 0 0 (Ax Lm g)) (F0 m 28 ls [.int t2, .int t1, .ref (g.2.2.1 + 0)]) := by
  obtain ⟨hx, hb, hr, hml, hown, hts, hlocks, hK⟩ := id C0
  unfold X10_eats_28 at h
  refine lv_iadd hx hb dX10_eats_28 ?_
  obtain ⟨μ4, e4, h⟩ := lt_some h
  refine x_put C0 hP hS inu10 tyX10 tyX10_ok nmX10 (k := 0) cm_0 (by decide) rfl 8 (by decide) q4_142 rfl rfl (v := .int (t1 + t2)) (x := (t1 + t2)) rfl rfl (Nat.le_of_ble_eq_true rfl) (os_10_8 _ _ _ _) dX10_eats_29 (fun H locs hP hS => ?_)
  rw [← e4] at hP
  refine lv_iload_n hx hb dX10_eats_32 rfl (lv_at hl 0 rfl) ?_
  obtain ⟨z5, h⟩ := gd_some h
  obtain ⟨rfl, rfl⟩ := some2 h
  exact x_zret C0 hP hS z5 dX10_eats_33
def X10_eats_13  (t0 : Int32) (μ : Mem) : Option (Int32 × Mem) :=
  (if t0 = (0 : Int32) then X10_eats_28 t0 (μ 0 8) (0 : Int32) μ else X10_eats_28 t0 (μ 0 8) (1 : Int32) μ)
set_option maxRecDepth 100000 in
set_option maxHeartbeats 4000000 in
theorem w_X10_eats_13 {g : Gx} {p : Program} {l : Launch} {e : Env} {s : State} {m : MethodId} {args : Array Value} {below : List Frame} {meth : Method} {c : Code} (C0 : Cx Lm g p s m args meth c cX10_eats 3 (some .boolean) RX10) {r : Int32} {ν : Mem}  (t0 : Int32) (μ : Mem) (H : Heap) (locs : List Loc) (ls : Array Slot) (hP : Px Lm g μ H) (hS : va_S (Ax Lm g) s.heap H locs) (hl : lv_has ls 3 [(0, .ref (g.2.2.1 + 0))]) (h : X10_eats_13  t0 μ = some (r, ν)) : W p l e { frames := 1, cells := 0, slots := 0, locals := 20 } s m args below meth c H locs 0 0 (MQ below (Qx Lm g (some (.int r)) ν) args s 0 0 (Ax Lm g)) (F0 m 13 ls [.int t0]) := by
  obtain ⟨hx, hb, hr, hml, hown, hts, hlocks, hK⟩ := id C0
  unfold X10_eats_13 at h
  refine lv_istore_n (lv' := [(2, .int t0), (0, .ref (g.2.2.1 + 0))]) hx hb dX10_eats_13 rfl hl (by decide) rfl (fun ls hl => ?_)
  refine lv_aload_n hx hb dX10_eats_14 rfl (lv_at hl 1 rfl) ?_
  refine lv_dup hx hb dX10_eats_15 rfl ?_
  refine x_get C0 hP inu10 (k := 0) cm_0 (by decide) rfl 8 (by decide) q4_142 rfl (v := .int (μ 0 8)) rfl dX10_eats_16 ?_
  refine lv_iload_n hx hb dX10_eats_19 rfl (lv_at hl 0 rfl) ?_
  refine lv_if_eq (tgt := 27) hx hb dX10_eats_20 (by decide) (fun c3 => ?_) (fun c3 => ?_)
  · rw [if_pos c3] at h
    refine lv_iconst (v := (0 : Int32)) hx hb dX10_eats_27 rfl ?_
    exact w_X10_eats_28 C0  t0 (μ 0 8) (0 : Int32) μ _ _ _ hP hS (lv_sub hl [0] rfl) h
  · rw [if_neg c3] at h
    refine lv_iconst (v := (1 : Int32)) hx hb dX10_eats_23 rfl ?_
    refine lv_goto (tgt := 28) hx hb dX10_eats_24 (by decide) ?_
    exact w_X10_eats_28 C0  t0 (μ 0 8) (1 : Int32) μ _ _ _ hP hS (lv_sub hl [0] rfl) h
def X10_eats (x1 : Int32) (μ : Mem) : Option (Int32 × Mem) :=
  ob2 (X10_byteAt  μ) fun r1 μ1 => (if r1 = x1 then X10_eats_13 (1 : Int32) μ1 else X10_eats_13 (0 : Int32) μ1)
set_option maxRecDepth 100000 in
set_option maxHeartbeats 4000000 in
theorem c_X10_eats (l : Launch) (g : Gx) (x1 : Int32) (μ : Mem) {r : Int32} {ν : Mem} (h : X10_eats x1 μ = some (r, ν)) : Ct Lm g l yX10_eats cX10_eats 3 (some .boolean) { frames := 1, cells := 0, slots := 0, locals := 20 } [.ref (g.2.2.1 + 0), .int x1] μ (some (.int r)) ν := by
  refine x_met (lv := [(0, .ref (g.2.2.1 + 0)), (1, .int x1)]) rfl (Nat.le_of_ble_eq_true rfl) rfl ?_
  intro p e s m below meth c C0 hP ls hl
  generalize ([.ref (g.2.2.1 + 0), .int x1] : List Value).toArray = args at C0 ⊢
  have C0 : Cx Lm g p s m args meth c cX10_eats 3 (some .boolean) RX10 := C0
  have hS : va_S (Ax Lm g) s.heap s.heap [] := va_S.rf
  obtain ⟨hx, hb, hr, hml, hown, hts, hlocks, hK⟩ := id C0
  unfold X10_eats at h
  skip
  refine lv_aload_n hx hb dX10_eats_0 rfl (lv_at hl 0 rfl) ?_
  obtain ⟨r1, μ1, h1, h⟩ := ob2_some h
  refine x_callV C0 (rest := []) (q := (RX10, TX10, 22)) (c_X10_byteAt l g μ h1) q5_72 q5_69 q5_71 r3_6 q1_11 hd_X10_byteAt ⟨rfl, rfl⟩ ⟨Nat.le_of_ble_eq_true rfl, Nat.le_of_ble_eq_true rfl⟩ cm_0 (by decide) rfl hP hS hl.1 rfl rfl (Nat.le_of_ble_eq_true rfl) dX10_eats_1 (fun H locs hP hS => ?_)
  refine W.eq (g2 := F0 m 4 ls [.int r1]) rfl ?_
  refine lv_iload_n hx hb dX10_eats_4 rfl (lv_at hl 1 rfl) ?_
  refine lv_icmp_ne (tgt := 12) hx hb dX10_eats_5 (by decide) (fun c2 => ?_) (fun c2 => ?_)
  · rw [if_neg c2] at h
    refine lv_iconst (v := (0 : Int32)) hx hb dX10_eats_12 rfl ?_
    exact w_X10_eats_13 C0  (0 : Int32) μ1 _ _ _ hP hS (lv_sub hl [0] rfl) h
  · rw [if_pos c2] at h
    refine lv_iconst (v := (1 : Int32)) hx hb dX10_eats_8 rfl ?_
    refine lv_goto (tgt := 13) hx hb dX10_eats_9 (by decide) ?_
    exact w_X10_eats_13 C0  (1 : Int32) μ1 _ _ _ hP hS (lv_sub hl [0] rfl) h
def X10_term_70 (S : Mem → Option (Int32 × Mem)) (K10 : Int32 → Int32 → Mem → Option (Int32 × Mem)) (t0 : Int32) (μ : Mem) : Option (Int32 × Mem) :=
  ob2 (X10_byteAt  μ) fun r10 μ10 => K10 t0 r10 μ10
set_option maxRecDepth 100000 in
set_option maxHeartbeats 4000000 in
theorem w_X10_term_70 {g : Gx} {p : Program} {l : Launch} {e : Env} {s : State} {m : MethodId} {args : Array Value} {below : List Frame} {meth : Method} {c : Code} (C0 : Cx Lm g p s m args meth c cX10_term 4 (some .int) RX10) {r : Int32} {ν : Mem} (S : Mem → Option (Int32 × Mem)) {F Lo : Nat} (hS0 : ∀  (μ : Mem) (r : Int32) (ν : Mem), S  μ = some (r, ν) → Ct Lm g l yX10_single cX10_single 4 (some .int) { frames := F, cells := 0, slots := 0, locals := Lo } [.ref (g.2.2.1 + 0)] μ (some (.int r)) ν) (K10 : Int32 → Int32 → Mem → Option (Int32 × Mem)) (hK10 : ∀ (x1 : Int32) (x2 : Int32) (μ : Mem) (H : Heap) (locs : List Loc) (ls : Array Slot), Px Lm g μ H → va_S (Ax Lm g) s.heap H locs → lv_has ls 4 [(0, .ref (g.2.2.1 + 0)), (1, .int x1), (2, .int x2)] → K10 x1 x2 μ = some (r, ν) → W p l e { frames := F + 1, cells := 0, slots := 0, locals := Lo + 23 } s m args below meth c H locs 0 0 (MQ below (Qx Lm g (some (.int r)) ν) args s 0 0 (Ax Lm g)) (F0 m 10 ls [])) (t0 : Int32) (μ : Mem) (H : Heap) (locs : List Loc) (ls : Array Slot) (hP : Px Lm g μ H) (hS : va_S (Ax Lm g) s.heap H locs) (hl : lv_has ls 4 [(0, .ref (g.2.2.1 + 0))]) (h : X10_term_70 S K10 t0 μ = some (r, ν)) : W p l e { frames := F + 1, cells := 0, slots := 0, locals := Lo + 23 } s m args below meth c H locs 0 0 (MQ below (Qx Lm g (some (.int r)) ν) args s 0 0 (Ax Lm g)) (F0 m 70 ls [.int t0]) := by
  obtain ⟨hx, hb, hr, hml, hown, hts, hlocks, hK⟩ := id C0
  unfold X10_term_70 at h
  refine lv_istore_n (lv' := [(1, .int t0), (0, .ref (g.2.2.1 + 0))]) hx hb dX10_term_70 rfl hl (by decide) rfl (fun ls hl => ?_)
  refine lv_aload_n hx hb dX10_term_71 rfl (lv_at hl 1 rfl) ?_
  obtain ⟨r10, μ10, h1, h⟩ := ob2_some h
  refine x_callV C0 (rest := []) (q := (RX10, TX10, 22)) (c_X10_byteAt l g μ h1) q5_72 q5_69 q5_71 r3_6 q1_11 hd_X10_byteAt ⟨rfl, rfl⟩ ⟨by dsimp only; omega, by dsimp only; omega⟩ cm_0 (by decide) rfl hP hS hl.1 rfl rfl (Nat.le_of_ble_eq_true rfl) dX10_term_72 (fun H locs hP hS => ?_)
  refine W.eq (g2 := F0 m 75 ls [.int r10]) rfl ?_
  refine lv_istore_n (lv' := [(2, .int r10), (1, .int t0), (0, .ref (g.2.2.1 + 0))]) hx hb dX10_term_75 rfl hl (by decide) rfl (fun ls hl => ?_)
  refine lv_goto (tgt := 10) hx hb dX10_term_76 (by decide) ?_
  exact hK10 t0 r10 μ10 _ _ _ hP hS (lv_sub hl [2, 1, 0] rfl) h
def X10_term_22 (S : Mem → Option (Int32 × Mem)) (K10 : Int32 → Int32 → Mem → Option (Int32 × Mem)) (x1 : Int32) (x2 : Int32) (μ : Mem) : Option (Int32 × Mem) :=
  lt (st μ 0 8 ((μ 0 8) + (1 : Int32))) fun μ4 => ob2 (S  μ4) fun r5 μ5 => (if x2 = (42 : Int32) then X10_term_70 S K10 (x1 * r5) μ5 else (if r5 = (0 : Int32) then X10_term_70 S K10 (0 : Int32) μ5 else (if r5 = (-1 : Int32) then X10_term_70 S K10 (-x1) μ5 else gd (¬ r5 = 0) (X10_term_70 S K10 (x1 / r5) μ5))))
set_option maxRecDepth 100000 in
set_option maxHeartbeats 4000000 in
theorem w_X10_term_22 {g : Gx} {p : Program} {l : Launch} {e : Env} {s : State} {m : MethodId} {args : Array Value} {below : List Frame} {meth : Method} {c : Code} (C0 : Cx Lm g p s m args meth c cX10_term 4 (some .int) RX10) {r : Int32} {ν : Mem} (S : Mem → Option (Int32 × Mem)) {F Lo : Nat} (hS0 : ∀  (μ : Mem) (r : Int32) (ν : Mem), S  μ = some (r, ν) → Ct Lm g l yX10_single cX10_single 4 (some .int) { frames := F, cells := 0, slots := 0, locals := Lo } [.ref (g.2.2.1 + 0)] μ (some (.int r)) ν) (K10 : Int32 → Int32 → Mem → Option (Int32 × Mem)) (hK10 : ∀ (x1 : Int32) (x2 : Int32) (μ : Mem) (H : Heap) (locs : List Loc) (ls : Array Slot), Px Lm g μ H → va_S (Ax Lm g) s.heap H locs → lv_has ls 4 [(0, .ref (g.2.2.1 + 0)), (1, .int x1), (2, .int x2)] → K10 x1 x2 μ = some (r, ν) → W p l e { frames := F + 1, cells := 0, slots := 0, locals := Lo + 23 } s m args below meth c H locs 0 0 (MQ below (Qx Lm g (some (.int r)) ν) args s 0 0 (Ax Lm g)) (F0 m 10 ls [])) (x1 : Int32) (x2 : Int32) (μ : Mem) (H : Heap) (locs : List Loc) (ls : Array Slot) (hP : Px Lm g μ H) (hS : va_S (Ax Lm g) s.heap H locs) (hl : lv_has ls 4 [(0, .ref (g.2.2.1 + 0)), (1, .int x1), (2, .int x2)]) (h : X10_term_22 S K10 x1 x2 μ = some (r, ν)) : W p l e { frames := F + 1, cells := 0, slots := 0, locals := Lo + 23 } s m args below meth c H locs 0 0 (MQ below (Qx Lm g (some (.int r)) ν) args s 0 0 (Ax Lm g)) (F0 m 22 ls []) := by
  obtain ⟨hx, hb, hr, hml, hown, hts, hlocks, hK⟩ := id C0
  unfold X10_term_22 at h
  refine lv_aload_n hx hb dX10_term_22 rfl (lv_at hl 0 rfl) ?_
  refine lv_dup hx hb dX10_term_23 rfl ?_
  refine x_get C0 hP inu10 (k := 0) cm_0 (by decide) rfl 8 (by decide) q4_142 rfl (v := .int (μ 0 8)) rfl dX10_term_24 ?_
  refine lv_iconst (v := (1 : Int32)) hx hb dX10_term_27 rfl ?_
  refine lv_iadd hx hb dX10_term_28 ?_
  obtain ⟨μ4, e4, h⟩ := lt_some h
  refine x_put C0 hP hS inu10 tyX10 tyX10_ok nmX10 (k := 0) cm_0 (by decide) rfl 8 (by decide) q4_142 rfl rfl (v := .int ((μ 0 8) + (1 : Int32))) (x := ((μ 0 8) + (1 : Int32))) rfl rfl (Nat.le_of_ble_eq_true rfl) (os_10_8 _ _ _ _) dX10_term_29 (fun H locs hP hS => ?_)
  rw [← e4] at hP
  refine lv_aload_n hx hb dX10_term_32 rfl (lv_at hl 0 rfl) ?_
  obtain ⟨r5, μ5, h1, h⟩ := ob2_some h
  refine x_callV C0 (rest := []) (q := (RX10, TX10, 22)) (hS0 μ4 _ _ h1) q5_68 q5_65 q5_67 r3_5 q1_11 hd_X10_single ⟨rfl, rfl⟩ ⟨by dsimp only; omega, by dsimp only; omega⟩ cm_0 (by decide) rfl hP hS hl.1 rfl rfl (Nat.le_of_ble_eq_true rfl) dX10_term_33 (fun H locs hP hS => ?_)
  refine W.eq (g2 := F0 m 36 ls [.int r5]) rfl ?_
  refine lv_istore_n (lv' := [(3, .int r5), (0, .ref (g.2.2.1 + 0)), (1, .int x1), (2, .int x2)]) hx hb dX10_term_36 rfl hl (by decide) rfl (fun ls hl => ?_)
  refine lv_iload_n hx hb dX10_term_37 rfl (lv_at hl 3 rfl) ?_
  refine lv_bipush (v := (42 : Int32)) hx hb dX10_term_38 (by decide +kernel) ?_
  refine lv_icmp_ne (tgt := 49) hx hb dX10_term_40 (by decide) (fun c6 => ?_) (fun c6 => ?_)
  · rw [if_neg c6] at h
    refine lv_iload_n hx hb dX10_term_49 rfl (lv_at hl 0 rfl) ?_
    refine lv_if_ne (tgt := 57) hx hb dX10_term_50 (by decide) (fun c7 => ?_) (fun c7 => ?_)
    · rw [if_neg c7] at h
      refine lv_iload_n hx hb dX10_term_57 rfl (lv_at hl 0 rfl) ?_
      refine lv_iconst (v := (-1 : Int32)) hx hb dX10_term_58 rfl ?_
      refine lv_icmp_ne (tgt := 67) hx hb dX10_term_59 (by decide) (fun c8 => ?_) (fun c8 => ?_)
      · rw [if_neg c8] at h
        refine lv_iload_n hx hb dX10_term_67 rfl (lv_at hl 2 rfl) ?_
        refine lv_iload_n hx hb dX10_term_68 rfl (lv_at hl 0 rfl) ?_
        obtain ⟨z9, h⟩ := gd_some h
        refine lv_idiv hx hb dX10_term_69 z9 ?_
        exact w_X10_term_70 C0 S hS0 K10 hK10 (x1 / r5) μ5 _ _ _ hP hS (lv_sub hl [1] rfl) h
      · rw [if_pos c8] at h
        refine lv_iload_n hx hb dX10_term_62 rfl (lv_at hl 2 rfl) ?_
        refine lv_ineg hx hb dX10_term_63 ?_
        refine lv_goto (tgt := 70) hx hb dX10_term_64 (by decide) ?_
        exact w_X10_term_70 C0 S hS0 K10 hK10 (-x1) μ5 _ _ _ hP hS (lv_sub hl [1] rfl) h
    · rw [if_pos c7] at h
      refine lv_iconst (v := (0 : Int32)) hx hb dX10_term_53 rfl ?_
      refine lv_goto (tgt := 70) hx hb dX10_term_54 (by decide) ?_
      exact w_X10_term_70 C0 S hS0 K10 hK10 (0 : Int32) μ5 _ _ _ hP hS (lv_sub hl [1] rfl) h
  · rw [if_pos c6] at h
    refine lv_iload_n hx hb dX10_term_43 rfl (lv_at hl 2 rfl) ?_
    refine lv_iload_n hx hb dX10_term_44 rfl (lv_at hl 0 rfl) ?_
    refine lv_imul hx hb dX10_term_45 ?_
    refine lv_goto (tgt := 70) hx hb dX10_term_46 (by decide) ?_
    exact w_X10_term_70 C0 S hS0 K10 hK10 (x1 * r5) μ5 _ _ _ hP hS (lv_sub hl [1] rfl) h
def X10_term_10 (S : Mem → Option (Int32 × Mem))  : Nat → Int32 → Int32 → Mem → Option (Int32 × Mem)
  | 0, _, _, _ => none
  | n + 1, x1, x2, μ => (if x2 = (42 : Int32) then X10_term_22 S (X10_term_10 S n) x1 x2 μ else (if x2 = (47 : Int32) then X10_term_22 S (X10_term_10 S n) x1 x2 μ else some (x1, μ)))
set_option maxRecDepth 100000 in
set_option maxHeartbeats 4000000 in
theorem w_X10_term_10 {g : Gx} {p : Program} {l : Launch} {e : Env} {s : State} {m : MethodId} {args : Array Value} {below : List Frame} {meth : Method} {c : Code} (C0 : Cx Lm g p s m args meth c cX10_term 4 (some .int) RX10) {r : Int32} {ν : Mem} (S : Mem → Option (Int32 × Mem)) {F Lo : Nat} (hS0 : ∀  (μ : Mem) (r : Int32) (ν : Mem), S  μ = some (r, ν) → Ct Lm g l yX10_single cX10_single 4 (some .int) { frames := F, cells := 0, slots := 0, locals := Lo } [.ref (g.2.2.1 + 0)] μ (some (.int r)) ν)  (n : Nat) : ∀ (x1 : Int32) (x2 : Int32) (μ : Mem) (H : Heap) (locs : List Loc) (ls : Array Slot), Px Lm g μ H → va_S (Ax Lm g) s.heap H locs → lv_has ls 4 [(0, .ref (g.2.2.1 + 0)), (1, .int x1), (2, .int x2)] → X10_term_10 S  n x1 x2 μ = some (r, ν) → W p l e { frames := F + 1, cells := 0, slots := 0, locals := Lo + 23 } s m args below meth c H locs 0 0 (MQ below (Qx Lm g (some (.int r)) ν) args s 0 0 (Ax Lm g)) (F0 m 10 ls []) := by
  obtain ⟨hx, hb, hr, hml, hown, hts, hlocks, hK⟩ := id C0
  induction n with
  | zero =>
    intro x1 x2 μ H locs ls hP hS hl h
    have h : (none : Option (Int32 × Mem)) = some (r, ν) := h
    cases h
  | succ n ih =>
    intro x1 x2 μ H locs ls hP hS hl h
    rw [X10_term_10.eq_2] at h
    refine lv_iload_n hx hb dX10_term_10 rfl (lv_at hl 2 rfl) ?_
    refine lv_bipush (v := (42 : Int32)) hx hb dX10_term_11 (by decide +kernel) ?_
    refine lv_icmp_eq (tgt := 22) hx hb dX10_term_13 (by decide) (fun c3 => ?_) (fun c3 => ?_)
    · rw [if_pos c3] at h
      exact w_X10_term_22 C0 S hS0 (X10_term_10 S  n) ih x1 x2 μ _ _ _ hP hS (lv_sub hl [0, 1, 2] rfl) h
    · rw [if_neg c3] at h
      refine lv_iload_n hx hb dX10_term_16 rfl (lv_at hl 2 rfl) ?_
      refine lv_bipush (v := (47 : Int32)) hx hb dX10_term_17 (by decide +kernel) ?_
      refine lv_icmp_ne (tgt := 79) hx hb dX10_term_19 (by decide) (fun c11 => ?_) (fun c11 => ?_)
      · rw [if_neg c11] at h
        refine lv_iload_n hx hb dX10_term_79 rfl (lv_at hl 1 rfl) ?_
        obtain ⟨rfl, rfl⟩ := some2 h
        exact x_iret C0 hP hS dX10_term_80
      · rw [if_pos c11] at h
        exact w_X10_term_22 C0 S hS0 (X10_term_10 S  n) ih x1 x2 μ _ _ _ hP hS (lv_sub hl [0, 1, 2] rfl) h
def X10_term (S : Mem → Option (Int32 × Mem))  (μ : Mem) : Option (Int32 × Mem) :=
  ob2 (S  μ) fun r1 μ1 => ob2 (X10_byteAt  μ1) fun r2 μ2 => X10_term_10 S FU r1 r2 μ2
set_option maxRecDepth 100000 in
set_option maxHeartbeats 4000000 in
theorem c_X10_term (l : Launch) (g : Gx) (S : Mem → Option (Int32 × Mem)) {F Lo : Nat} (hS0 : ∀  (μ : Mem) (r : Int32) (ν : Mem), S  μ = some (r, ν) → Ct Lm g l yX10_single cX10_single 4 (some .int) { frames := F, cells := 0, slots := 0, locals := Lo } [.ref (g.2.2.1 + 0)] μ (some (.int r)) ν)  (μ : Mem) {r : Int32} {ν : Mem} (h : X10_term S  μ = some (r, ν)) : Ct Lm g l yX10_term cX10_term 4 (some .int) { frames := F + 1, cells := 0, slots := 0, locals := Lo + 23 } [.ref (g.2.2.1 + 0)] μ (some (.int r)) ν := by
  refine x_met (lv := [(0, .ref (g.2.2.1 + 0))]) rfl (Nat.le_of_ble_eq_true rfl) rfl ?_
  intro p e s m below meth c C0 hP ls hl
  generalize ([.ref (g.2.2.1 + 0)] : List Value).toArray = args at C0 ⊢
  have C0 : Cx Lm g p s m args meth c cX10_term 4 (some .int) RX10 := C0
  have hS : va_S (Ax Lm g) s.heap s.heap [] := va_S.rf
  obtain ⟨hx, hb, hr, hml, hown, hts, hlocks, hK⟩ := id C0
  unfold X10_term at h
  skip
  refine lv_aload_n hx hb dX10_term_0 rfl (lv_at hl 0 rfl) ?_
  obtain ⟨r1, μ1, h1, h⟩ := ob2_some h
  refine x_callV C0 (rest := []) (q := (RX10, TX10, 22)) (hS0 μ _ _ h1) q5_68 q5_65 q5_67 r3_5 q1_11 hd_X10_single ⟨rfl, rfl⟩ ⟨by dsimp only; omega, by dsimp only; omega⟩ cm_0 (by decide) rfl hP hS hl.1 rfl rfl (Nat.le_of_ble_eq_true rfl) dX10_term_1 (fun H locs hP hS => ?_)
  refine W.eq (g2 := F0 m 4 ls [.int r1]) rfl ?_
  refine lv_istore_n (lv' := [(1, .int r1), (0, .ref (g.2.2.1 + 0))]) hx hb dX10_term_4 rfl hl (by decide) rfl (fun ls hl => ?_)
  refine lv_aload_n hx hb dX10_term_5 rfl (lv_at hl 1 rfl) ?_
  obtain ⟨r2, μ2, h1, h⟩ := ob2_some h
  refine x_callV C0 (rest := []) (q := (RX10, TX10, 22)) (c_X10_byteAt l g μ1 h1) q5_72 q5_69 q5_71 r3_6 q1_11 hd_X10_byteAt ⟨rfl, rfl⟩ ⟨by dsimp only; omega, by dsimp only; omega⟩ cm_0 (by decide) rfl hP hS hl.1 rfl rfl (Nat.le_of_ble_eq_true rfl) dX10_term_6 (fun H locs hP hS => ?_)
  refine W.eq (g2 := F0 m 9 ls [.int r2]) rfl ?_
  refine lv_istore_n (lv' := [(2, .int r2), (1, .int r1), (0, .ref (g.2.2.1 + 0))]) hx hb dX10_term_9 rfl hl (by decide) rfl (fun ls hl => ?_)
  exact w_X10_term_10 C0 S hS0  FU r1 r2 μ2 _ _ _ hP hS (lv_sub hl [2, 1, 0] rfl) h
def X10_added_52 (S : Mem → Option (Int32 × Mem)) (K10 : Int32 → Int32 → Mem → Option (Int32 × Mem)) (t0 : Int32) (μ : Mem) : Option (Int32 × Mem) :=
  ob2 (X10_byteAt  μ) fun r7 μ7 => K10 t0 r7 μ7
set_option maxRecDepth 100000 in
set_option maxHeartbeats 4000000 in
theorem w_X10_added_52 {g : Gx} {p : Program} {l : Launch} {e : Env} {s : State} {m : MethodId} {args : Array Value} {below : List Frame} {meth : Method} {c : Code} (C0 : Cx Lm g p s m args meth c cX10_added 4 (some .int) RX10) {r : Int32} {ν : Mem} (S : Mem → Option (Int32 × Mem)) {F Lo : Nat} (hS0 : ∀  (μ : Mem) (r : Int32) (ν : Mem), S  μ = some (r, ν) → Ct Lm g l yX10_single cX10_single 4 (some .int) { frames := F, cells := 0, slots := 0, locals := Lo } [.ref (g.2.2.1 + 0)] μ (some (.int r)) ν) (K10 : Int32 → Int32 → Mem → Option (Int32 × Mem)) (hK10 : ∀ (x1 : Int32) (x2 : Int32) (μ : Mem) (H : Heap) (locs : List Loc) (ls : Array Slot), Px Lm g μ H → va_S (Ax Lm g) s.heap H locs → lv_has ls 4 [(0, .ref (g.2.2.1 + 0)), (1, .int x1), (2, .int x2)] → K10 x1 x2 μ = some (r, ν) → W p l e { frames := F + 2, cells := 0, slots := 0, locals := Lo + 46 } s m args below meth c H locs 0 0 (MQ below (Qx Lm g (some (.int r)) ν) args s 0 0 (Ax Lm g)) (F0 m 10 ls [])) (t0 : Int32) (μ : Mem) (H : Heap) (locs : List Loc) (ls : Array Slot) (hP : Px Lm g μ H) (hS : va_S (Ax Lm g) s.heap H locs) (hl : lv_has ls 4 [(0, .ref (g.2.2.1 + 0))]) (h : X10_added_52 S K10 t0 μ = some (r, ν)) : W p l e { frames := F + 2, cells := 0, slots := 0, locals := Lo + 46 } s m args below meth c H locs 0 0 (MQ below (Qx Lm g (some (.int r)) ν) args s 0 0 (Ax Lm g)) (F0 m 52 ls [.int t0]) := by
  obtain ⟨hx, hb, hr, hml, hown, hts, hlocks, hK⟩ := id C0
  unfold X10_added_52 at h
  refine lv_istore_n (lv' := [(1, .int t0), (0, .ref (g.2.2.1 + 0))]) hx hb dX10_added_52 rfl hl (by decide) rfl (fun ls hl => ?_)
  refine lv_aload_n hx hb dX10_added_53 rfl (lv_at hl 1 rfl) ?_
  obtain ⟨r7, μ7, h1, h⟩ := ob2_some h
  refine x_callV C0 (rest := []) (q := (RX10, TX10, 22)) (c_X10_byteAt l g μ h1) q5_72 q5_69 q5_71 r3_6 q1_11 hd_X10_byteAt ⟨rfl, rfl⟩ ⟨by dsimp only; omega, by dsimp only; omega⟩ cm_0 (by decide) rfl hP hS hl.1 rfl rfl (Nat.le_of_ble_eq_true rfl) dX10_added_54 (fun H locs hP hS => ?_)
  refine W.eq (g2 := F0 m 57 ls [.int r7]) rfl ?_
  refine lv_istore_n (lv' := [(2, .int r7), (1, .int t0), (0, .ref (g.2.2.1 + 0))]) hx hb dX10_added_57 rfl hl (by decide) rfl (fun ls hl => ?_)
  refine lv_goto (tgt := 10) hx hb dX10_added_58 (by decide) ?_
  exact hK10 t0 r7 μ7 _ _ _ hP hS (lv_sub hl [2, 1, 0] rfl) h
def X10_added_22 (S : Mem → Option (Int32 × Mem)) (K10 : Int32 → Int32 → Mem → Option (Int32 × Mem)) (x1 : Int32) (x2 : Int32) (μ : Mem) : Option (Int32 × Mem) :=
  lt (st μ 0 8 ((μ 0 8) + (1 : Int32))) fun μ4 => ob2 (X10_term S  μ4) fun r5 μ5 => (if x2 = (43 : Int32) then X10_added_52 S K10 (x1 + r5) μ5 else X10_added_52 S K10 (x1 - r5) μ5)
set_option maxRecDepth 100000 in
set_option maxHeartbeats 4000000 in
theorem w_X10_added_22 {g : Gx} {p : Program} {l : Launch} {e : Env} {s : State} {m : MethodId} {args : Array Value} {below : List Frame} {meth : Method} {c : Code} (C0 : Cx Lm g p s m args meth c cX10_added 4 (some .int) RX10) {r : Int32} {ν : Mem} (S : Mem → Option (Int32 × Mem)) {F Lo : Nat} (hS0 : ∀  (μ : Mem) (r : Int32) (ν : Mem), S  μ = some (r, ν) → Ct Lm g l yX10_single cX10_single 4 (some .int) { frames := F, cells := 0, slots := 0, locals := Lo } [.ref (g.2.2.1 + 0)] μ (some (.int r)) ν) (K10 : Int32 → Int32 → Mem → Option (Int32 × Mem)) (hK10 : ∀ (x1 : Int32) (x2 : Int32) (μ : Mem) (H : Heap) (locs : List Loc) (ls : Array Slot), Px Lm g μ H → va_S (Ax Lm g) s.heap H locs → lv_has ls 4 [(0, .ref (g.2.2.1 + 0)), (1, .int x1), (2, .int x2)] → K10 x1 x2 μ = some (r, ν) → W p l e { frames := F + 2, cells := 0, slots := 0, locals := Lo + 46 } s m args below meth c H locs 0 0 (MQ below (Qx Lm g (some (.int r)) ν) args s 0 0 (Ax Lm g)) (F0 m 10 ls [])) (x1 : Int32) (x2 : Int32) (μ : Mem) (H : Heap) (locs : List Loc) (ls : Array Slot) (hP : Px Lm g μ H) (hS : va_S (Ax Lm g) s.heap H locs) (hl : lv_has ls 4 [(0, .ref (g.2.2.1 + 0)), (1, .int x1), (2, .int x2)]) (h : X10_added_22 S K10 x1 x2 μ = some (r, ν)) : W p l e { frames := F + 2, cells := 0, slots := 0, locals := Lo + 46 } s m args below meth c H locs 0 0 (MQ below (Qx Lm g (some (.int r)) ν) args s 0 0 (Ax Lm g)) (F0 m 22 ls []) := by
  obtain ⟨hx, hb, hr, hml, hown, hts, hlocks, hK⟩ := id C0
  unfold X10_added_22 at h
  refine lv_aload_n hx hb dX10_added_22 rfl (lv_at hl 0 rfl) ?_
  refine lv_dup hx hb dX10_added_23 rfl ?_
  refine x_get C0 hP inu10 (k := 0) cm_0 (by decide) rfl 8 (by decide) q4_142 rfl (v := .int (μ 0 8)) rfl dX10_added_24 ?_
  refine lv_iconst (v := (1 : Int32)) hx hb dX10_added_27 rfl ?_
  refine lv_iadd hx hb dX10_added_28 ?_
  obtain ⟨μ4, e4, h⟩ := lt_some h
  refine x_put C0 hP hS inu10 tyX10 tyX10_ok nmX10 (k := 0) cm_0 (by decide) rfl 8 (by decide) q4_142 rfl rfl (v := .int ((μ 0 8) + (1 : Int32))) (x := ((μ 0 8) + (1 : Int32))) rfl rfl (Nat.le_of_ble_eq_true rfl) (os_10_8 _ _ _ _) dX10_added_29 (fun H locs hP hS => ?_)
  rw [← e4] at hP
  refine lv_aload_n hx hb dX10_added_32 rfl (lv_at hl 0 rfl) ?_
  obtain ⟨r5, μ5, h1, h⟩ := ob2_some h
  refine x_callV C0 (rest := []) (q := (RX10, TX10, 22)) (c_X10_term l g S hS0 μ4 h1) q5_64 q5_61 q5_63 r3_4 q1_11 hd_X10_term ⟨rfl, rfl⟩ ⟨by dsimp only; omega, by dsimp only; omega⟩ cm_0 (by decide) rfl hP hS hl.1 rfl rfl (Nat.le_of_ble_eq_true rfl) dX10_added_33 (fun H locs hP hS => ?_)
  refine W.eq (g2 := F0 m 36 ls [.int r5]) rfl ?_
  refine lv_istore_n (lv' := [(3, .int r5), (0, .ref (g.2.2.1 + 0)), (1, .int x1), (2, .int x2)]) hx hb dX10_added_36 rfl hl (by decide) rfl (fun ls hl => ?_)
  refine lv_iload_n hx hb dX10_added_37 rfl (lv_at hl 3 rfl) ?_
  refine lv_bipush (v := (43 : Int32)) hx hb dX10_added_38 (by decide +kernel) ?_
  refine lv_icmp_ne (tgt := 49) hx hb dX10_added_40 (by decide) (fun c6 => ?_) (fun c6 => ?_)
  · rw [if_neg c6] at h
    refine lv_iload_n hx hb dX10_added_49 rfl (lv_at hl 2 rfl) ?_
    refine lv_iload_n hx hb dX10_added_50 rfl (lv_at hl 0 rfl) ?_
    refine lv_isub hx hb dX10_added_51 ?_
    exact w_X10_added_52 C0 S hS0 K10 hK10 (x1 - r5) μ5 _ _ _ hP hS (lv_sub hl [1] rfl) h
  · rw [if_pos c6] at h
    refine lv_iload_n hx hb dX10_added_43 rfl (lv_at hl 2 rfl) ?_
    refine lv_iload_n hx hb dX10_added_44 rfl (lv_at hl 0 rfl) ?_
    refine lv_iadd hx hb dX10_added_45 ?_
    refine lv_goto (tgt := 52) hx hb dX10_added_46 (by decide) ?_
    exact w_X10_added_52 C0 S hS0 K10 hK10 (x1 + r5) μ5 _ _ _ hP hS (lv_sub hl [1] rfl) h
def X10_added_10 (S : Mem → Option (Int32 × Mem))  : Nat → Int32 → Int32 → Mem → Option (Int32 × Mem)
  | 0, _, _, _ => none
  | n + 1, x1, x2, μ => (if x2 = (43 : Int32) then X10_added_22 S (X10_added_10 S n) x1 x2 μ else (if x2 = (45 : Int32) then X10_added_22 S (X10_added_10 S n) x1 x2 μ else some (x1, μ)))
set_option maxRecDepth 100000 in
set_option maxHeartbeats 4000000 in
theorem w_X10_added_10 {g : Gx} {p : Program} {l : Launch} {e : Env} {s : State} {m : MethodId} {args : Array Value} {below : List Frame} {meth : Method} {c : Code} (C0 : Cx Lm g p s m args meth c cX10_added 4 (some .int) RX10) {r : Int32} {ν : Mem} (S : Mem → Option (Int32 × Mem)) {F Lo : Nat} (hS0 : ∀  (μ : Mem) (r : Int32) (ν : Mem), S  μ = some (r, ν) → Ct Lm g l yX10_single cX10_single 4 (some .int) { frames := F, cells := 0, slots := 0, locals := Lo } [.ref (g.2.2.1 + 0)] μ (some (.int r)) ν)  (n : Nat) : ∀ (x1 : Int32) (x2 : Int32) (μ : Mem) (H : Heap) (locs : List Loc) (ls : Array Slot), Px Lm g μ H → va_S (Ax Lm g) s.heap H locs → lv_has ls 4 [(0, .ref (g.2.2.1 + 0)), (1, .int x1), (2, .int x2)] → X10_added_10 S  n x1 x2 μ = some (r, ν) → W p l e { frames := F + 2, cells := 0, slots := 0, locals := Lo + 46 } s m args below meth c H locs 0 0 (MQ below (Qx Lm g (some (.int r)) ν) args s 0 0 (Ax Lm g)) (F0 m 10 ls []) := by
  obtain ⟨hx, hb, hr, hml, hown, hts, hlocks, hK⟩ := id C0
  induction n with
  | zero =>
    intro x1 x2 μ H locs ls hP hS hl h
    have h : (none : Option (Int32 × Mem)) = some (r, ν) := h
    cases h
  | succ n ih =>
    intro x1 x2 μ H locs ls hP hS hl h
    rw [X10_added_10.eq_2] at h
    refine lv_iload_n hx hb dX10_added_10 rfl (lv_at hl 2 rfl) ?_
    refine lv_bipush (v := (43 : Int32)) hx hb dX10_added_11 (by decide +kernel) ?_
    refine lv_icmp_eq (tgt := 22) hx hb dX10_added_13 (by decide) (fun c3 => ?_) (fun c3 => ?_)
    · rw [if_pos c3] at h
      exact w_X10_added_22 C0 S hS0 (X10_added_10 S  n) ih x1 x2 μ _ _ _ hP hS (lv_sub hl [0, 1, 2] rfl) h
    · rw [if_neg c3] at h
      refine lv_iload_n hx hb dX10_added_16 rfl (lv_at hl 2 rfl) ?_
      refine lv_bipush (v := (45 : Int32)) hx hb dX10_added_17 (by decide +kernel) ?_
      refine lv_icmp_ne (tgt := 61) hx hb dX10_added_19 (by decide) (fun c8 => ?_) (fun c8 => ?_)
      · rw [if_neg c8] at h
        refine lv_iload_n hx hb dX10_added_61 rfl (lv_at hl 1 rfl) ?_
        obtain ⟨rfl, rfl⟩ := some2 h
        exact x_iret C0 hP hS dX10_added_62
      · rw [if_pos c8] at h
        exact w_X10_added_22 C0 S hS0 (X10_added_10 S  n) ih x1 x2 μ _ _ _ hP hS (lv_sub hl [0, 1, 2] rfl) h
def X10_added (S : Mem → Option (Int32 × Mem))  (μ : Mem) : Option (Int32 × Mem) :=
  ob2 (X10_term S  μ) fun r1 μ1 => ob2 (X10_byteAt  μ1) fun r2 μ2 => X10_added_10 S FU r1 r2 μ2
set_option maxRecDepth 100000 in
set_option maxHeartbeats 4000000 in
theorem c_X10_added (l : Launch) (g : Gx) (S : Mem → Option (Int32 × Mem)) {F Lo : Nat} (hS0 : ∀  (μ : Mem) (r : Int32) (ν : Mem), S  μ = some (r, ν) → Ct Lm g l yX10_single cX10_single 4 (some .int) { frames := F, cells := 0, slots := 0, locals := Lo } [.ref (g.2.2.1 + 0)] μ (some (.int r)) ν)  (μ : Mem) {r : Int32} {ν : Mem} (h : X10_added S  μ = some (r, ν)) : Ct Lm g l yX10_added cX10_added 4 (some .int) { frames := F + 2, cells := 0, slots := 0, locals := Lo + 46 } [.ref (g.2.2.1 + 0)] μ (some (.int r)) ν := by
  refine x_met (lv := [(0, .ref (g.2.2.1 + 0))]) rfl (Nat.le_of_ble_eq_true rfl) rfl ?_
  intro p e s m below meth c C0 hP ls hl
  generalize ([.ref (g.2.2.1 + 0)] : List Value).toArray = args at C0 ⊢
  have C0 : Cx Lm g p s m args meth c cX10_added 4 (some .int) RX10 := C0
  have hS : va_S (Ax Lm g) s.heap s.heap [] := va_S.rf
  obtain ⟨hx, hb, hr, hml, hown, hts, hlocks, hK⟩ := id C0
  unfold X10_added at h
  skip
  refine lv_aload_n hx hb dX10_added_0 rfl (lv_at hl 0 rfl) ?_
  obtain ⟨r1, μ1, h1, h⟩ := ob2_some h
  refine x_callV C0 (rest := []) (q := (RX10, TX10, 22)) (c_X10_term l g S hS0 μ h1) q5_64 q5_61 q5_63 r3_4 q1_11 hd_X10_term ⟨rfl, rfl⟩ ⟨by dsimp only; omega, by dsimp only; omega⟩ cm_0 (by decide) rfl hP hS hl.1 rfl rfl (Nat.le_of_ble_eq_true rfl) dX10_added_1 (fun H locs hP hS => ?_)
  refine W.eq (g2 := F0 m 4 ls [.int r1]) rfl ?_
  refine lv_istore_n (lv' := [(1, .int r1), (0, .ref (g.2.2.1 + 0))]) hx hb dX10_added_4 rfl hl (by decide) rfl (fun ls hl => ?_)
  refine lv_aload_n hx hb dX10_added_5 rfl (lv_at hl 1 rfl) ?_
  obtain ⟨r2, μ2, h1, h⟩ := ob2_some h
  refine x_callV C0 (rest := []) (q := (RX10, TX10, 22)) (c_X10_byteAt l g μ1 h1) q5_72 q5_69 q5_71 r3_6 q1_11 hd_X10_byteAt ⟨rfl, rfl⟩ ⟨by dsimp only; omega, by dsimp only; omega⟩ cm_0 (by decide) rfl hP hS hl.1 rfl rfl (Nat.le_of_ble_eq_true rfl) dX10_added_6 (fun H locs hP hS => ?_)
  refine W.eq (g2 := F0 m 9 ls [.int r2]) rfl ?_
  refine lv_istore_n (lv' := [(2, .int r2), (1, .int r1), (0, .ref (g.2.2.1 + 0))]) hx hb dX10_added_9 rfl hl (by decide) rfl (fun ls hl => ?_)
  exact w_X10_added_10 C0 S hS0  FU r1 r2 μ2 _ _ _ hP hS (lv_sub hl [2, 1, 0] rfl) h
def X10_relation_30 (S : Mem → Option (Int32 × Mem))  (x1 : Int32) (x2 : Int32) (μ : Mem) : Option (Int32 × Mem) :=
  lt (st μ 0 8 ((μ 0 8) + (1 : Int32))) fun μ4 => ob2 (X10_added S  μ4) fun r5 μ5 => (if x2 = (60 : Int32) then (if r5 ≤ x1 then some ((0 : Int32), μ5) else some ((1 : Int32), μ5)) else (if x2 = (61 : Int32) then (if x1 = r5 then some ((1 : Int32), μ5) else some ((0 : Int32), μ5)) else (if x1 ≤ r5 then some ((0 : Int32), μ5) else some ((1 : Int32), μ5))))
set_option maxRecDepth 100000 in
set_option maxHeartbeats 4000000 in
theorem w_X10_relation_30 {g : Gx} {p : Program} {l : Launch} {e : Env} {s : State} {m : MethodId} {args : Array Value} {below : List Frame} {meth : Method} {c : Code} (C0 : Cx Lm g p s m args meth c cX10_relation 4 (some .int) RX10) {r : Int32} {ν : Mem} (S : Mem → Option (Int32 × Mem)) {F Lo : Nat} (hS0 : ∀  (μ : Mem) (r : Int32) (ν : Mem), S  μ = some (r, ν) → Ct Lm g l yX10_single cX10_single 4 (some .int) { frames := F, cells := 0, slots := 0, locals := Lo } [.ref (g.2.2.1 + 0)] μ (some (.int r)) ν)  (x1 : Int32) (x2 : Int32) (μ : Mem) (H : Heap) (locs : List Loc) (ls : Array Slot) (hP : Px Lm g μ H) (hS : va_S (Ax Lm g) s.heap H locs) (hl : lv_has ls 4 [(0, .ref (g.2.2.1 + 0)), (1, .int x1), (2, .int x2)]) (h : X10_relation_30 S  x1 x2 μ = some (r, ν)) : W p l e { frames := F + 3, cells := 0, slots := 0, locals := Lo + 69 } s m args below meth c H locs 0 0 (MQ below (Qx Lm g (some (.int r)) ν) args s 0 0 (Ax Lm g)) (F0 m 30 ls []) := by
  obtain ⟨hx, hb, hr, hml, hown, hts, hlocks, hK⟩ := id C0
  unfold X10_relation_30 at h
  refine lv_aload_n hx hb dX10_relation_30 rfl (lv_at hl 0 rfl) ?_
  refine lv_dup hx hb dX10_relation_31 rfl ?_
  refine x_get C0 hP inu10 (k := 0) cm_0 (by decide) rfl 8 (by decide) q4_142 rfl (v := .int (μ 0 8)) rfl dX10_relation_32 ?_
  refine lv_iconst (v := (1 : Int32)) hx hb dX10_relation_35 rfl ?_
  refine lv_iadd hx hb dX10_relation_36 ?_
  obtain ⟨μ4, e4, h⟩ := lt_some h
  refine x_put C0 hP hS inu10 tyX10 tyX10_ok nmX10 (k := 0) cm_0 (by decide) rfl 8 (by decide) q4_142 rfl rfl (v := .int ((μ 0 8) + (1 : Int32))) (x := ((μ 0 8) + (1 : Int32))) rfl rfl (Nat.le_of_ble_eq_true rfl) (os_10_8 _ _ _ _) dX10_relation_37 (fun H locs hP hS => ?_)
  rw [← e4] at hP
  refine lv_aload_n hx hb dX10_relation_40 rfl (lv_at hl 0 rfl) ?_
  obtain ⟨r5, μ5, h1, h⟩ := ob2_some h
  refine x_callV C0 (rest := []) (q := (RX10, TX10, 22)) (c_X10_added l g S hS0 μ4 h1) q5_60 q5_57 q5_59 r3_3 q1_11 hd_X10_added ⟨rfl, rfl⟩ ⟨by dsimp only; omega, by dsimp only; omega⟩ cm_0 (by decide) rfl hP hS hl.1 rfl rfl (Nat.le_of_ble_eq_true rfl) dX10_relation_41 (fun H locs hP hS => ?_)
  refine W.eq (g2 := F0 m 44 ls [.int r5]) rfl ?_
  refine lv_istore_n (lv' := [(3, .int r5), (0, .ref (g.2.2.1 + 0)), (1, .int x1), (2, .int x2)]) hx hb dX10_relation_44 rfl hl (by decide) rfl (fun ls hl => ?_)
  refine lv_iload_n hx hb dX10_relation_45 rfl (lv_at hl 3 rfl) ?_
  refine lv_bipush (v := (60 : Int32)) hx hb dX10_relation_46 (by decide +kernel) ?_
  refine lv_icmp_ne (tgt := 59) hx hb dX10_relation_48 (by decide) (fun c6 => ?_) (fun c6 => ?_)
  · rw [if_neg c6] at h
    refine lv_iload_n hx hb dX10_relation_59 rfl (lv_at hl 3 rfl) ?_
    refine lv_bipush (v := (61 : Int32)) hx hb dX10_relation_60 (by decide +kernel) ?_
    refine lv_icmp_ne (tgt := 73) hx hb dX10_relation_62 (by decide) (fun c7 => ?_) (fun c7 => ?_)
    · rw [if_neg c7] at h
      refine lv_iload_n hx hb dX10_relation_73 rfl (lv_at hl 2 rfl) ?_
      refine lv_iload_n hx hb dX10_relation_74 rfl (lv_at hl 0 rfl) ?_
      refine lv_icmp_le (tgt := 82) hx hb dX10_relation_75 (by decide) (fun c8 => ?_) (fun c8 => ?_)
      · rw [if_pos c8] at h
        refine lv_iconst (v := (0 : Int32)) hx hb dX10_relation_82 rfl ?_
        obtain ⟨rfl, rfl⟩ := some2 h
        exact x_iret C0 hP hS dX10_relation_83
      · rw [if_neg c8] at h
        refine lv_iconst (v := (1 : Int32)) hx hb dX10_relation_78 rfl ?_
        refine lv_goto (tgt := 83) hx hb dX10_relation_79 (by decide) ?_
        obtain ⟨rfl, rfl⟩ := some2 h
        exact x_iret C0 hP hS dX10_relation_83
    · rw [if_pos c7] at h
      refine lv_iload_n hx hb dX10_relation_65 rfl (lv_at hl 2 rfl) ?_
      refine lv_iload_n hx hb dX10_relation_66 rfl (lv_at hl 0 rfl) ?_
      refine lv_icmp_ne (tgt := 82) hx hb dX10_relation_67 (by decide) (fun c9 => ?_) (fun c9 => ?_)
      · rw [if_neg c9] at h
        refine lv_iconst (v := (0 : Int32)) hx hb dX10_relation_82 rfl ?_
        obtain ⟨rfl, rfl⟩ := some2 h
        exact x_iret C0 hP hS dX10_relation_83
      · rw [if_pos c9] at h
        refine lv_goto (tgt := 78) hx hb dX10_relation_70 (by decide) ?_
        refine lv_iconst (v := (1 : Int32)) hx hb dX10_relation_78 rfl ?_
        refine lv_goto (tgt := 83) hx hb dX10_relation_79 (by decide) ?_
        obtain ⟨rfl, rfl⟩ := some2 h
        exact x_iret C0 hP hS dX10_relation_83
  · rw [if_pos c6] at h
    refine lv_iload_n hx hb dX10_relation_51 rfl (lv_at hl 2 rfl) ?_
    refine lv_iload_n hx hb dX10_relation_52 rfl (lv_at hl 0 rfl) ?_
    refine lv_icmp_ge (tgt := 82) hx hb dX10_relation_53 (by decide) (fun c10 => ?_) (fun c10 => ?_)
    · rw [if_pos c10] at h
      refine lv_iconst (v := (0 : Int32)) hx hb dX10_relation_82 rfl ?_
      obtain ⟨rfl, rfl⟩ := some2 h
      exact x_iret C0 hP hS dX10_relation_83
    · rw [if_neg c10] at h
      refine lv_goto (tgt := 78) hx hb dX10_relation_56 (by decide) ?_
      refine lv_iconst (v := (1 : Int32)) hx hb dX10_relation_78 rfl ?_
      refine lv_goto (tgt := 83) hx hb dX10_relation_79 (by decide) ?_
      obtain ⟨rfl, rfl⟩ := some2 h
      exact x_iret C0 hP hS dX10_relation_83
def X10_relation (S : Mem → Option (Int32 × Mem))  (μ : Mem) : Option (Int32 × Mem) :=
  ob2 (X10_added S  μ) fun r1 μ1 => ob2 (X10_byteAt  μ1) fun r2 μ2 => (if r2 = (60 : Int32) then X10_relation_30 S r1 r2 μ2 else (if r2 = (61 : Int32) then X10_relation_30 S r1 r2 μ2 else (if r2 = (62 : Int32) then X10_relation_30 S r1 r2 μ2 else some (r1, μ2))))
set_option maxRecDepth 100000 in
set_option maxHeartbeats 4000000 in
theorem c_X10_relation (l : Launch) (g : Gx) (S : Mem → Option (Int32 × Mem)) {F Lo : Nat} (hS0 : ∀  (μ : Mem) (r : Int32) (ν : Mem), S  μ = some (r, ν) → Ct Lm g l yX10_single cX10_single 4 (some .int) { frames := F, cells := 0, slots := 0, locals := Lo } [.ref (g.2.2.1 + 0)] μ (some (.int r)) ν)  (μ : Mem) {r : Int32} {ν : Mem} (h : X10_relation S  μ = some (r, ν)) : Ct Lm g l yX10_relation cX10_relation 4 (some .int) { frames := F + 3, cells := 0, slots := 0, locals := Lo + 69 } [.ref (g.2.2.1 + 0)] μ (some (.int r)) ν := by
  refine x_met (lv := [(0, .ref (g.2.2.1 + 0))]) rfl (Nat.le_of_ble_eq_true rfl) rfl ?_
  intro p e s m below meth c C0 hP ls hl
  generalize ([.ref (g.2.2.1 + 0)] : List Value).toArray = args at C0 ⊢
  have C0 : Cx Lm g p s m args meth c cX10_relation 4 (some .int) RX10 := C0
  have hS : va_S (Ax Lm g) s.heap s.heap [] := va_S.rf
  obtain ⟨hx, hb, hr, hml, hown, hts, hlocks, hK⟩ := id C0
  unfold X10_relation at h
  skip
  refine lv_aload_n hx hb dX10_relation_0 rfl (lv_at hl 0 rfl) ?_
  obtain ⟨r1, μ1, h1, h⟩ := ob2_some h
  refine x_callV C0 (rest := []) (q := (RX10, TX10, 22)) (c_X10_added l g S hS0 μ h1) q5_60 q5_57 q5_59 r3_3 q1_11 hd_X10_added ⟨rfl, rfl⟩ ⟨by dsimp only; omega, by dsimp only; omega⟩ cm_0 (by decide) rfl hP hS hl.1 rfl rfl (Nat.le_of_ble_eq_true rfl) dX10_relation_1 (fun H locs hP hS => ?_)
  refine W.eq (g2 := F0 m 4 ls [.int r1]) rfl ?_
  refine lv_istore_n (lv' := [(1, .int r1), (0, .ref (g.2.2.1 + 0))]) hx hb dX10_relation_4 rfl hl (by decide) rfl (fun ls hl => ?_)
  refine lv_aload_n hx hb dX10_relation_5 rfl (lv_at hl 1 rfl) ?_
  obtain ⟨r2, μ2, h1, h⟩ := ob2_some h
  refine x_callV C0 (rest := []) (q := (RX10, TX10, 22)) (c_X10_byteAt l g μ1 h1) q5_72 q5_69 q5_71 r3_6 q1_11 hd_X10_byteAt ⟨rfl, rfl⟩ ⟨by dsimp only; omega, by dsimp only; omega⟩ cm_0 (by decide) rfl hP hS hl.1 rfl rfl (Nat.le_of_ble_eq_true rfl) dX10_relation_6 (fun H locs hP hS => ?_)
  refine W.eq (g2 := F0 m 9 ls [.int r2]) rfl ?_
  refine lv_istore_n (lv' := [(2, .int r2), (1, .int r1), (0, .ref (g.2.2.1 + 0))]) hx hb dX10_relation_9 rfl hl (by decide) rfl (fun ls hl => ?_)
  refine lv_iload_n hx hb dX10_relation_10 rfl (lv_at hl 0 rfl) ?_
  refine lv_bipush (v := (60 : Int32)) hx hb dX10_relation_11 (by decide +kernel) ?_
  refine lv_icmp_eq (tgt := 30) hx hb dX10_relation_13 (by decide) (fun c3 => ?_) (fun c3 => ?_)
  · rw [if_pos c3] at h
    exact w_X10_relation_30 C0 S hS0  r1 r2 μ2 _ _ _ hP hS (lv_sub hl [2, 1, 0] rfl) h
  · rw [if_neg c3] at h
    refine lv_iload_n hx hb dX10_relation_16 rfl (lv_at hl 0 rfl) ?_
    refine lv_bipush (v := (61 : Int32)) hx hb dX10_relation_17 (by decide +kernel) ?_
    refine lv_icmp_eq (tgt := 30) hx hb dX10_relation_19 (by decide) (fun c11 => ?_) (fun c11 => ?_)
    · rw [if_pos c11] at h
      exact w_X10_relation_30 C0 S hS0  r1 r2 μ2 _ _ _ hP hS (lv_sub hl [2, 1, 0] rfl) h
    · rw [if_neg c11] at h
      refine lv_iload_n hx hb dX10_relation_22 rfl (lv_at hl 0 rfl) ?_
      refine lv_bipush (v := (62 : Int32)) hx hb dX10_relation_23 (by decide +kernel) ?_
      refine lv_icmp_eq (tgt := 30) hx hb dX10_relation_25 (by decide) (fun c12 => ?_) (fun c12 => ?_)
      · rw [if_pos c12] at h
        exact w_X10_relation_30 C0 S hS0  r1 r2 μ2 _ _ _ hP hS (lv_sub hl [2, 1, 0] rfl) h
      · rw [if_neg c12] at h
        refine lv_iload_n hx hb dX10_relation_28 rfl (lv_at hl 1 rfl) ?_
        obtain ⟨rfl, rfl⟩ := some2 h
        exact x_iret C0 hP hS dX10_relation_29
def X10_both_32 (S : Mem → Option (Int32 × Mem)) (K5 : Int32 → Mem → Option (Int32 × Mem)) (t0 : Int32) (μ : Mem) : Option (Int32 × Mem) :=
  K5 t0 μ
set_option maxRecDepth 100000 in
set_option maxHeartbeats 4000000 in
theorem w_X10_both_32 {g : Gx} {p : Program} {l : Launch} {e : Env} {s : State} {m : MethodId} {args : Array Value} {below : List Frame} {meth : Method} {c : Code} (C0 : Cx Lm g p s m args meth c cX10_both 3 (some .int) RX10) {r : Int32} {ν : Mem} (S : Mem → Option (Int32 × Mem)) {F Lo : Nat} (hS0 : ∀  (μ : Mem) (r : Int32) (ν : Mem), S  μ = some (r, ν) → Ct Lm g l yX10_single cX10_single 4 (some .int) { frames := F, cells := 0, slots := 0, locals := Lo } [.ref (g.2.2.1 + 0)] μ (some (.int r)) ν) (K5 : Int32 → Mem → Option (Int32 × Mem)) (hK5 : ∀ (x1 : Int32) (μ : Mem) (H : Heap) (locs : List Loc) (ls : Array Slot), Px Lm g μ H → va_S (Ax Lm g) s.heap H locs → lv_has ls 3 [(0, .ref (g.2.2.1 + 0)), (1, .int x1)] → K5 x1 μ = some (r, ν) → W p l e { frames := F + 4, cells := 0, slots := 0, locals := Lo + 92 } s m args below meth c H locs 0 0 (MQ below (Qx Lm g (some (.int r)) ν) args s 0 0 (Ax Lm g)) (F0 m 5 ls [])) (t0 : Int32) (μ : Mem) (H : Heap) (locs : List Loc) (ls : Array Slot) (hP : Px Lm g μ H) (hS : va_S (Ax Lm g) s.heap H locs) (hl : lv_has ls 3 [(0, .ref (g.2.2.1 + 0))]) (h : X10_both_32 S K5 t0 μ = some (r, ν)) : W p l e { frames := F + 4, cells := 0, slots := 0, locals := Lo + 92 } s m args below meth c H locs 0 0 (MQ below (Qx Lm g (some (.int r)) ν) args s 0 0 (Ax Lm g)) (F0 m 32 ls [.int t0]) := by
  obtain ⟨hx, hb, hr, hml, hown, hts, hlocks, hK⟩ := id C0
  unfold X10_both_32 at h
  refine lv_istore_n (lv' := [(1, .int t0), (0, .ref (g.2.2.1 + 0))]) hx hb dX10_both_32 rfl hl (by decide) rfl (fun ls hl => ?_)
  refine lv_goto (tgt := 5) hx hb dX10_both_33 (by decide) ?_
  exact hK5 t0 μ _ _ _ hP hS (lv_sub hl [1, 0] rfl) h
def X10_both_31 (S : Mem → Option (Int32 × Mem)) (K5 : Int32 → Mem → Option (Int32 × Mem))  (μ : Mem) : Option (Int32 × Mem) :=
  X10_both_32 S K5 (0 : Int32) μ
set_option maxRecDepth 100000 in
set_option maxHeartbeats 4000000 in
theorem w_X10_both_31 {g : Gx} {p : Program} {l : Launch} {e : Env} {s : State} {m : MethodId} {args : Array Value} {below : List Frame} {meth : Method} {c : Code} (C0 : Cx Lm g p s m args meth c cX10_both 3 (some .int) RX10) {r : Int32} {ν : Mem} (S : Mem → Option (Int32 × Mem)) {F Lo : Nat} (hS0 : ∀  (μ : Mem) (r : Int32) (ν : Mem), S  μ = some (r, ν) → Ct Lm g l yX10_single cX10_single 4 (some .int) { frames := F, cells := 0, slots := 0, locals := Lo } [.ref (g.2.2.1 + 0)] μ (some (.int r)) ν) (K5 : Int32 → Mem → Option (Int32 × Mem)) (hK5 : ∀ (x1 : Int32) (μ : Mem) (H : Heap) (locs : List Loc) (ls : Array Slot), Px Lm g μ H → va_S (Ax Lm g) s.heap H locs → lv_has ls 3 [(0, .ref (g.2.2.1 + 0)), (1, .int x1)] → K5 x1 μ = some (r, ν) → W p l e { frames := F + 4, cells := 0, slots := 0, locals := Lo + 92 } s m args below meth c H locs 0 0 (MQ below (Qx Lm g (some (.int r)) ν) args s 0 0 (Ax Lm g)) (F0 m 5 ls []))  (μ : Mem) (H : Heap) (locs : List Loc) (ls : Array Slot) (hP : Px Lm g μ H) (hS : va_S (Ax Lm g) s.heap H locs) (hl : lv_has ls 3 [(0, .ref (g.2.2.1 + 0))]) (h : X10_both_31 S K5  μ = some (r, ν)) : W p l e { frames := F + 4, cells := 0, slots := 0, locals := Lo + 92 } s m args below meth c H locs 0 0 (MQ below (Qx Lm g (some (.int r)) ν) args s 0 0 (Ax Lm g)) (F0 m 31 ls []) := by
  obtain ⟨hx, hb, hr, hml, hown, hts, hlocks, hK⟩ := id C0
  unfold X10_both_31 at h
  refine lv_iconst (v := (0 : Int32)) hx hb dX10_both_31 rfl ?_
  exact w_X10_both_32 C0 S hS0 K5 hK5 (0 : Int32) μ _ _ _ hP hS (lv_sub hl [0] rfl) h
def X10_both_5 (S : Mem → Option (Int32 × Mem))  : Nat → Int32 → Mem → Option (Int32 × Mem)
  | 0, _, _ => none
  | n + 1, x1, μ => ob2 (X10_eats (38 : Int32) μ) fun r2 μ2 => (if r2 = (0 : Int32) then some (x1, μ2) else ob2 (X10_relation S  μ2) fun r4 μ4 => (if x1 = (0 : Int32) then X10_both_31 S (X10_both_5 S n) μ4 else (if r4 = (0 : Int32) then X10_both_31 S (X10_both_5 S n) μ4 else X10_both_32 S (X10_both_5 S n) (1 : Int32) μ4)))
set_option maxRecDepth 100000 in
set_option maxHeartbeats 4000000 in
theorem w_X10_both_5 {g : Gx} {p : Program} {l : Launch} {e : Env} {s : State} {m : MethodId} {args : Array Value} {below : List Frame} {meth : Method} {c : Code} (C0 : Cx Lm g p s m args meth c cX10_both 3 (some .int) RX10) {r : Int32} {ν : Mem} (S : Mem → Option (Int32 × Mem)) {F Lo : Nat} (hS0 : ∀  (μ : Mem) (r : Int32) (ν : Mem), S  μ = some (r, ν) → Ct Lm g l yX10_single cX10_single 4 (some .int) { frames := F, cells := 0, slots := 0, locals := Lo } [.ref (g.2.2.1 + 0)] μ (some (.int r)) ν)  (n : Nat) : ∀ (x1 : Int32) (μ : Mem) (H : Heap) (locs : List Loc) (ls : Array Slot), Px Lm g μ H → va_S (Ax Lm g) s.heap H locs → lv_has ls 3 [(0, .ref (g.2.2.1 + 0)), (1, .int x1)] → X10_both_5 S  n x1 μ = some (r, ν) → W p l e { frames := F + 4, cells := 0, slots := 0, locals := Lo + 92 } s m args below meth c H locs 0 0 (MQ below (Qx Lm g (some (.int r)) ν) args s 0 0 (Ax Lm g)) (F0 m 5 ls []) := by
  obtain ⟨hx, hb, hr, hml, hown, hts, hlocks, hK⟩ := id C0
  induction n with
  | zero =>
    intro x1 μ H locs ls hP hS hl h
    have h : (none : Option (Int32 × Mem)) = some (r, ν) := h
    cases h
  | succ n ih =>
    intro x1 μ H locs ls hP hS hl h
    rw [X10_both_5.eq_2] at h
    refine lv_aload_n hx hb dX10_both_5 rfl (lv_at hl 0 rfl) ?_
    refine lv_bipush (v := (38 : Int32)) hx hb dX10_both_6 (by decide +kernel) ?_
    obtain ⟨r2, μ2, h1, h⟩ := ob2_some h
    refine x_callV C0 (rest := []) (q := (RX10, TX10, 22)) (c_X10_eats l g (38 : Int32) μ h1) q5_76 q5_73 q5_75 r3_7 q1_11 hd_X10_eats ⟨rfl, rfl⟩ ⟨by dsimp only; omega, by dsimp only; omega⟩ cm_0 (by decide) rfl hP hS hl.1 rfl rfl (Nat.le_of_ble_eq_true rfl) dX10_both_8 (fun H locs hP hS => ?_)
    refine W.eq (g2 := F0 m 11 ls [.int r2]) rfl ?_
    refine lv_if_eq (tgt := 36) hx hb dX10_both_11 (by decide) (fun c3 => ?_) (fun c3 => ?_)
    · rw [if_pos c3] at h
      refine lv_iload_n hx hb dX10_both_36 rfl (lv_at hl 1 rfl) ?_
      obtain ⟨rfl, rfl⟩ := some2 h
      exact x_iret C0 hP hS dX10_both_37
    · rw [if_neg c3] at h
      refine lv_aload_n hx hb dX10_both_14 rfl (lv_at hl 0 rfl) ?_
      obtain ⟨r4, μ4, h1, h⟩ := ob2_some h
      refine x_callV C0 (rest := []) (q := (RX10, TX10, 22)) (c_X10_relation l g S hS0 μ2 h1) q5_56 q5_53 q5_55 r3_2 q1_11 hd_X10_relation ⟨rfl, rfl⟩ ⟨by dsimp only; omega, by dsimp only; omega⟩ cm_0 (by decide) rfl hP hS hl.1 rfl rfl (Nat.le_of_ble_eq_true rfl) dX10_both_15 (fun H locs hP hS => ?_)
      refine W.eq (g2 := F0 m 18 ls [.int r4]) rfl ?_
      refine lv_istore_n (lv' := [(2, .int r4), (0, .ref (g.2.2.1 + 0)), (1, .int x1)]) hx hb dX10_both_18 rfl hl (by decide) rfl (fun ls hl => ?_)
      refine lv_iload_n hx hb dX10_both_19 rfl (lv_at hl 2 rfl) ?_
      refine lv_if_eq (tgt := 31) hx hb dX10_both_20 (by decide) (fun c5 => ?_) (fun c5 => ?_)
      · rw [if_pos c5] at h
        exact w_X10_both_31 C0 S hS0 (X10_both_5 S  n) ih  μ4 _ _ _ hP hS (lv_sub hl [1] rfl) h
      · rw [if_neg c5] at h
        refine lv_iload_n hx hb dX10_both_23 rfl (lv_at hl 0 rfl) ?_
        refine lv_if_eq (tgt := 31) hx hb dX10_both_24 (by decide) (fun c6 => ?_) (fun c6 => ?_)
        · rw [if_pos c6] at h
          exact w_X10_both_31 C0 S hS0 (X10_both_5 S  n) ih  μ4 _ _ _ hP hS (lv_sub hl [1] rfl) h
        · rw [if_neg c6] at h
          refine lv_iconst (v := (1 : Int32)) hx hb dX10_both_27 rfl ?_
          refine lv_goto (tgt := 32) hx hb dX10_both_28 (by decide) ?_
          exact w_X10_both_32 C0 S hS0 (X10_both_5 S  n) ih (1 : Int32) μ4 _ _ _ hP hS (lv_sub hl [1] rfl) h
def X10_both (S : Mem → Option (Int32 × Mem))  (μ : Mem) : Option (Int32 × Mem) :=
  ob2 (X10_relation S  μ) fun r1 μ1 => X10_both_5 S FU r1 μ1
set_option maxRecDepth 100000 in
set_option maxHeartbeats 4000000 in
theorem c_X10_both (l : Launch) (g : Gx) (S : Mem → Option (Int32 × Mem)) {F Lo : Nat} (hS0 : ∀  (μ : Mem) (r : Int32) (ν : Mem), S  μ = some (r, ν) → Ct Lm g l yX10_single cX10_single 4 (some .int) { frames := F, cells := 0, slots := 0, locals := Lo } [.ref (g.2.2.1 + 0)] μ (some (.int r)) ν)  (μ : Mem) {r : Int32} {ν : Mem} (h : X10_both S  μ = some (r, ν)) : Ct Lm g l yX10_both cX10_both 3 (some .int) { frames := F + 4, cells := 0, slots := 0, locals := Lo + 92 } [.ref (g.2.2.1 + 0)] μ (some (.int r)) ν := by
  refine x_met (lv := [(0, .ref (g.2.2.1 + 0))]) rfl (Nat.le_of_ble_eq_true rfl) rfl ?_
  intro p e s m below meth c C0 hP ls hl
  generalize ([.ref (g.2.2.1 + 0)] : List Value).toArray = args at C0 ⊢
  have C0 : Cx Lm g p s m args meth c cX10_both 3 (some .int) RX10 := C0
  have hS : va_S (Ax Lm g) s.heap s.heap [] := va_S.rf
  obtain ⟨hx, hb, hr, hml, hown, hts, hlocks, hK⟩ := id C0
  unfold X10_both at h
  skip
  refine lv_aload_n hx hb dX10_both_0 rfl (lv_at hl 0 rfl) ?_
  obtain ⟨r1, μ1, h1, h⟩ := ob2_some h
  refine x_callV C0 (rest := []) (q := (RX10, TX10, 22)) (c_X10_relation l g S hS0 μ h1) q5_56 q5_53 q5_55 r3_2 q1_11 hd_X10_relation ⟨rfl, rfl⟩ ⟨by dsimp only; omega, by dsimp only; omega⟩ cm_0 (by decide) rfl hP hS hl.1 rfl rfl (Nat.le_of_ble_eq_true rfl) dX10_both_1 (fun H locs hP hS => ?_)
  refine W.eq (g2 := F0 m 4 ls [.int r1]) rfl ?_
  refine lv_istore_n (lv' := [(1, .int r1), (0, .ref (g.2.2.1 + 0))]) hx hb dX10_both_4 rfl hl (by decide) rfl (fun ls hl => ?_)
  exact w_X10_both_5 C0 S hS0  FU r1 μ1 _ _ _ hP hS (lv_sub hl [1, 0] rfl) h
def X10_either_32 (S : Mem → Option (Int32 × Mem)) (K5 : Int32 → Mem → Option (Int32 × Mem)) (t0 : Int32) (μ : Mem) : Option (Int32 × Mem) :=
  K5 t0 μ
set_option maxRecDepth 100000 in
set_option maxHeartbeats 4000000 in
theorem w_X10_either_32 {g : Gx} {p : Program} {l : Launch} {e : Env} {s : State} {m : MethodId} {args : Array Value} {below : List Frame} {meth : Method} {c : Code} (C0 : Cx Lm g p s m args meth c cX10_either 3 (some .int) RX10) {r : Int32} {ν : Mem} (S : Mem → Option (Int32 × Mem)) {F Lo : Nat} (hS0 : ∀  (μ : Mem) (r : Int32) (ν : Mem), S  μ = some (r, ν) → Ct Lm g l yX10_single cX10_single 4 (some .int) { frames := F, cells := 0, slots := 0, locals := Lo } [.ref (g.2.2.1 + 0)] μ (some (.int r)) ν) (K5 : Int32 → Mem → Option (Int32 × Mem)) (hK5 : ∀ (x1 : Int32) (μ : Mem) (H : Heap) (locs : List Loc) (ls : Array Slot), Px Lm g μ H → va_S (Ax Lm g) s.heap H locs → lv_has ls 3 [(0, .ref (g.2.2.1 + 0)), (1, .int x1)] → K5 x1 μ = some (r, ν) → W p l e { frames := F + 5, cells := 0, slots := 0, locals := Lo + 114 } s m args below meth c H locs 0 0 (MQ below (Qx Lm g (some (.int r)) ν) args s 0 0 (Ax Lm g)) (F0 m 5 ls [])) (t0 : Int32) (μ : Mem) (H : Heap) (locs : List Loc) (ls : Array Slot) (hP : Px Lm g μ H) (hS : va_S (Ax Lm g) s.heap H locs) (hl : lv_has ls 3 [(0, .ref (g.2.2.1 + 0))]) (h : X10_either_32 S K5 t0 μ = some (r, ν)) : W p l e { frames := F + 5, cells := 0, slots := 0, locals := Lo + 114 } s m args below meth c H locs 0 0 (MQ below (Qx Lm g (some (.int r)) ν) args s 0 0 (Ax Lm g)) (F0 m 32 ls [.int t0]) := by
  obtain ⟨hx, hb, hr, hml, hown, hts, hlocks, hK⟩ := id C0
  unfold X10_either_32 at h
  refine lv_istore_n (lv' := [(1, .int t0), (0, .ref (g.2.2.1 + 0))]) hx hb dX10_either_32 rfl hl (by decide) rfl (fun ls hl => ?_)
  refine lv_goto (tgt := 5) hx hb dX10_either_33 (by decide) ?_
  exact hK5 t0 μ _ _ _ hP hS (lv_sub hl [1, 0] rfl) h
def X10_either_27 (S : Mem → Option (Int32 × Mem)) (K5 : Int32 → Mem → Option (Int32 × Mem))  (μ : Mem) : Option (Int32 × Mem) :=
  X10_either_32 S K5 (1 : Int32) μ
set_option maxRecDepth 100000 in
set_option maxHeartbeats 4000000 in
theorem w_X10_either_27 {g : Gx} {p : Program} {l : Launch} {e : Env} {s : State} {m : MethodId} {args : Array Value} {below : List Frame} {meth : Method} {c : Code} (C0 : Cx Lm g p s m args meth c cX10_either 3 (some .int) RX10) {r : Int32} {ν : Mem} (S : Mem → Option (Int32 × Mem)) {F Lo : Nat} (hS0 : ∀  (μ : Mem) (r : Int32) (ν : Mem), S  μ = some (r, ν) → Ct Lm g l yX10_single cX10_single 4 (some .int) { frames := F, cells := 0, slots := 0, locals := Lo } [.ref (g.2.2.1 + 0)] μ (some (.int r)) ν) (K5 : Int32 → Mem → Option (Int32 × Mem)) (hK5 : ∀ (x1 : Int32) (μ : Mem) (H : Heap) (locs : List Loc) (ls : Array Slot), Px Lm g μ H → va_S (Ax Lm g) s.heap H locs → lv_has ls 3 [(0, .ref (g.2.2.1 + 0)), (1, .int x1)] → K5 x1 μ = some (r, ν) → W p l e { frames := F + 5, cells := 0, slots := 0, locals := Lo + 114 } s m args below meth c H locs 0 0 (MQ below (Qx Lm g (some (.int r)) ν) args s 0 0 (Ax Lm g)) (F0 m 5 ls []))  (μ : Mem) (H : Heap) (locs : List Loc) (ls : Array Slot) (hP : Px Lm g μ H) (hS : va_S (Ax Lm g) s.heap H locs) (hl : lv_has ls 3 [(0, .ref (g.2.2.1 + 0))]) (h : X10_either_27 S K5  μ = some (r, ν)) : W p l e { frames := F + 5, cells := 0, slots := 0, locals := Lo + 114 } s m args below meth c H locs 0 0 (MQ below (Qx Lm g (some (.int r)) ν) args s 0 0 (Ax Lm g)) (F0 m 27 ls []) := by
  obtain ⟨hx, hb, hr, hml, hown, hts, hlocks, hK⟩ := id C0
  unfold X10_either_27 at h
  refine lv_iconst (v := (1 : Int32)) hx hb dX10_either_27 rfl ?_
  refine lv_goto (tgt := 32) hx hb dX10_either_28 (by decide) ?_
  exact w_X10_either_32 C0 S hS0 K5 hK5 (1 : Int32) μ _ _ _ hP hS (lv_sub hl [0] rfl) h
def X10_either_5 (S : Mem → Option (Int32 × Mem))  : Nat → Int32 → Mem → Option (Int32 × Mem)
  | 0, _, _ => none
  | n + 1, x1, μ => ob2 (X10_eats (124 : Int32) μ) fun r2 μ2 => (if r2 = (0 : Int32) then some (x1, μ2) else ob2 (X10_both S  μ2) fun r4 μ4 => (if x1 = (0 : Int32) then (if r4 = (0 : Int32) then X10_either_32 S (X10_either_5 S n) (0 : Int32) μ4 else X10_either_27 S (X10_either_5 S n) μ4) else X10_either_27 S (X10_either_5 S n) μ4))
set_option maxRecDepth 100000 in
set_option maxHeartbeats 4000000 in
theorem w_X10_either_5 {g : Gx} {p : Program} {l : Launch} {e : Env} {s : State} {m : MethodId} {args : Array Value} {below : List Frame} {meth : Method} {c : Code} (C0 : Cx Lm g p s m args meth c cX10_either 3 (some .int) RX10) {r : Int32} {ν : Mem} (S : Mem → Option (Int32 × Mem)) {F Lo : Nat} (hS0 : ∀  (μ : Mem) (r : Int32) (ν : Mem), S  μ = some (r, ν) → Ct Lm g l yX10_single cX10_single 4 (some .int) { frames := F, cells := 0, slots := 0, locals := Lo } [.ref (g.2.2.1 + 0)] μ (some (.int r)) ν)  (n : Nat) : ∀ (x1 : Int32) (μ : Mem) (H : Heap) (locs : List Loc) (ls : Array Slot), Px Lm g μ H → va_S (Ax Lm g) s.heap H locs → lv_has ls 3 [(0, .ref (g.2.2.1 + 0)), (1, .int x1)] → X10_either_5 S  n x1 μ = some (r, ν) → W p l e { frames := F + 5, cells := 0, slots := 0, locals := Lo + 114 } s m args below meth c H locs 0 0 (MQ below (Qx Lm g (some (.int r)) ν) args s 0 0 (Ax Lm g)) (F0 m 5 ls []) := by
  obtain ⟨hx, hb, hr, hml, hown, hts, hlocks, hK⟩ := id C0
  induction n with
  | zero =>
    intro x1 μ H locs ls hP hS hl h
    have h : (none : Option (Int32 × Mem)) = some (r, ν) := h
    cases h
  | succ n ih =>
    intro x1 μ H locs ls hP hS hl h
    rw [X10_either_5.eq_2] at h
    refine lv_aload_n hx hb dX10_either_5 rfl (lv_at hl 0 rfl) ?_
    refine lv_bipush (v := (124 : Int32)) hx hb dX10_either_6 (by decide +kernel) ?_
    obtain ⟨r2, μ2, h1, h⟩ := ob2_some h
    refine x_callV C0 (rest := []) (q := (RX10, TX10, 22)) (c_X10_eats l g (124 : Int32) μ h1) q5_76 q5_73 q5_75 r3_7 q1_11 hd_X10_eats ⟨rfl, rfl⟩ ⟨by dsimp only; omega, by dsimp only; omega⟩ cm_0 (by decide) rfl hP hS hl.1 rfl rfl (Nat.le_of_ble_eq_true rfl) dX10_either_8 (fun H locs hP hS => ?_)
    refine W.eq (g2 := F0 m 11 ls [.int r2]) rfl ?_
    refine lv_if_eq (tgt := 36) hx hb dX10_either_11 (by decide) (fun c3 => ?_) (fun c3 => ?_)
    · rw [if_pos c3] at h
      refine lv_iload_n hx hb dX10_either_36 rfl (lv_at hl 1 rfl) ?_
      obtain ⟨rfl, rfl⟩ := some2 h
      exact x_iret C0 hP hS dX10_either_37
    · rw [if_neg c3] at h
      refine lv_aload_n hx hb dX10_either_14 rfl (lv_at hl 0 rfl) ?_
      obtain ⟨r4, μ4, h1, h⟩ := ob2_some h
      refine x_callV C0 (rest := []) (q := (RX10, TX10, 22)) (c_X10_both l g S hS0 μ2 h1) q5_52 q5_49 q5_51 r3_1 q1_11 hd_X10_both ⟨rfl, rfl⟩ ⟨by dsimp only; omega, by dsimp only; omega⟩ cm_0 (by decide) rfl hP hS hl.1 rfl rfl (Nat.le_of_ble_eq_true rfl) dX10_either_15 (fun H locs hP hS => ?_)
      refine W.eq (g2 := F0 m 18 ls [.int r4]) rfl ?_
      refine lv_istore_n (lv' := [(2, .int r4), (0, .ref (g.2.2.1 + 0)), (1, .int x1)]) hx hb dX10_either_18 rfl hl (by decide) rfl (fun ls hl => ?_)
      refine lv_iload_n hx hb dX10_either_19 rfl (lv_at hl 2 rfl) ?_
      refine lv_if_ne (tgt := 27) hx hb dX10_either_20 (by decide) (fun c5 => ?_) (fun c5 => ?_)
      · rw [if_neg c5] at h
        exact w_X10_either_27 C0 S hS0 (X10_either_5 S  n) ih  μ4 _ _ _ hP hS (lv_sub hl [1] rfl) h
      · rw [if_pos c5] at h
        refine lv_iload_n hx hb dX10_either_23 rfl (lv_at hl 0 rfl) ?_
        refine lv_if_eq (tgt := 31) hx hb dX10_either_24 (by decide) (fun c6 => ?_) (fun c6 => ?_)
        · rw [if_pos c6] at h
          refine lv_iconst (v := (0 : Int32)) hx hb dX10_either_31 rfl ?_
          exact w_X10_either_32 C0 S hS0 (X10_either_5 S  n) ih (0 : Int32) μ4 _ _ _ hP hS (lv_sub hl [1] rfl) h
        · rw [if_neg c6] at h
          exact w_X10_either_27 C0 S hS0 (X10_either_5 S  n) ih  μ4 _ _ _ hP hS (lv_sub hl [1] rfl) h
def X10_either (S : Mem → Option (Int32 × Mem))  (μ : Mem) : Option (Int32 × Mem) :=
  ob2 (X10_both S  μ) fun r1 μ1 => X10_either_5 S FU r1 μ1
set_option maxRecDepth 100000 in
set_option maxHeartbeats 4000000 in
theorem c_X10_either (l : Launch) (g : Gx) (S : Mem → Option (Int32 × Mem)) {F Lo : Nat} (hS0 : ∀  (μ : Mem) (r : Int32) (ν : Mem), S  μ = some (r, ν) → Ct Lm g l yX10_single cX10_single 4 (some .int) { frames := F, cells := 0, slots := 0, locals := Lo } [.ref (g.2.2.1 + 0)] μ (some (.int r)) ν)  (μ : Mem) {r : Int32} {ν : Mem} (h : X10_either S  μ = some (r, ν)) : Ct Lm g l yX10_either cX10_either 3 (some .int) { frames := F + 5, cells := 0, slots := 0, locals := Lo + 114 } [.ref (g.2.2.1 + 0)] μ (some (.int r)) ν := by
  refine x_met (lv := [(0, .ref (g.2.2.1 + 0))]) rfl (Nat.le_of_ble_eq_true rfl) rfl ?_
  intro p e s m below meth c C0 hP ls hl
  generalize ([.ref (g.2.2.1 + 0)] : List Value).toArray = args at C0 ⊢
  have C0 : Cx Lm g p s m args meth c cX10_either 3 (some .int) RX10 := C0
  have hS : va_S (Ax Lm g) s.heap s.heap [] := va_S.rf
  obtain ⟨hx, hb, hr, hml, hown, hts, hlocks, hK⟩ := id C0
  unfold X10_either at h
  skip
  refine lv_aload_n hx hb dX10_either_0 rfl (lv_at hl 0 rfl) ?_
  obtain ⟨r1, μ1, h1, h⟩ := ob2_some h
  refine x_callV C0 (rest := []) (q := (RX10, TX10, 22)) (c_X10_both l g S hS0 μ h1) q5_52 q5_49 q5_51 r3_1 q1_11 hd_X10_both ⟨rfl, rfl⟩ ⟨by dsimp only; omega, by dsimp only; omega⟩ cm_0 (by decide) rfl hP hS hl.1 rfl rfl (Nat.le_of_ble_eq_true rfl) dX10_either_1 (fun H locs hP hS => ?_)
  refine W.eq (g2 := F0 m 4 ls [.int r1]) rfl ?_
  refine lv_istore_n (lv' := [(1, .int r1), (0, .ref (g.2.2.1 + 0))]) hx hb dX10_either_4 rfl hl (by decide) rfl (fun ls hl => ?_)
  exact w_X10_either_5 C0 S hS0  FU r1 μ1 _ _ _ hP hS (lv_sub hl [1, 0] rfl) h
