def X10_meter_16   (μ : Mem) : Option (Int32 × Mem) :=
  ob2 (X10_finding (1 : Int32) μ) fun r3 μ3 => some (r3, μ3)
set_option maxRecDepth 100000 in
set_option maxHeartbeats 4000000 in
theorem w_X10_meter_16 {g : Gx} {p : Program} {l : Launch} {e : Env} {s : State} {m : MethodId} {args : Array Value} {below : List Frame} {meth : Method} {c : Code} (C0 : Cx Lm g p s m args meth c cX10_meter 5 (some .int) RX10) {r : Int32} {ν : Mem}   (μ : Mem) (H : Heap) (locs : List Loc) (ls : Array Slot) (hP : Px Lm g μ H) (hS : va_S (Ax Lm g) s.heap H locs) (hl : lv_has ls 5 [(0, .ref (g.2.2.1 + 0))]) (h : X10_meter_16   μ = some (r, ν)) : W p l e { frames := 1, cells := 0, slots := 0, locals := 24 } s m args below meth c H locs 0 0 (MQ below (Qx Lm g (some (.int r)) ν) args s 0 0 (Ax Lm g)) (F0 m 16 ls []) := by
  obtain ⟨hx, hb, hr, hml, hown, hts, hlocks, hK⟩ := id C0
  unfold X10_meter_16 at h
  refine lv_aload_n hx hb dX10_meter_16 rfl (lv_at hl 0 rfl) ?_
  refine lv_iconst (v := (1 : Int32)) hx hb dX10_meter_17 rfl ?_
  obtain ⟨r3, μ3, h1, h⟩ := ob2_some h
  refine x_callV C0 (rest := []) (q := (RX10, TX10, 22)) (c_X10_finding l g (1 : Int32) μ h1) q4_214 q4_211 q4_213 r2_5 q1_11 hd_X10_finding ⟨rfl, rfl⟩ ⟨Nat.le_of_ble_eq_true rfl, Nat.le_of_ble_eq_true rfl⟩ cm_0 (by decide) rfl hP hS hl.1 rfl rfl (Nat.le_of_ble_eq_true rfl) dX10_meter_18 (fun H locs hP hS => ?_)
  refine W.eq (g2 := F0 m 21 ls [.int r3]) rfl ?_
  obtain ⟨rfl, rfl⟩ := some2 h
  exact x_iret C0 hP hS dX10_meter_21
def X10_meter_79 (K49 : Int32 → Int32 → Int32 → Int32 → Mem → Option (Int32 × Mem)) (x1 : Int32) (x2 : Int32) (x3 : Int32) (x4 : Int32) (t1 : Int32) (t2 : Int32) (t3 : Int32) (μ : Mem) : Option (Int32 × Mem) :=
  ob (X10_set t1 t2 t3 μ) fun μ16 => K49 x1 x2 x3 (x4 + (1 : Int32)) μ16
set_option maxRecDepth 100000 in
set_option maxHeartbeats 4000000 in
theorem w_X10_meter_79 {g : Gx} {p : Program} {l : Launch} {e : Env} {s : State} {m : MethodId} {args : Array Value} {below : List Frame} {meth : Method} {c : Code} (C0 : Cx Lm g p s m args meth c cX10_meter 5 (some .int) RX10) {r : Int32} {ν : Mem} (K49 : Int32 → Int32 → Int32 → Int32 → Mem → Option (Int32 × Mem)) (hK49 : ∀ (x1 : Int32) (x2 : Int32) (x3 : Int32) (x4 : Int32) (μ : Mem) (H : Heap) (locs : List Loc) (ls : Array Slot), Px Lm g μ H → va_S (Ax Lm g) s.heap H locs → lv_has ls 5 [(0, .ref (g.2.2.1 + 0)), (1, .int x1), (2, .int x2), (3, .int x3), (4, .int x4)] → K49 x1 x2 x3 x4 μ = some (r, ν) → W p l e { frames := 1, cells := 0, slots := 0, locals := 24 } s m args below meth c H locs 0 0 (MQ below (Qx Lm g (some (.int r)) ν) args s 0 0 (Ax Lm g)) (F0 m 49 ls [])) (x1 : Int32) (x2 : Int32) (x3 : Int32) (x4 : Int32) (t1 : Int32) (t2 : Int32) (t3 : Int32) (μ : Mem) (H : Heap) (locs : List Loc) (ls : Array Slot) (hP : Px Lm g μ H) (hS : va_S (Ax Lm g) s.heap H locs) (hl : lv_has ls 5 [(0, .ref (g.2.2.1 + 0)), (1, .int x1), (2, .int x2), (3, .int x3), (4, .int x4)]) (h : X10_meter_79 K49 x1 x2 x3 x4 t1 t2 t3 μ = some (r, ν)) : W p l e { frames := 1, cells := 0, slots := 0, locals := 24 } s m args below meth c H locs 0 0 (MQ below (Qx Lm g (some (.int r)) ν) args s 0 0 (Ax Lm g)) (F0 m 79 ls [.int t3, .int t2, .int t1, .ref (g.2.2.1 + 0)]) := by
  obtain ⟨hx, hb, hr, hml, hown, hts, hlocks, hK⟩ := id C0
  unfold X10_meter_79 at h
  obtain ⟨μ16, h1, h⟩ := ob_some h
  refine x_callV C0 (rest := []) (q := (RX10, TX10, 22)) (c_X10_set l g t1 t2 t3 μ h1) q4_219 q4_216 q4_218 r2_6 q1_11 hd_X10_set ⟨rfl, rfl⟩ ⟨Nat.le_of_ble_eq_true rfl, Nat.le_of_ble_eq_true rfl⟩ cm_0 (by decide) rfl hP hS hl.1 rfl rfl (Nat.le_of_ble_eq_true rfl) dX10_meter_79 (fun H locs hP hS => ?_)
  refine W.eq (g2 := F0 m 82 ls []) rfl ?_
  refine lv_iinc (v := (x4 + (1 : Int32))) (lv' := [(4, .int (x4 + (1 : Int32))), (0, .ref (g.2.2.1 + 0)), (1, .int x1), (2, .int x2), (3, .int x3)]) hx hb dX10_meter_82 hl (k := 4) rfl rfl (by decide) rfl (fun ls hl => ?_)
  refine lv_goto (tgt := 49) hx hb dX10_meter_85 (by decide) ?_
  exact hK49 x1 x2 x3 (x4 + (1 : Int32)) μ16 _ _ _ hP hS (lv_sub hl [1, 2, 3, 4, 0] rfl) h
def X10_meter_78 (K49 : Int32 → Int32 → Int32 → Int32 → Mem → Option (Int32 × Mem)) (x1 : Int32) (x2 : Int32) (x3 : Int32) (x4 : Int32) (t1 : Int32) (t2 : Int32) (μ : Mem) : Option (Int32 × Mem) :=
  X10_meter_79 K49 x1 x2 x3 x4 t1 t2 (0 : Int32) μ
set_option maxRecDepth 100000 in
set_option maxHeartbeats 4000000 in
theorem w_X10_meter_78 {g : Gx} {p : Program} {l : Launch} {e : Env} {s : State} {m : MethodId} {args : Array Value} {below : List Frame} {meth : Method} {c : Code} (C0 : Cx Lm g p s m args meth c cX10_meter 5 (some .int) RX10) {r : Int32} {ν : Mem} (K49 : Int32 → Int32 → Int32 → Int32 → Mem → Option (Int32 × Mem)) (hK49 : ∀ (x1 : Int32) (x2 : Int32) (x3 : Int32) (x4 : Int32) (μ : Mem) (H : Heap) (locs : List Loc) (ls : Array Slot), Px Lm g μ H → va_S (Ax Lm g) s.heap H locs → lv_has ls 5 [(0, .ref (g.2.2.1 + 0)), (1, .int x1), (2, .int x2), (3, .int x3), (4, .int x4)] → K49 x1 x2 x3 x4 μ = some (r, ν) → W p l e { frames := 1, cells := 0, slots := 0, locals := 24 } s m args below meth c H locs 0 0 (MQ below (Qx Lm g (some (.int r)) ν) args s 0 0 (Ax Lm g)) (F0 m 49 ls [])) (x1 : Int32) (x2 : Int32) (x3 : Int32) (x4 : Int32) (t1 : Int32) (t2 : Int32) (μ : Mem) (H : Heap) (locs : List Loc) (ls : Array Slot) (hP : Px Lm g μ H) (hS : va_S (Ax Lm g) s.heap H locs) (hl : lv_has ls 5 [(0, .ref (g.2.2.1 + 0)), (1, .int x1), (2, .int x2), (3, .int x3), (4, .int x4)]) (h : X10_meter_78 K49 x1 x2 x3 x4 t1 t2 μ = some (r, ν)) : W p l e { frames := 1, cells := 0, slots := 0, locals := 24 } s m args below meth c H locs 0 0 (MQ below (Qx Lm g (some (.int r)) ν) args s 0 0 (Ax Lm g)) (F0 m 78 ls [.int t2, .int t1, .ref (g.2.2.1 + 0)]) := by
  obtain ⟨hx, hb, hr, hml, hown, hts, hlocks, hK⟩ := id C0
  unfold X10_meter_78 at h
  refine lv_iconst (v := (0 : Int32)) hx hb dX10_meter_78 rfl ?_
  exact w_X10_meter_79 C0 K49 hK49 x1 x2 x3 x4 t1 t2 (0 : Int32) μ _ _ _ hP hS (lv_sub hl [0, 1, 2, 3, 4] rfl) h
def X10_meter_49  : Nat → Int32 → Int32 → Int32 → Int32 → Mem → Option (Int32 × Mem)
  | 0, _, _, _, _, _ => none
  | n + 1, x1, x2, x3, x4, μ => (if (40 : Int32) ≤ x4 then ob (X10_set x3 (0 : Int32) x1 μ) fun μ8 => ob (X10_set x3 (1 : Int32) (x2 / (100 : Int32)) μ8) fun μ9 => ob (X10_set x3 (2 : Int32) (x2 - x2 / (100 : Int32) * (100 : Int32)) μ9) fun μ10 => ob (X10_set x3 (6 : Int32) (1 : Int32) μ10) fun μ11 => ob2 (X10_forceIn (0 : Int32) (μ11 1 0) μ11) fun r12 μ12 => ob (X10_set x3 (12 : Int32) r12 μ12) fun μ13 => lt (st μ13 1 1 ((μ13 1 1) + (1 : Int32))) fun μ14 => some (x3, μ14) else (if x4 < (13 : Int32) then X10_meter_78 (X10_meter_49 n) x1 x2 x3 x4 x3 x4 μ else (if (37 : Int32) ≤ x4 then X10_meter_78 (X10_meter_49 n) x1 x2 x3 x4 x3 x4 μ else X10_meter_79 (X10_meter_49 n) x1 x2 x3 x4 x3 x4 (1 : Int32) μ)))
set_option maxRecDepth 100000 in
set_option maxHeartbeats 4000000 in
theorem w_X10_meter_49 {g : Gx} {p : Program} {l : Launch} {e : Env} {s : State} {m : MethodId} {args : Array Value} {below : List Frame} {meth : Method} {c : Code} (C0 : Cx Lm g p s m args meth c cX10_meter 5 (some .int) RX10) {r : Int32} {ν : Mem}  (n : Nat) : ∀ (x1 : Int32) (x2 : Int32) (x3 : Int32) (x4 : Int32) (μ : Mem) (H : Heap) (locs : List Loc) (ls : Array Slot), Px Lm g μ H → va_S (Ax Lm g) s.heap H locs → lv_has ls 5 [(0, .ref (g.2.2.1 + 0)), (1, .int x1), (2, .int x2), (3, .int x3), (4, .int x4)] → X10_meter_49  n x1 x2 x3 x4 μ = some (r, ν) → W p l e { frames := 1, cells := 0, slots := 0, locals := 24 } s m args below meth c H locs 0 0 (MQ below (Qx Lm g (some (.int r)) ν) args s 0 0 (Ax Lm g)) (F0 m 49 ls []) := by
  obtain ⟨hx, hb, hr, hml, hown, hts, hlocks, hK⟩ := id C0
  induction n with
  | zero =>
    intro x1 x2 x3 x4 μ H locs ls hP hS hl h
    have h : (none : Option (Int32 × Mem)) = some (r, ν) := h
    cases h
  | succ n ih =>
    intro x1 x2 x3 x4 μ H locs ls hP hS hl h
    rw [X10_meter_49.eq_2] at h
    refine lv_iload hx hb dX10_meter_49 (lv_at hl 4 rfl) ?_
    refine lv_bipush (v := (40 : Int32)) hx hb dX10_meter_51 (by decide +kernel) ?_
    refine lv_icmp_ge (tgt := 88) hx hb dX10_meter_53 (by decide) (fun c7 => ?_) (fun c7 => ?_)
    · rw [if_pos c7] at h
      refine lv_aload_n hx hb dX10_meter_88 rfl (lv_at hl 0 rfl) ?_
      refine lv_iload_n hx hb dX10_meter_89 rfl (lv_at hl 3 rfl) ?_
      refine lv_iconst (v := (0 : Int32)) hx hb dX10_meter_90 rfl ?_
      refine lv_iload_n hx hb dX10_meter_91 rfl (lv_at hl 1 rfl) ?_
      obtain ⟨μ8, h1, h⟩ := ob_some h
      refine x_callV C0 (rest := []) (q := (RX10, TX10, 22)) (c_X10_set l g x3 (0 : Int32) x1 μ h1) q4_219 q4_216 q4_218 r2_6 q1_11 hd_X10_set ⟨rfl, rfl⟩ ⟨Nat.le_of_ble_eq_true rfl, Nat.le_of_ble_eq_true rfl⟩ cm_0 (by decide) rfl hP hS hl.1 rfl rfl (Nat.le_of_ble_eq_true rfl) dX10_meter_92 (fun H locs hP hS => ?_)
      refine W.eq (g2 := F0 m 95 ls []) rfl ?_
      refine lv_aload_n hx hb dX10_meter_95 rfl (lv_at hl 0 rfl) ?_
      refine lv_iload_n hx hb dX10_meter_96 rfl (lv_at hl 3 rfl) ?_
      refine lv_iconst (v := (1 : Int32)) hx hb dX10_meter_97 rfl ?_
      refine lv_iload_n hx hb dX10_meter_98 rfl (lv_at hl 2 rfl) ?_
      refine lv_bipush (v := (100 : Int32)) hx hb dX10_meter_99 (by decide +kernel) ?_
      refine lv_idiv hx hb dX10_meter_101 (by decide) ?_
      obtain ⟨μ9, h1, h⟩ := ob_some h
      refine x_callV C0 (rest := []) (q := (RX10, TX10, 22)) (c_X10_set l g x3 (1 : Int32) (x2 / (100 : Int32)) μ8 h1) q4_219 q4_216 q4_218 r2_6 q1_11 hd_X10_set ⟨rfl, rfl⟩ ⟨Nat.le_of_ble_eq_true rfl, Nat.le_of_ble_eq_true rfl⟩ cm_0 (by decide) rfl hP hS hl.1 rfl rfl (Nat.le_of_ble_eq_true rfl) dX10_meter_102 (fun H locs hP hS => ?_)
      refine W.eq (g2 := F0 m 105 ls []) rfl ?_
      refine lv_aload_n hx hb dX10_meter_105 rfl (lv_at hl 0 rfl) ?_
      refine lv_iload_n hx hb dX10_meter_106 rfl (lv_at hl 3 rfl) ?_
      refine lv_iconst (v := (2 : Int32)) hx hb dX10_meter_107 rfl ?_
      refine lv_iload_n hx hb dX10_meter_108 rfl (lv_at hl 2 rfl) ?_
      refine lv_bipush (v := (100 : Int32)) hx hb dX10_meter_109 (by decide +kernel) ?_
      refine lv_irem hx hb dX10_meter_111 (by decide) ?_
      obtain ⟨μ10, h1, h⟩ := ob_some h
      refine x_callV C0 (rest := []) (q := (RX10, TX10, 22)) (c_X10_set l g x3 (2 : Int32) (x2 - x2 / (100 : Int32) * (100 : Int32)) μ9 h1) q4_219 q4_216 q4_218 r2_6 q1_11 hd_X10_set ⟨rfl, rfl⟩ ⟨Nat.le_of_ble_eq_true rfl, Nat.le_of_ble_eq_true rfl⟩ cm_0 (by decide) rfl hP hS hl.1 rfl rfl (Nat.le_of_ble_eq_true rfl) dX10_meter_112 (fun H locs hP hS => ?_)
      refine W.eq (g2 := F0 m 115 ls []) rfl ?_
      refine lv_aload_n hx hb dX10_meter_115 rfl (lv_at hl 0 rfl) ?_
      refine lv_iload_n hx hb dX10_meter_116 rfl (lv_at hl 3 rfl) ?_
      refine lv_bipush (v := (6 : Int32)) hx hb dX10_meter_117 (by decide +kernel) ?_
      refine lv_iconst (v := (1 : Int32)) hx hb dX10_meter_119 rfl ?_
      obtain ⟨μ11, h1, h⟩ := ob_some h
      refine x_callV C0 (rest := []) (q := (RX10, TX10, 22)) (c_X10_set l g x3 (6 : Int32) (1 : Int32) μ10 h1) q4_219 q4_216 q4_218 r2_6 q1_11 hd_X10_set ⟨rfl, rfl⟩ ⟨Nat.le_of_ble_eq_true rfl, Nat.le_of_ble_eq_true rfl⟩ cm_0 (by decide) rfl hP hS hl.1 rfl rfl (Nat.le_of_ble_eq_true rfl) dX10_meter_120 (fun H locs hP hS => ?_)
      refine W.eq (g2 := F0 m 123 ls []) rfl ?_
      refine lv_aload_n hx hb dX10_meter_123 rfl (lv_at hl 0 rfl) ?_
      refine lv_iload_n hx hb dX10_meter_124 rfl (lv_at hl 3 rfl) ?_
      refine lv_bipush (v := (12 : Int32)) hx hb dX10_meter_125 (by decide +kernel) ?_
      refine lv_aload_n hx hb dX10_meter_127 rfl (lv_at hl 0 rfl) ?_
      refine lv_iconst (v := (0 : Int32)) hx hb dX10_meter_128 rfl ?_
      refine lv_aload_n hx hb dX10_meter_129 rfl (lv_at hl 0 rfl) ?_
      refine x_get C0 hP inu10 (k := 0) cm_0 (by decide) rfl 0 (by decide) q4_134 rfl (v := .ref (g.2.2.1 + 1)) rfl dX10_meter_130 ?_
      refine lv_iconst (v := (0 : Int32)) hx hb dX10_meter_133 rfl ?_
      refine x_iald C0 hP (k := 1) cm_1 (j := 0) (by decide) rfl dX10_meter_134 ?_
      obtain ⟨r12, μ12, h1, h⟩ := ob2_some h
      refine x_callV C0 (rest := [.int (12 : Int32), .int x3, .ref (g.2.2.1 + 0)]) (q := (RX10, TX10, 22)) (c_X10_forceIn l g (0 : Int32) (μ11 1 0) μ11 h1) q4_223 q4_220 q4_222 r2_7 q1_11 hd_X10_forceIn ⟨rfl, rfl⟩ ⟨Nat.le_of_ble_eq_true rfl, Nat.le_of_ble_eq_true rfl⟩ cm_0 (by decide) rfl hP hS hl.1 rfl rfl (Nat.le_of_ble_eq_true rfl) dX10_meter_135 (fun H locs hP hS => ?_)
      refine W.eq (g2 := F0 m 138 ls [.int r12, .int (12 : Int32), .int x3, .ref (g.2.2.1 + 0)]) rfl ?_
      obtain ⟨μ13, h1, h⟩ := ob_some h
      refine x_callV C0 (rest := []) (q := (RX10, TX10, 22)) (c_X10_set l g x3 (12 : Int32) r12 μ12 h1) q4_219 q4_216 q4_218 r2_6 q1_11 hd_X10_set ⟨rfl, rfl⟩ ⟨Nat.le_of_ble_eq_true rfl, Nat.le_of_ble_eq_true rfl⟩ cm_0 (by decide) rfl hP hS hl.1 rfl rfl (Nat.le_of_ble_eq_true rfl) dX10_meter_138 (fun H locs hP hS => ?_)
      refine W.eq (g2 := F0 m 141 ls []) rfl ?_
      refine lv_aload_n hx hb dX10_meter_141 rfl (lv_at hl 0 rfl) ?_
      refine x_get C0 hP inu10 (k := 0) cm_0 (by decide) rfl 0 (by decide) q4_134 rfl (v := .ref (g.2.2.1 + 1)) rfl dX10_meter_142 ?_
      refine lv_iconst (v := (1 : Int32)) hx hb dX10_meter_145 rfl ?_
      refine lv_dup2_11 hx hb dX10_meter_146 rfl rfl ?_
      refine x_iald C0 hP (k := 1) cm_1 (j := 1) (by decide) rfl dX10_meter_147 ?_
      refine lv_iconst (v := (1 : Int32)) hx hb dX10_meter_148 rfl ?_
      refine lv_iadd hx hb dX10_meter_149 ?_
      obtain ⟨μ14, e14, h⟩ := lt_some h
      refine x_iast C0 hP hS (k := 1) cm_1 (j := 1) (by decide) rfl dX10_meter_150 (fun H locs hP hS => ?_)
      rw [← e14] at hP
      refine lv_iload_n hx hb dX10_meter_151 rfl (lv_at hl 3 rfl) ?_
      obtain ⟨rfl, rfl⟩ := some2 h
      exact x_iret C0 hP hS dX10_meter_152
    · rw [if_neg c7] at h
      refine lv_aload_n hx hb dX10_meter_56 rfl (lv_at hl 0 rfl) ?_
      refine lv_iload_n hx hb dX10_meter_57 rfl (lv_at hl 3 rfl) ?_
      refine lv_iload hx hb dX10_meter_58 (lv_at hl 4 rfl) ?_
      refine lv_iload hx hb dX10_meter_60 (lv_at hl 4 rfl) ?_
      refine lv_bipush (v := (13 : Int32)) hx hb dX10_meter_62 (by decide +kernel) ?_
      refine lv_icmp_lt (tgt := 78) hx hb dX10_meter_64 (by decide) (fun c15 => ?_) (fun c15 => ?_)
      · rw [if_pos c15] at h
        exact w_X10_meter_78 C0 (X10_meter_49  n) ih x1 x2 x3 x4 x3 x4 μ _ _ _ hP hS (lv_sub hl [0, 1, 2, 3, 4] rfl) h
      · rw [if_neg c15] at h
        refine lv_iload hx hb dX10_meter_67 (lv_at hl 4 rfl) ?_
        refine lv_bipush (v := (37 : Int32)) hx hb dX10_meter_69 (by decide +kernel) ?_
        refine lv_icmp_ge (tgt := 78) hx hb dX10_meter_71 (by decide) (fun c17 => ?_) (fun c17 => ?_)
        · rw [if_pos c17] at h
          exact w_X10_meter_78 C0 (X10_meter_49  n) ih x1 x2 x3 x4 x3 x4 μ _ _ _ hP hS (lv_sub hl [0, 1, 2, 3, 4] rfl) h
        · rw [if_neg c17] at h
          refine lv_iconst (v := (1 : Int32)) hx hb dX10_meter_74 rfl ?_
          refine lv_goto (tgt := 79) hx hb dX10_meter_75 (by decide) ?_
          exact w_X10_meter_79 C0 (X10_meter_49  n) ih x1 x2 x3 x4 x3 x4 (1 : Int32) μ _ _ _ hP hS (lv_sub hl [0, 1, 2, 3, 4] rfl) h
def X10_meter (x1 : Int32) (x2 : Int32) (μ : Mem) : Option (Int32 × Mem) :=
  ob2 (X10_in x1 (0 : Int32) (5 : Int32) μ) fun r1 μ1 => (if r1 = (0 : Int32) then X10_meter_16 μ1 else ob2 (X10_isPlace x2 μ1) fun r4 μ4 => (if r4 = (0 : Int32) then X10_meter_16 μ4 else (if (μ4 1 1) = (8 : Int32) then ob2 (X10_finding (4 : Int32) μ4) fun r18 μ18 => some (r18, μ18) else X10_meter_49 FU x1 x2 (μ4 1 1) (0 : Int32) μ4)))
set_option maxRecDepth 100000 in
set_option maxHeartbeats 4000000 in
theorem c_X10_meter (l : Launch) (g : Gx) (x1 : Int32) (x2 : Int32) (μ : Mem) {r : Int32} {ν : Mem} (h : X10_meter x1 x2 μ = some (r, ν)) : Ct Lm g l yX10_meter cX10_meter 5 (some .int) { frames := 1, cells := 0, slots := 0, locals := 24 } [.ref (g.2.2.1 + 0), .int x1, .int x2] μ (some (.int r)) ν := by
  refine x_met (lv := [(0, .ref (g.2.2.1 + 0)), (1, .int x1), (2, .int x2)]) rfl (Nat.le_of_ble_eq_true rfl) rfl ?_
  intro p e s m below meth c C0 hP ls hl
  generalize ([.ref (g.2.2.1 + 0), .int x1, .int x2] : List Value).toArray = args at C0 ⊢
  have C0 : Cx Lm g p s m args meth c cX10_meter 5 (some .int) RX10 := C0
  have hS : va_S (Ax Lm g) s.heap s.heap [] := va_S.rf
  obtain ⟨hx, hb, hr, hml, hown, hts, hlocks, hK⟩ := id C0
  unfold X10_meter at h
  skip
  refine lv_iload_n hx hb dX10_meter_0 rfl (lv_at hl 1 rfl) ?_
  refine lv_iconst (v := (0 : Int32)) hx hb dX10_meter_1 rfl ?_
  refine lv_iconst (v := (5 : Int32)) hx hb dX10_meter_2 rfl ?_
  obtain ⟨r1, μ1, h1, h⟩ := ob2_some h
  refine x_callS C0 (rest := []) (c_X10_in l g x1 (0 : Int32) (5 : Int32) μ h1) q4_207 q4_205 q4_206 q1_11 hd_X10_in ⟨rfl, rfl⟩ ⟨Nat.le_of_ble_eq_true rfl, Nat.le_of_ble_eq_true rfl⟩ hP hS hl.1 rfl rfl (Nat.le_of_ble_eq_true rfl) dX10_meter_3 (fun H locs hP hS => ?_)
  refine W.eq (g2 := F0 m 6 ls [.int r1]) rfl ?_
  refine lv_if_eq (tgt := 16) hx hb dX10_meter_6 (by decide) (fun c2 => ?_) (fun c2 => ?_)
  · rw [if_pos c2] at h
    exact w_X10_meter_16 C0   μ1 _ _ _ hP hS (lv_sub hl [0] rfl) h
  · rw [if_neg c2] at h
    refine lv_iload_n hx hb dX10_meter_9 rfl (lv_at hl 2 rfl) ?_
    obtain ⟨r4, μ4, h1, h⟩ := ob2_some h
    refine x_callS C0 (rest := []) (c_X10_isPlace l g x2 μ1 h1) q4_210 q4_208 q4_209 q1_11 hd_X10_isPlace ⟨rfl, rfl⟩ ⟨Nat.le_of_ble_eq_true rfl, Nat.le_of_ble_eq_true rfl⟩ hP hS hl.1 rfl rfl (Nat.le_of_ble_eq_true rfl) dX10_meter_10 (fun H locs hP hS => ?_)
    refine W.eq (g2 := F0 m 13 ls [.int r4]) rfl ?_
    refine lv_if_ne (tgt := 22) hx hb dX10_meter_13 (by decide) (fun c5 => ?_) (fun c5 => ?_)
    · rw [if_neg c5] at h
      refine lv_aload_n hx hb dX10_meter_22 rfl (lv_at hl 0 rfl) ?_
      refine x_get C0 hP inu10 (k := 0) cm_0 (by decide) rfl 0 (by decide) q4_134 rfl (v := .ref (g.2.2.1 + 1)) rfl dX10_meter_23 ?_
      refine lv_iconst (v := (1 : Int32)) hx hb dX10_meter_26 rfl ?_
      refine x_iald C0 hP (k := 1) cm_1 (j := 1) (by decide) rfl dX10_meter_27 ?_
      refine lv_bipush (v := (8 : Int32)) hx hb dX10_meter_28 (by decide +kernel) ?_
      refine lv_icmp_ne (tgt := 39) hx hb dX10_meter_30 (by decide) (fun c6 => ?_) (fun c6 => ?_)
      · rw [if_neg c6] at h
        refine lv_aload_n hx hb dX10_meter_39 rfl (lv_at hl 0 rfl) ?_
        refine x_get C0 hP inu10 (k := 0) cm_0 (by decide) rfl 0 (by decide) q4_134 rfl (v := .ref (g.2.2.1 + 1)) rfl dX10_meter_40 ?_
        refine lv_iconst (v := (1 : Int32)) hx hb dX10_meter_43 rfl ?_
        refine x_iald C0 hP (k := 1) cm_1 (j := 1) (by decide) rfl dX10_meter_44 ?_
        refine lv_istore_n (lv' := [(3, .int (μ4 1 1)), (0, .ref (g.2.2.1 + 0)), (1, .int x1), (2, .int x2)]) hx hb dX10_meter_45 rfl hl (by decide) rfl (fun ls hl => ?_)
        refine lv_iconst (v := (0 : Int32)) hx hb dX10_meter_46 rfl ?_
        refine lv_istore (lv' := [(4, .int (0 : Int32)), (3, .int (μ4 1 1)), (0, .ref (g.2.2.1 + 0)), (1, .int x1), (2, .int x2)]) hx hb dX10_meter_47 hl (by decide) rfl (fun ls hl => ?_)
        exact w_X10_meter_49 C0  FU x1 x2 (μ4 1 1) (0 : Int32) μ4 _ _ _ hP hS (lv_sub hl [2, 3, 4, 1, 0] rfl) h
      · rw [if_pos c6] at h
        refine lv_aload_n hx hb dX10_meter_33 rfl (lv_at hl 0 rfl) ?_
        refine lv_iconst (v := (4 : Int32)) hx hb dX10_meter_34 rfl ?_
        obtain ⟨r18, μ18, h1, h⟩ := ob2_some h
        refine x_callV C0 (rest := []) (q := (RX10, TX10, 22)) (c_X10_finding l g (4 : Int32) μ4 h1) q4_214 q4_211 q4_213 r2_5 q1_11 hd_X10_finding ⟨rfl, rfl⟩ ⟨Nat.le_of_ble_eq_true rfl, Nat.le_of_ble_eq_true rfl⟩ cm_0 (by decide) rfl hP hS hl.1 rfl rfl (Nat.le_of_ble_eq_true rfl) dX10_meter_35 (fun H locs hP hS => ?_)
        refine W.eq (g2 := F0 m 38 ls [.int r18]) rfl ?_
        obtain ⟨rfl, rfl⟩ := some2 h
        exact x_iret C0 hP hS dX10_meter_38
    · rw [if_pos c5] at h
      exact w_X10_meter_16 C0   μ4 _ _ _ hP hS (lv_sub hl [0] rfl) h
def X10_as_17   (μ : Mem) : Option (Int32 × Mem) :=
  ob2 (X10_finding (1 : Int32) μ) fun r3 μ3 => some (r3, μ3)
set_option maxRecDepth 100000 in
set_option maxHeartbeats 4000000 in
theorem w_X10_as_17 {g : Gx} {p : Program} {l : Launch} {e : Env} {s : State} {m : MethodId} {args : Array Value} {below : List Frame} {meth : Method} {c : Code} (C0 : Cx Lm g p s m args meth c cX10_as 5 (some .int) RX10) {r : Int32} {ν : Mem}   (μ : Mem) (H : Heap) (locs : List Loc) (ls : Array Slot) (hP : Px Lm g μ H) (hS : va_S (Ax Lm g) s.heap H locs) (hl : lv_has ls 5 [(0, .ref (g.2.2.1 + 0))]) (h : X10_as_17   μ = some (r, ν)) : W p l e { frames := 2, cells := 0, slots := 0, locals := 43 } s m args below meth c H locs 0 0 (MQ below (Qx Lm g (some (.int r)) ν) args s 0 0 (Ax Lm g)) (F0 m 17 ls []) := by
  obtain ⟨hx, hb, hr, hml, hown, hts, hlocks, hK⟩ := id C0
  unfold X10_as_17 at h
  refine lv_aload_n hx hb dX10_as_17 rfl (lv_at hl 0 rfl) ?_
  refine lv_iconst (v := (1 : Int32)) hx hb dX10_as_18 rfl ?_
  obtain ⟨r3, μ3, h1, h⟩ := ob2_some h
  refine x_callV C0 (rest := []) (q := (RX10, TX10, 22)) (c_X10_finding l g (1 : Int32) μ h1) q4_214 q4_211 q4_213 r2_5 q1_11 hd_X10_finding ⟨rfl, rfl⟩ ⟨Nat.le_of_ble_eq_true rfl, Nat.le_of_ble_eq_true rfl⟩ cm_0 (by decide) rfl hP hS hl.1 rfl rfl (Nat.le_of_ble_eq_true rfl) dX10_as_19 (fun H locs hP hS => ?_)
  refine W.eq (g2 := F0 m 22 ls [.int r3]) rfl ?_
  obtain ⟨rfl, rfl⟩ := some2 h
  exact x_iret C0 hP hS dX10_as_22
def X10_as_69  (x1 : Int32) (t0 : Int32) (μ : Mem) : Option (Int32 × Mem) :=
  (if t0 = (0 : Int32) then ob2 (X10_finding (5 : Int32) μ) fun r9 μ9 => some (r9, μ9) else ob2 (X10_of x1 (3 : Int32) μ) fun r10 μ10 => some (r10, μ10))
set_option maxRecDepth 100000 in
set_option maxHeartbeats 4000000 in
theorem w_X10_as_69 {g : Gx} {p : Program} {l : Launch} {e : Env} {s : State} {m : MethodId} {args : Array Value} {below : List Frame} {meth : Method} {c : Code} (C0 : Cx Lm g p s m args meth c cX10_as 5 (some .int) RX10) {r : Int32} {ν : Mem}  (x1 : Int32) (t0 : Int32) (μ : Mem) (H : Heap) (locs : List Loc) (ls : Array Slot) (hP : Px Lm g μ H) (hS : va_S (Ax Lm g) s.heap H locs) (hl : lv_has ls 5 [(0, .ref (g.2.2.1 + 0)), (1, .int x1)]) (h : X10_as_69  x1 t0 μ = some (r, ν)) : W p l e { frames := 2, cells := 0, slots := 0, locals := 43 } s m args below meth c H locs 0 0 (MQ below (Qx Lm g (some (.int r)) ν) args s 0 0 (Ax Lm g)) (F0 m 69 ls [.int t0]) := by
  obtain ⟨hx, hb, hr, hml, hown, hts, hlocks, hK⟩ := id C0
  unfold X10_as_69 at h
  refine lv_istore (lv' := [(4, .int t0), (0, .ref (g.2.2.1 + 0)), (1, .int x1)]) hx hb dX10_as_69 hl (by decide) rfl (fun ls hl => ?_)
  refine lv_iload hx hb dX10_as_71 (lv_at hl 0 rfl) ?_
  refine lv_if_eq (tgt := 85) hx hb dX10_as_73 (by decide) (fun c8 => ?_) (fun c8 => ?_)
  · rw [if_pos c8] at h
    refine lv_aload_n hx hb dX10_as_85 rfl (lv_at hl 1 rfl) ?_
    refine lv_iconst (v := (5 : Int32)) hx hb dX10_as_86 rfl ?_
    obtain ⟨r9, μ9, h1, h⟩ := ob2_some h
    refine x_callV C0 (rest := []) (q := (RX10, TX10, 22)) (c_X10_finding l g (5 : Int32) μ h1) q4_214 q4_211 q4_213 r2_5 q1_11 hd_X10_finding ⟨rfl, rfl⟩ ⟨Nat.le_of_ble_eq_true rfl, Nat.le_of_ble_eq_true rfl⟩ cm_0 (by decide) rfl hP hS hl.1 rfl rfl (Nat.le_of_ble_eq_true rfl) dX10_as_87 (fun H locs hP hS => ?_)
    refine W.eq (g2 := F0 m 90 ls [.int r9]) rfl ?_
    obtain ⟨rfl, rfl⟩ := some2 h
    exact x_iret C0 hP hS dX10_as_90
  · rw [if_neg c8] at h
    refine lv_aload_n hx hb dX10_as_76 rfl (lv_at hl 1 rfl) ?_
    refine lv_iload_n hx hb dX10_as_77 rfl (lv_at hl 2 rfl) ?_
    refine lv_iconst (v := (3 : Int32)) hx hb dX10_as_78 rfl ?_
    obtain ⟨r10, μ10, h1, h⟩ := ob2_some h
    refine x_callV C0 (rest := []) (q := (RX10, TX10, 22)) (c_X10_of l g x1 (3 : Int32) μ h1) q4_235 q4_232 q4_234 r2_9 q1_11 hd_X10_of ⟨rfl, rfl⟩ ⟨Nat.le_of_ble_eq_true rfl, Nat.le_of_ble_eq_true rfl⟩ cm_0 (by decide) rfl hP hS hl.1 rfl rfl (Nat.le_of_ble_eq_true rfl) dX10_as_79 (fun H locs hP hS => ?_)
    refine W.eq (g2 := F0 m 82 ls [.int r10]) rfl ?_
    refine lv_goto (tgt := 90) hx hb dX10_as_82 (by decide) ?_
    obtain ⟨rfl, rfl⟩ := some2 h
    exact x_iret C0 hP hS dX10_as_90
def X10_as_64  (x1 : Int32) (μ : Mem) : Option (Int32 × Mem) :=
  X10_as_69 x1 (1 : Int32) μ
set_option maxRecDepth 100000 in
set_option maxHeartbeats 4000000 in
theorem w_X10_as_64 {g : Gx} {p : Program} {l : Launch} {e : Env} {s : State} {m : MethodId} {args : Array Value} {below : List Frame} {meth : Method} {c : Code} (C0 : Cx Lm g p s m args meth c cX10_as 5 (some .int) RX10) {r : Int32} {ν : Mem}  (x1 : Int32) (μ : Mem) (H : Heap) (locs : List Loc) (ls : Array Slot) (hP : Px Lm g μ H) (hS : va_S (Ax Lm g) s.heap H locs) (hl : lv_has ls 5 [(0, .ref (g.2.2.1 + 0)), (1, .int x1)]) (h : X10_as_64  x1 μ = some (r, ν)) : W p l e { frames := 2, cells := 0, slots := 0, locals := 43 } s m args below meth c H locs 0 0 (MQ below (Qx Lm g (some (.int r)) ν) args s 0 0 (Ax Lm g)) (F0 m 64 ls []) := by
  obtain ⟨hx, hb, hr, hml, hown, hts, hlocks, hK⟩ := id C0
  unfold X10_as_64 at h
  refine lv_iconst (v := (1 : Int32)) hx hb dX10_as_64 rfl ?_
  refine lv_goto (tgt := 69) hx hb dX10_as_65 (by decide) ?_
  exact w_X10_as_69 C0  x1 (1 : Int32) μ _ _ _ hP hS (lv_sub hl [0, 1] rfl) h
def X10_as_68  (x1 : Int32) (μ : Mem) : Option (Int32 × Mem) :=
  X10_as_69 x1 (0 : Int32) μ
set_option maxRecDepth 100000 in
set_option maxHeartbeats 4000000 in
theorem w_X10_as_68 {g : Gx} {p : Program} {l : Launch} {e : Env} {s : State} {m : MethodId} {args : Array Value} {below : List Frame} {meth : Method} {c : Code} (C0 : Cx Lm g p s m args meth c cX10_as 5 (some .int) RX10) {r : Int32} {ν : Mem}  (x1 : Int32) (μ : Mem) (H : Heap) (locs : List Loc) (ls : Array Slot) (hP : Px Lm g μ H) (hS : va_S (Ax Lm g) s.heap H locs) (hl : lv_has ls 5 [(0, .ref (g.2.2.1 + 0)), (1, .int x1)]) (h : X10_as_68  x1 μ = some (r, ν)) : W p l e { frames := 2, cells := 0, slots := 0, locals := 43 } s m args below meth c H locs 0 0 (MQ below (Qx Lm g (some (.int r)) ν) args s 0 0 (Ax Lm g)) (F0 m 68 ls []) := by
  obtain ⟨hx, hb, hr, hml, hown, hts, hlocks, hK⟩ := id C0
  unfold X10_as_68 at h
  refine lv_iconst (v := (0 : Int32)) hx hb dX10_as_68 rfl ?_
  exact w_X10_as_69 C0  x1 (0 : Int32) μ _ _ _ hP hS (lv_sub hl [0, 1] rfl) h
def X10_as_54  (x1 : Int32) (x2 : Int32) (x3 : Int32) (μ : Mem) : Option (Int32 × Mem) :=
  (if x2 = (2 : Int32) then (if x3 = (4 : Int32) then X10_as_64 x1 μ else X10_as_68 x1 μ) else X10_as_68 x1 μ)
set_option maxRecDepth 100000 in
set_option maxHeartbeats 4000000 in
theorem w_X10_as_54 {g : Gx} {p : Program} {l : Launch} {e : Env} {s : State} {m : MethodId} {args : Array Value} {below : List Frame} {meth : Method} {c : Code} (C0 : Cx Lm g p s m args meth c cX10_as 5 (some .int) RX10) {r : Int32} {ν : Mem}  (x1 : Int32) (x2 : Int32) (x3 : Int32) (μ : Mem) (H : Heap) (locs : List Loc) (ls : Array Slot) (hP : Px Lm g μ H) (hS : va_S (Ax Lm g) s.heap H locs) (hl : lv_has ls 5 [(0, .ref (g.2.2.1 + 0)), (1, .int x1), (2, .int x2), (3, .int x3)]) (h : X10_as_54  x1 x2 x3 μ = some (r, ν)) : W p l e { frames := 2, cells := 0, slots := 0, locals := 43 } s m args below meth c H locs 0 0 (MQ below (Qx Lm g (some (.int r)) ν) args s 0 0 (Ax Lm g)) (F0 m 54 ls []) := by
  obtain ⟨hx, hb, hr, hml, hown, hts, hlocks, hK⟩ := id C0
  unfold X10_as_54 at h
  refine lv_iload_n hx hb dX10_as_54 rfl (lv_at hl 2 rfl) ?_
  refine lv_iconst (v := (2 : Int32)) hx hb dX10_as_55 rfl ?_
  refine lv_icmp_ne (tgt := 68) hx hb dX10_as_56 (by decide) (fun c13 => ?_) (fun c13 => ?_)
  · rw [if_neg c13] at h
    exact w_X10_as_68 C0  x1 μ _ _ _ hP hS (lv_sub hl [0, 1] rfl) h
  · rw [if_pos c13] at h
    refine lv_iload_n hx hb dX10_as_59 rfl (lv_at hl 3 rfl) ?_
    refine lv_iconst (v := (4 : Int32)) hx hb dX10_as_60 rfl ?_
    refine lv_icmp_ne (tgt := 68) hx hb dX10_as_61 (by decide) (fun c14 => ?_) (fun c14 => ?_)
    · rw [if_neg c14] at h
      exact w_X10_as_68 C0  x1 μ _ _ _ hP hS (lv_sub hl [0, 1] rfl) h
    · rw [if_pos c14] at h
      exact w_X10_as_64 C0  x1 μ _ _ _ hP hS (lv_sub hl [0, 1] rfl) h
def X10_as (x1 : Int32) (x2 : Int32) (μ : Mem) : Option (Int32 × Mem) :=
  ob2 (X10_isMeter x1 μ) fun r1 μ1 => (if r1 = (0 : Int32) then X10_as_17 μ1 else ob2 (X10_in x2 (0 : Int32) (5 : Int32) μ1) fun r4 μ4 => (if r4 = (0 : Int32) then X10_as_17 μ4 else ob2 (X10_of x1 (0 : Int32) μ4) fun r6 μ6 => (if x2 = (0 : Int32) then X10_as_64 x1 μ6 else (if r6 = x2 then X10_as_64 x1 μ6 else (if x2 = (1 : Int32) then (if r6 = (3 : Int32) then X10_as_64 x1 μ6 else (if r6 = (5 : Int32) then X10_as_64 x1 μ6 else X10_as_54 x1 x2 r6 μ6)) else X10_as_54 x1 x2 r6 μ6)))))
set_option maxRecDepth 100000 in
set_option maxHeartbeats 4000000 in
theorem c_X10_as (l : Launch) (g : Gx) (x1 : Int32) (x2 : Int32) (μ : Mem) {r : Int32} {ν : Mem} (h : X10_as x1 x2 μ = some (r, ν)) : Ct Lm g l yX10_as cX10_as 5 (some .int) { frames := 2, cells := 0, slots := 0, locals := 43 } [.ref (g.2.2.1 + 0), .int x1, .int x2] μ (some (.int r)) ν := by
  refine x_met (lv := [(0, .ref (g.2.2.1 + 0)), (1, .int x1), (2, .int x2)]) rfl (Nat.le_of_ble_eq_true rfl) rfl ?_
  intro p e s m below meth c C0 hP ls hl
  generalize ([.ref (g.2.2.1 + 0), .int x1, .int x2] : List Value).toArray = args at C0 ⊢
  have C0 : Cx Lm g p s m args meth c cX10_as 5 (some .int) RX10 := C0
  have hS : va_S (Ax Lm g) s.heap s.heap [] := va_S.rf
  obtain ⟨hx, hb, hr, hml, hown, hts, hlocks, hK⟩ := id C0
  unfold X10_as at h
  skip
  refine lv_aload_n hx hb dX10_as_0 rfl (lv_at hl 0 rfl) ?_
  refine lv_iload_n hx hb dX10_as_1 rfl (lv_at hl 1 rfl) ?_
  obtain ⟨r1, μ1, h1, h⟩ := ob2_some h
  refine x_callV C0 (rest := []) (q := (RX10, TX10, 22)) (c_X10_isMeter l g x1 μ h1) q4_231 q4_228 q4_230 r2_8 q1_11 hd_X10_isMeter ⟨rfl, rfl⟩ ⟨Nat.le_of_ble_eq_true rfl, Nat.le_of_ble_eq_true rfl⟩ cm_0 (by decide) rfl hP hS hl.1 rfl rfl (Nat.le_of_ble_eq_true rfl) dX10_as_2 (fun H locs hP hS => ?_)
  refine W.eq (g2 := F0 m 5 ls [.int r1]) rfl ?_
  refine lv_if_eq (tgt := 17) hx hb dX10_as_5 (by decide) (fun c2 => ?_) (fun c2 => ?_)
  · rw [if_pos c2] at h
    exact w_X10_as_17 C0   μ1 _ _ _ hP hS (lv_sub hl [0] rfl) h
  · rw [if_neg c2] at h
    refine lv_iload_n hx hb dX10_as_8 rfl (lv_at hl 2 rfl) ?_
    refine lv_iconst (v := (0 : Int32)) hx hb dX10_as_9 rfl ?_
    refine lv_iconst (v := (5 : Int32)) hx hb dX10_as_10 rfl ?_
    obtain ⟨r4, μ4, h1, h⟩ := ob2_some h
    refine x_callS C0 (rest := []) (c_X10_in l g x2 (0 : Int32) (5 : Int32) μ1 h1) q4_207 q4_205 q4_206 q1_11 hd_X10_in ⟨rfl, rfl⟩ ⟨Nat.le_of_ble_eq_true rfl, Nat.le_of_ble_eq_true rfl⟩ hP hS hl.1 rfl rfl (Nat.le_of_ble_eq_true rfl) dX10_as_11 (fun H locs hP hS => ?_)
    refine W.eq (g2 := F0 m 14 ls [.int r4]) rfl ?_
    refine lv_if_ne (tgt := 23) hx hb dX10_as_14 (by decide) (fun c5 => ?_) (fun c5 => ?_)
    · rw [if_neg c5] at h
      refine lv_aload_n hx hb dX10_as_23 rfl (lv_at hl 0 rfl) ?_
      refine lv_iload_n hx hb dX10_as_24 rfl (lv_at hl 1 rfl) ?_
      refine lv_iconst (v := (0 : Int32)) hx hb dX10_as_25 rfl ?_
      obtain ⟨r6, μ6, h1, h⟩ := ob2_some h
      refine x_callV C0 (rest := []) (q := (RX10, TX10, 22)) (c_X10_of l g x1 (0 : Int32) μ4 h1) q4_235 q4_232 q4_234 r2_9 q1_11 hd_X10_of ⟨rfl, rfl⟩ ⟨Nat.le_of_ble_eq_true rfl, Nat.le_of_ble_eq_true rfl⟩ cm_0 (by decide) rfl hP hS hl.1 rfl rfl (Nat.le_of_ble_eq_true rfl) dX10_as_26 (fun H locs hP hS => ?_)
      refine W.eq (g2 := F0 m 29 ls [.int r6]) rfl ?_
      refine lv_istore_n (lv' := [(3, .int r6), (0, .ref (g.2.2.1 + 0)), (1, .int x1), (2, .int x2)]) hx hb dX10_as_29 rfl hl (by decide) rfl (fun ls hl => ?_)
      refine lv_iload_n hx hb dX10_as_30 rfl (lv_at hl 3 rfl) ?_
      refine lv_if_eq (tgt := 64) hx hb dX10_as_31 (by decide) (fun c7 => ?_) (fun c7 => ?_)
      · rw [if_pos c7] at h
        exact w_X10_as_64 C0  x1 μ6 _ _ _ hP hS (lv_sub hl [1, 2] rfl) h
      · rw [if_neg c7] at h
        refine lv_iload_n hx hb dX10_as_34 rfl (lv_at hl 0 rfl) ?_
        refine lv_iload_n hx hb dX10_as_35 rfl (lv_at hl 3 rfl) ?_
        refine lv_icmp_eq (tgt := 64) hx hb dX10_as_36 (by decide) (fun c11 => ?_) (fun c11 => ?_)
        · rw [if_pos c11] at h
          exact w_X10_as_64 C0  x1 μ6 _ _ _ hP hS (lv_sub hl [1, 2] rfl) h
        · rw [if_neg c11] at h
          refine lv_iload_n hx hb dX10_as_39 rfl (lv_at hl 3 rfl) ?_
          refine lv_iconst (v := (1 : Int32)) hx hb dX10_as_40 rfl ?_
          refine lv_icmp_ne (tgt := 54) hx hb dX10_as_41 (by decide) (fun c12 => ?_) (fun c12 => ?_)
          · rw [if_neg c12] at h
            exact w_X10_as_54 C0  x1 x2 r6 μ6 _ _ _ hP hS (lv_sub hl [1, 2, 3, 0] rfl) h
          · rw [if_pos c12] at h
            refine lv_iload_n hx hb dX10_as_44 rfl (lv_at hl 0 rfl) ?_
            refine lv_iconst (v := (3 : Int32)) hx hb dX10_as_45 rfl ?_
            refine lv_icmp_eq (tgt := 64) hx hb dX10_as_46 (by decide) (fun c15 => ?_) (fun c15 => ?_)
            · rw [if_pos c15] at h
              exact w_X10_as_64 C0  x1 μ6 _ _ _ hP hS (lv_sub hl [1, 2] rfl) h
            · rw [if_neg c15] at h
              refine lv_iload_n hx hb dX10_as_49 rfl (lv_at hl 0 rfl) ?_
              refine lv_iconst (v := (5 : Int32)) hx hb dX10_as_50 rfl ?_
              refine lv_icmp_eq (tgt := 64) hx hb dX10_as_51 (by decide) (fun c16 => ?_) (fun c16 => ?_)
              · rw [if_pos c16] at h
                exact w_X10_as_64 C0  x1 μ6 _ _ _ hP hS (lv_sub hl [1, 2] rfl) h
              · rw [if_neg c16] at h
                exact w_X10_as_54 C0  x1 x2 r6 μ6 _ _ _ hP hS (lv_sub hl [1, 2, 3, 0] rfl) h
    · rw [if_pos c5] at h
      exact w_X10_as_17 C0   μ4 _ _ _ hP hS (lv_sub hl [0] rfl) h
def X10_meterIs_18   (μ : Mem) : Option (Int32 × Mem) :=
  ob2 (X10_finding (1 : Int32) μ) fun r3 μ3 => some (r3, μ3)
set_option maxRecDepth 100000 in
set_option maxHeartbeats 4000000 in
theorem w_X10_meterIs_18 {g : Gx} {p : Program} {l : Launch} {e : Env} {s : State} {m : MethodId} {args : Array Value} {below : List Frame} {meth : Method} {c : Code} (C0 : Cx Lm g p s m args meth c cX10_meterIs 3 (some .int) RX10) {r : Int32} {ν : Mem}   (μ : Mem) (H : Heap) (locs : List Loc) (ls : Array Slot) (hP : Px Lm g μ H) (hS : va_S (Ax Lm g) s.heap H locs) (hl : lv_has ls 3 [(0, .ref (g.2.2.1 + 0))]) (h : X10_meterIs_18   μ = some (r, ν)) : W p l e { frames := 3, cells := 0, slots := 0, locals := 64 } s m args below meth c H locs 0 0 (MQ below (Qx Lm g (some (.int r)) ν) args s 0 0 (Ax Lm g)) (F0 m 18 ls []) := by
  obtain ⟨hx, hb, hr, hml, hown, hts, hlocks, hK⟩ := id C0
  unfold X10_meterIs_18 at h
  refine lv_aload_n hx hb dX10_meterIs_18 rfl (lv_at hl 0 rfl) ?_
  refine lv_iconst (v := (1 : Int32)) hx hb dX10_meterIs_19 rfl ?_
  obtain ⟨r3, μ3, h1, h⟩ := ob2_some h
  refine x_callV C0 (rest := []) (q := (RX10, TX10, 22)) (c_X10_finding l g (1 : Int32) μ h1) q4_214 q4_211 q4_213 r2_5 q1_11 hd_X10_finding ⟨rfl, rfl⟩ ⟨Nat.le_of_ble_eq_true rfl, Nat.le_of_ble_eq_true rfl⟩ cm_0 (by decide) rfl hP hS hl.1 rfl rfl (Nat.le_of_ble_eq_true rfl) dX10_meterIs_20 (fun H locs hP hS => ?_)
  refine W.eq (g2 := F0 m 23 ls [.int r3]) rfl ?_
  obtain ⟨rfl, rfl⟩ := some2 h
  exact x_iret C0 hP hS dX10_meterIs_23
def X10_meterIs (x1 : Int32) (x2 : Int32) (μ : Mem) : Option (Int32 × Mem) :=
  ob2 (X10_isMeter x1 μ) fun r1 μ1 => (if r1 = (0 : Int32) then X10_meterIs_18 μ1 else ob2 (X10_in x2 (0 : Int32) (11 : Int32) μ1) fun r4 μ4 => (if r4 = (0 : Int32) then X10_meterIs_18 μ4 else (if x2 = (0 : Int32) then ob2 (X10_of x1 (0 : Int32) μ4) fun r7 μ7 => some (r7, μ7) else (if x2 = (1 : Int32) then ob2 (X10_of x1 (3 : Int32) μ4) fun r9 μ9 => some (r9, μ9) else (if x2 = (2 : Int32) then ob2 (X10_of x1 (4 : Int32) μ4) fun r11 μ11 => some (r11, μ11) else (if x2 = (3 : Int32) then ob2 (X10_of x1 (5 : Int32) μ4) fun r13 μ13 => some (r13, μ13) else (if x2 = (4 : Int32) then ob2 (X10_of x1 (6 : Int32) μ4) fun r15 μ15 => some (r15, μ15) else (if x2 = (5 : Int32) then ob2 (X10_of x1 (7 : Int32) μ4) fun r17 μ17 => some (r17, μ17) else (if x2 = (6 : Int32) then ob2 (X10_of x1 (8 : Int32) μ4) fun r19 μ19 => some (r19, μ19) else (if x2 = (7 : Int32) then ob2 (X10_of x1 (9 : Int32) μ4) fun r21 μ21 => some (r21, μ21) else (if x2 = (8 : Int32) then ob2 (X10_of x1 (10 : Int32) μ4) fun r23 μ23 => some (r23, μ23) else (if x2 = (9 : Int32) then ob2 (X10_of x1 (11 : Int32) μ4) fun r25 μ25 => some (r25, μ25) else (if x2 = (10 : Int32) then ob2 (X10_loadedOf x1 μ4) fun r27 μ27 => some (r27, μ27) else ob2 (X10_limit x1 μ4) fun r28 μ28 => some (r28, μ28))))))))))))))
set_option maxRecDepth 100000 in
set_option maxHeartbeats 4000000 in
theorem c_X10_meterIs (l : Launch) (g : Gx) (x1 : Int32) (x2 : Int32) (μ : Mem) {r : Int32} {ν : Mem} (h : X10_meterIs x1 x2 μ = some (r, ν)) : Ct Lm g l yX10_meterIs cX10_meterIs 3 (some .int) { frames := 3, cells := 0, slots := 0, locals := 64 } [.ref (g.2.2.1 + 0), .int x1, .int x2] μ (some (.int r)) ν := by
  refine x_met (lv := [(0, .ref (g.2.2.1 + 0)), (1, .int x1), (2, .int x2)]) rfl (Nat.le_of_ble_eq_true rfl) rfl ?_
  intro p e s m below meth c C0 hP ls hl
  generalize ([.ref (g.2.2.1 + 0), .int x1, .int x2] : List Value).toArray = args at C0 ⊢
  have C0 : Cx Lm g p s m args meth c cX10_meterIs 3 (some .int) RX10 := C0
  have hS : va_S (Ax Lm g) s.heap s.heap [] := va_S.rf
  obtain ⟨hx, hb, hr, hml, hown, hts, hlocks, hK⟩ := id C0
  unfold X10_meterIs at h
  skip
  refine lv_aload_n hx hb dX10_meterIs_0 rfl (lv_at hl 0 rfl) ?_
  refine lv_iload_n hx hb dX10_meterIs_1 rfl (lv_at hl 1 rfl) ?_
  obtain ⟨r1, μ1, h1, h⟩ := ob2_some h
  refine x_callV C0 (rest := []) (q := (RX10, TX10, 22)) (c_X10_isMeter l g x1 μ h1) q4_231 q4_228 q4_230 r2_8 q1_11 hd_X10_isMeter ⟨rfl, rfl⟩ ⟨Nat.le_of_ble_eq_true rfl, Nat.le_of_ble_eq_true rfl⟩ cm_0 (by decide) rfl hP hS hl.1 rfl rfl (Nat.le_of_ble_eq_true rfl) dX10_meterIs_2 (fun H locs hP hS => ?_)
  refine W.eq (g2 := F0 m 5 ls [.int r1]) rfl ?_
  refine lv_if_eq (tgt := 18) hx hb dX10_meterIs_5 (by decide) (fun c2 => ?_) (fun c2 => ?_)
  · rw [if_pos c2] at h
    exact w_X10_meterIs_18 C0   μ1 _ _ _ hP hS (lv_sub hl [0] rfl) h
  · rw [if_neg c2] at h
    refine lv_iload_n hx hb dX10_meterIs_8 rfl (lv_at hl 2 rfl) ?_
    refine lv_iconst (v := (0 : Int32)) hx hb dX10_meterIs_9 rfl ?_
    refine lv_bipush (v := (11 : Int32)) hx hb dX10_meterIs_10 (by decide +kernel) ?_
    obtain ⟨r4, μ4, h1, h⟩ := ob2_some h
    refine x_callS C0 (rest := []) (c_X10_in l g x2 (0 : Int32) (11 : Int32) μ1 h1) q4_207 q4_205 q4_206 q1_11 hd_X10_in ⟨rfl, rfl⟩ ⟨Nat.le_of_ble_eq_true rfl, Nat.le_of_ble_eq_true rfl⟩ hP hS hl.1 rfl rfl (Nat.le_of_ble_eq_true rfl) dX10_meterIs_12 (fun H locs hP hS => ?_)
    refine W.eq (g2 := F0 m 15 ls [.int r4]) rfl ?_
    refine lv_if_ne (tgt := 24) hx hb dX10_meterIs_15 (by decide) (fun c5 => ?_) (fun c5 => ?_)
    · rw [if_neg c5] at h
      refine lv_iload_n hx hb dX10_meterIs_24 rfl (lv_at hl 2 rfl) ?_
      by_cases c6 : x2 = (0 : Int32)
      · rw [if_pos c6] at h
        refine lv_tableIn (tgt := 84) (off := 59) hx hb dX10_meterIs_25 (by rw [c6]; decide) (by rw [c6]; decide) (by rw [c6]; decide) (by decide) ?_
        refine lv_aload_n hx hb dX10_meterIs_84 rfl (lv_at hl 0 rfl) ?_
        refine lv_iload_n hx hb dX10_meterIs_85 rfl (lv_at hl 1 rfl) ?_
        refine lv_iconst (v := (0 : Int32)) hx hb dX10_meterIs_86 rfl ?_
        obtain ⟨r7, μ7, h1, h⟩ := ob2_some h
        refine x_callV C0 (rest := []) (q := (RX10, TX10, 22)) (c_X10_of l g x1 (0 : Int32) μ4 h1) q4_235 q4_232 q4_234 r2_9 q1_11 hd_X10_of ⟨rfl, rfl⟩ ⟨Nat.le_of_ble_eq_true rfl, Nat.le_of_ble_eq_true rfl⟩ cm_0 (by decide) rfl hP hS hl.1 rfl rfl (Nat.le_of_ble_eq_true rfl) dX10_meterIs_87 (fun H locs hP hS => ?_)
        refine W.eq (g2 := F0 m 90 ls [.int r7]) rfl ?_
        obtain ⟨rfl, rfl⟩ := some2 h
        exact x_iret C0 hP hS dX10_meterIs_90
      rw [if_neg c6] at h
      by_cases c8 : x2 = (1 : Int32)
      · rw [if_pos c8] at h
        refine lv_tableIn (tgt := 91) (off := 66) hx hb dX10_meterIs_25 (by rw [c8]; decide) (by rw [c8]; decide) (by rw [c8]; decide) (by decide) ?_
        refine lv_aload_n hx hb dX10_meterIs_91 rfl (lv_at hl 0 rfl) ?_
        refine lv_iload_n hx hb dX10_meterIs_92 rfl (lv_at hl 1 rfl) ?_
        refine lv_iconst (v := (3 : Int32)) hx hb dX10_meterIs_93 rfl ?_
        obtain ⟨r9, μ9, h1, h⟩ := ob2_some h
        refine x_callV C0 (rest := []) (q := (RX10, TX10, 22)) (c_X10_of l g x1 (3 : Int32) μ4 h1) q4_235 q4_232 q4_234 r2_9 q1_11 hd_X10_of ⟨rfl, rfl⟩ ⟨Nat.le_of_ble_eq_true rfl, Nat.le_of_ble_eq_true rfl⟩ cm_0 (by decide) rfl hP hS hl.1 rfl rfl (Nat.le_of_ble_eq_true rfl) dX10_meterIs_94 (fun H locs hP hS => ?_)
        refine W.eq (g2 := F0 m 97 ls [.int r9]) rfl ?_
        obtain ⟨rfl, rfl⟩ := some2 h
        exact x_iret C0 hP hS dX10_meterIs_97
      rw [if_neg c8] at h
      by_cases c10 : x2 = (2 : Int32)
      · rw [if_pos c10] at h
        refine lv_tableIn (tgt := 98) (off := 73) hx hb dX10_meterIs_25 (by rw [c10]; decide) (by rw [c10]; decide) (by rw [c10]; decide) (by decide) ?_
        refine lv_aload_n hx hb dX10_meterIs_98 rfl (lv_at hl 0 rfl) ?_
        refine lv_iload_n hx hb dX10_meterIs_99 rfl (lv_at hl 1 rfl) ?_
        refine lv_iconst (v := (4 : Int32)) hx hb dX10_meterIs_100 rfl ?_
        obtain ⟨r11, μ11, h1, h⟩ := ob2_some h
        refine x_callV C0 (rest := []) (q := (RX10, TX10, 22)) (c_X10_of l g x1 (4 : Int32) μ4 h1) q4_235 q4_232 q4_234 r2_9 q1_11 hd_X10_of ⟨rfl, rfl⟩ ⟨Nat.le_of_ble_eq_true rfl, Nat.le_of_ble_eq_true rfl⟩ cm_0 (by decide) rfl hP hS hl.1 rfl rfl (Nat.le_of_ble_eq_true rfl) dX10_meterIs_101 (fun H locs hP hS => ?_)
        refine W.eq (g2 := F0 m 104 ls [.int r11]) rfl ?_
        obtain ⟨rfl, rfl⟩ := some2 h
        exact x_iret C0 hP hS dX10_meterIs_104
      rw [if_neg c10] at h
      by_cases c12 : x2 = (3 : Int32)
      · rw [if_pos c12] at h
        refine lv_tableIn (tgt := 105) (off := 80) hx hb dX10_meterIs_25 (by rw [c12]; decide) (by rw [c12]; decide) (by rw [c12]; decide) (by decide) ?_
        refine lv_aload_n hx hb dX10_meterIs_105 rfl (lv_at hl 0 rfl) ?_
        refine lv_iload_n hx hb dX10_meterIs_106 rfl (lv_at hl 1 rfl) ?_
        refine lv_iconst (v := (5 : Int32)) hx hb dX10_meterIs_107 rfl ?_
        obtain ⟨r13, μ13, h1, h⟩ := ob2_some h
        refine x_callV C0 (rest := []) (q := (RX10, TX10, 22)) (c_X10_of l g x1 (5 : Int32) μ4 h1) q4_235 q4_232 q4_234 r2_9 q1_11 hd_X10_of ⟨rfl, rfl⟩ ⟨Nat.le_of_ble_eq_true rfl, Nat.le_of_ble_eq_true rfl⟩ cm_0 (by decide) rfl hP hS hl.1 rfl rfl (Nat.le_of_ble_eq_true rfl) dX10_meterIs_108 (fun H locs hP hS => ?_)
        refine W.eq (g2 := F0 m 111 ls [.int r13]) rfl ?_
        obtain ⟨rfl, rfl⟩ := some2 h
        exact x_iret C0 hP hS dX10_meterIs_111
      rw [if_neg c12] at h
      by_cases c14 : x2 = (4 : Int32)
      · rw [if_pos c14] at h
        refine lv_tableIn (tgt := 112) (off := 87) hx hb dX10_meterIs_25 (by rw [c14]; decide) (by rw [c14]; decide) (by rw [c14]; decide) (by decide) ?_
        refine lv_aload_n hx hb dX10_meterIs_112 rfl (lv_at hl 0 rfl) ?_
        refine lv_iload_n hx hb dX10_meterIs_113 rfl (lv_at hl 1 rfl) ?_
        refine lv_bipush (v := (6 : Int32)) hx hb dX10_meterIs_114 (by decide +kernel) ?_
        obtain ⟨r15, μ15, h1, h⟩ := ob2_some h
        refine x_callV C0 (rest := []) (q := (RX10, TX10, 22)) (c_X10_of l g x1 (6 : Int32) μ4 h1) q4_235 q4_232 q4_234 r2_9 q1_11 hd_X10_of ⟨rfl, rfl⟩ ⟨Nat.le_of_ble_eq_true rfl, Nat.le_of_ble_eq_true rfl⟩ cm_0 (by decide) rfl hP hS hl.1 rfl rfl (Nat.le_of_ble_eq_true rfl) dX10_meterIs_116 (fun H locs hP hS => ?_)
        refine W.eq (g2 := F0 m 119 ls [.int r15]) rfl ?_
        obtain ⟨rfl, rfl⟩ := some2 h
        exact x_iret C0 hP hS dX10_meterIs_119
      rw [if_neg c14] at h
      by_cases c16 : x2 = (5 : Int32)
      · rw [if_pos c16] at h
        refine lv_tableIn (tgt := 120) (off := 95) hx hb dX10_meterIs_25 (by rw [c16]; decide) (by rw [c16]; decide) (by rw [c16]; decide) (by decide) ?_
        refine lv_aload_n hx hb dX10_meterIs_120 rfl (lv_at hl 0 rfl) ?_
        refine lv_iload_n hx hb dX10_meterIs_121 rfl (lv_at hl 1 rfl) ?_
        refine lv_bipush (v := (7 : Int32)) hx hb dX10_meterIs_122 (by decide +kernel) ?_
        obtain ⟨r17, μ17, h1, h⟩ := ob2_some h
        refine x_callV C0 (rest := []) (q := (RX10, TX10, 22)) (c_X10_of l g x1 (7 : Int32) μ4 h1) q4_235 q4_232 q4_234 r2_9 q1_11 hd_X10_of ⟨rfl, rfl⟩ ⟨Nat.le_of_ble_eq_true rfl, Nat.le_of_ble_eq_true rfl⟩ cm_0 (by decide) rfl hP hS hl.1 rfl rfl (Nat.le_of_ble_eq_true rfl) dX10_meterIs_124 (fun H locs hP hS => ?_)
        refine W.eq (g2 := F0 m 127 ls [.int r17]) rfl ?_
        obtain ⟨rfl, rfl⟩ := some2 h
        exact x_iret C0 hP hS dX10_meterIs_127
      rw [if_neg c16] at h
      by_cases c18 : x2 = (6 : Int32)
      · rw [if_pos c18] at h
        refine lv_tableIn (tgt := 128) (off := 103) hx hb dX10_meterIs_25 (by rw [c18]; decide) (by rw [c18]; decide) (by rw [c18]; decide) (by decide) ?_
        refine lv_aload_n hx hb dX10_meterIs_128 rfl (lv_at hl 0 rfl) ?_
        refine lv_iload_n hx hb dX10_meterIs_129 rfl (lv_at hl 1 rfl) ?_
        refine lv_bipush (v := (8 : Int32)) hx hb dX10_meterIs_130 (by decide +kernel) ?_
        obtain ⟨r19, μ19, h1, h⟩ := ob2_some h
        refine x_callV C0 (rest := []) (q := (RX10, TX10, 22)) (c_X10_of l g x1 (8 : Int32) μ4 h1) q4_235 q4_232 q4_234 r2_9 q1_11 hd_X10_of ⟨rfl, rfl⟩ ⟨Nat.le_of_ble_eq_true rfl, Nat.le_of_ble_eq_true rfl⟩ cm_0 (by decide) rfl hP hS hl.1 rfl rfl (Nat.le_of_ble_eq_true rfl) dX10_meterIs_132 (fun H locs hP hS => ?_)
        refine W.eq (g2 := F0 m 135 ls [.int r19]) rfl ?_
        obtain ⟨rfl, rfl⟩ := some2 h
        exact x_iret C0 hP hS dX10_meterIs_135
      rw [if_neg c18] at h
      by_cases c20 : x2 = (7 : Int32)
      · rw [if_pos c20] at h
        refine lv_tableIn (tgt := 136) (off := 111) hx hb dX10_meterIs_25 (by rw [c20]; decide) (by rw [c20]; decide) (by rw [c20]; decide) (by decide) ?_
        refine lv_aload_n hx hb dX10_meterIs_136 rfl (lv_at hl 0 rfl) ?_
        refine lv_iload_n hx hb dX10_meterIs_137 rfl (lv_at hl 1 rfl) ?_
        refine lv_bipush (v := (9 : Int32)) hx hb dX10_meterIs_138 (by decide +kernel) ?_
        obtain ⟨r21, μ21, h1, h⟩ := ob2_some h
        refine x_callV C0 (rest := []) (q := (RX10, TX10, 22)) (c_X10_of l g x1 (9 : Int32) μ4 h1) q4_235 q4_232 q4_234 r2_9 q1_11 hd_X10_of ⟨rfl, rfl⟩ ⟨Nat.le_of_ble_eq_true rfl, Nat.le_of_ble_eq_true rfl⟩ cm_0 (by decide) rfl hP hS hl.1 rfl rfl (Nat.le_of_ble_eq_true rfl) dX10_meterIs_140 (fun H locs hP hS => ?_)
        refine W.eq (g2 := F0 m 143 ls [.int r21]) rfl ?_
        obtain ⟨rfl, rfl⟩ := some2 h
        exact x_iret C0 hP hS dX10_meterIs_143
      rw [if_neg c20] at h
      by_cases c22 : x2 = (8 : Int32)
      · rw [if_pos c22] at h
        refine lv_tableIn (tgt := 144) (off := 119) hx hb dX10_meterIs_25 (by rw [c22]; decide) (by rw [c22]; decide) (by rw [c22]; decide) (by decide) ?_
        refine lv_aload_n hx hb dX10_meterIs_144 rfl (lv_at hl 0 rfl) ?_
        refine lv_iload_n hx hb dX10_meterIs_145 rfl (lv_at hl 1 rfl) ?_
        refine lv_bipush (v := (10 : Int32)) hx hb dX10_meterIs_146 (by decide +kernel) ?_
        obtain ⟨r23, μ23, h1, h⟩ := ob2_some h
        refine x_callV C0 (rest := []) (q := (RX10, TX10, 22)) (c_X10_of l g x1 (10 : Int32) μ4 h1) q4_235 q4_232 q4_234 r2_9 q1_11 hd_X10_of ⟨rfl, rfl⟩ ⟨Nat.le_of_ble_eq_true rfl, Nat.le_of_ble_eq_true rfl⟩ cm_0 (by decide) rfl hP hS hl.1 rfl rfl (Nat.le_of_ble_eq_true rfl) dX10_meterIs_148 (fun H locs hP hS => ?_)
        refine W.eq (g2 := F0 m 151 ls [.int r23]) rfl ?_
        obtain ⟨rfl, rfl⟩ := some2 h
        exact x_iret C0 hP hS dX10_meterIs_151
      rw [if_neg c22] at h
      by_cases c24 : x2 = (9 : Int32)
      · rw [if_pos c24] at h
        refine lv_tableIn (tgt := 152) (off := 127) hx hb dX10_meterIs_25 (by rw [c24]; decide) (by rw [c24]; decide) (by rw [c24]; decide) (by decide) ?_
        refine lv_aload_n hx hb dX10_meterIs_152 rfl (lv_at hl 0 rfl) ?_
        refine lv_iload_n hx hb dX10_meterIs_153 rfl (lv_at hl 1 rfl) ?_
        refine lv_bipush (v := (11 : Int32)) hx hb dX10_meterIs_154 (by decide +kernel) ?_
        obtain ⟨r25, μ25, h1, h⟩ := ob2_some h
        refine x_callV C0 (rest := []) (q := (RX10, TX10, 22)) (c_X10_of l g x1 (11 : Int32) μ4 h1) q4_235 q4_232 q4_234 r2_9 q1_11 hd_X10_of ⟨rfl, rfl⟩ ⟨Nat.le_of_ble_eq_true rfl, Nat.le_of_ble_eq_true rfl⟩ cm_0 (by decide) rfl hP hS hl.1 rfl rfl (Nat.le_of_ble_eq_true rfl) dX10_meterIs_156 (fun H locs hP hS => ?_)
        refine W.eq (g2 := F0 m 159 ls [.int r25]) rfl ?_
        obtain ⟨rfl, rfl⟩ := some2 h
        exact x_iret C0 hP hS dX10_meterIs_159
      rw [if_neg c24] at h
      by_cases c26 : x2 = (10 : Int32)
      · rw [if_pos c26] at h
        refine lv_tableIn (tgt := 160) (off := 135) hx hb dX10_meterIs_25 (by rw [c26]; decide) (by rw [c26]; decide) (by rw [c26]; decide) (by decide) ?_
        refine lv_aload_n hx hb dX10_meterIs_160 rfl (lv_at hl 0 rfl) ?_
        refine lv_iload_n hx hb dX10_meterIs_161 rfl (lv_at hl 1 rfl) ?_
        obtain ⟨r27, μ27, h1, h⟩ := ob2_some h
        refine x_callV C0 (rest := []) (q := (RX10, TX10, 22)) (c_X10_loadedOf l g x1 μ4 h1) q5_3 q5_0 q5_2 r2_10 q1_11 hd_X10_loadedOf ⟨rfl, rfl⟩ ⟨Nat.le_of_ble_eq_true rfl, Nat.le_of_ble_eq_true rfl⟩ cm_0 (by decide) rfl hP hS hl.1 rfl rfl (Nat.le_of_ble_eq_true rfl) dX10_meterIs_162 (fun H locs hP hS => ?_)
        refine W.eq (g2 := F0 m 165 ls [.int r27]) rfl ?_
        obtain ⟨rfl, rfl⟩ := some2 h
        exact x_iret C0 hP hS dX10_meterIs_165
      rw [if_neg c26] at h
      have i6 : ¬ x2.toInt = 0 := fun q => c6 (Int32.toInt_inj.mp (q.trans (by decide)))
      have i8 : ¬ x2.toInt = 1 := fun q => c8 (Int32.toInt_inj.mp (q.trans (by decide)))
      have i10 : ¬ x2.toInt = 2 := fun q => c10 (Int32.toInt_inj.mp (q.trans (by decide)))
      have i12 : ¬ x2.toInt = 3 := fun q => c12 (Int32.toInt_inj.mp (q.trans (by decide)))
      have i14 : ¬ x2.toInt = 4 := fun q => c14 (Int32.toInt_inj.mp (q.trans (by decide)))
      have i16 : ¬ x2.toInt = 5 := fun q => c16 (Int32.toInt_inj.mp (q.trans (by decide)))
      have i18 : ¬ x2.toInt = 6 := fun q => c18 (Int32.toInt_inj.mp (q.trans (by decide)))
      have i20 : ¬ x2.toInt = 7 := fun q => c20 (Int32.toInt_inj.mp (q.trans (by decide)))
      have i22 : ¬ x2.toInt = 8 := fun q => c22 (Int32.toInt_inj.mp (q.trans (by decide)))
      have i24 : ¬ x2.toInt = 9 := fun q => c24 (Int32.toInt_inj.mp (q.trans (by decide)))
      have i26 : ¬ x2.toInt = 10 := fun q => c26 (Int32.toInt_inj.mp (q.trans (by decide)))
      refine lv_tableOut (tgt := 166) hx hb dX10_meterIs_25 (by omega) (by decide) ?_
      refine lv_aload_n hx hb dX10_meterIs_166 rfl (lv_at hl 0 rfl) ?_
      refine lv_iload_n hx hb dX10_meterIs_167 rfl (lv_at hl 1 rfl) ?_
      obtain ⟨r28, μ28, h1, h⟩ := ob2_some h
      refine x_callV C0 (rest := []) (q := (RX10, TX10, 22)) (c_X10_limit l g x1 μ4 h1) q5_11 q5_8 q5_10 r2_12 q1_11 hd_X10_limit ⟨rfl, rfl⟩ ⟨Nat.le_of_ble_eq_true rfl, Nat.le_of_ble_eq_true rfl⟩ cm_0 (by decide) rfl hP hS hl.1 rfl rfl (Nat.le_of_ble_eq_true rfl) dX10_meterIs_168 (fun H locs hP hS => ?_)
      refine W.eq (g2 := F0 m 171 ls [.int r28]) rfl ?_
      obtain ⟨rfl, rfl⟩ := some2 h
      exact x_iret C0 hP hS dX10_meterIs_171
    · rw [if_pos c5] at h
      exact w_X10_meterIs_18 C0   μ4 _ _ _ hP hS (lv_sub hl [0] rfl) h
def X10_load_28   (μ : Mem) : Option (Int32 × Mem) :=
  ob2 (X10_finding (1 : Int32) μ) fun r3 μ3 => some (r3, μ3)
set_option maxRecDepth 100000 in
set_option maxHeartbeats 4000000 in
theorem w_X10_load_28 {g : Gx} {p : Program} {l : Launch} {e : Env} {s : State} {m : MethodId} {args : Array Value} {below : List Frame} {meth : Method} {c : Code} (C0 : Cx Lm g p s m args meth c cX10_load 5 (some .int) RX10) {r : Int32} {ν : Mem}   (μ : Mem) (H : Heap) (locs : List Loc) (ls : Array Slot) (hP : Px Lm g μ H) (hS : va_S (Ax Lm g) s.heap H locs) (hl : lv_has ls 5 [(0, .ref (g.2.2.1 + 0))]) (h : X10_load_28   μ = some (r, ν)) : W p l e { frames := 2, cells := 0, slots := 0, locals := 43 } s m args below meth c H locs 0 0 (MQ below (Qx Lm g (some (.int r)) ν) args s 0 0 (Ax Lm g)) (F0 m 28 ls []) := by
  obtain ⟨hx, hb, hr, hml, hown, hts, hlocks, hK⟩ := id C0
  unfold X10_load_28 at h
  refine lv_aload_n hx hb dX10_load_28 rfl (lv_at hl 0 rfl) ?_
  refine lv_iconst (v := (1 : Int32)) hx hb dX10_load_29 rfl ?_
  obtain ⟨r3, μ3, h1, h⟩ := ob2_some h
  refine x_callV C0 (rest := []) (q := (RX10, TX10, 22)) (c_X10_finding l g (1 : Int32) μ h1) q4_214 q4_211 q4_213 r2_5 q1_11 hd_X10_finding ⟨rfl, rfl⟩ ⟨Nat.le_of_ble_eq_true rfl, Nat.le_of_ble_eq_true rfl⟩ cm_0 (by decide) rfl hP hS hl.1 rfl rfl (Nat.le_of_ble_eq_true rfl) dX10_load_30 (fun H locs hP hS => ?_)
  refine W.eq (g2 := F0 m 33 ls [.int r3]) rfl ?_
  obtain ⟨rfl, rfl⟩ := some2 h
  exact x_iret C0 hP hS dX10_load_33
def X10_load (x1 : Int32) (x2 : Int32) (x3 : Int32) (μ : Mem) : Option (Int32 × Mem) :=
  ob2 (X10_isMeter x1 μ) fun r1 μ1 => (if r1 = (0 : Int32) then X10_load_28 μ1 else ob2 (X10_in x2 (0 : Int32) (23 : Int32) μ1) fun r4 μ4 => (if r4 = (0 : Int32) then X10_load_28 μ4 else ob2 (X10_in x3 (0 : Int32) (9 : Int32) μ4) fun r6 μ6 => (if r6 = (0 : Int32) then X10_load_28 μ6 else ob2 (X10_of x1 ((13 : Int32) + x2) μ6) fun r8 μ8 => ob (X10_set x1 ((13 : Int32) + x2) x3 μ8) fun μ9 => some (r8, μ9))))
set_option maxRecDepth 100000 in
set_option maxHeartbeats 4000000 in
theorem c_X10_load (l : Launch) (g : Gx) (x1 : Int32) (x2 : Int32) (x3 : Int32) (μ : Mem) {r : Int32} {ν : Mem} (h : X10_load x1 x2 x3 μ = some (r, ν)) : Ct Lm g l yX10_load cX10_load 5 (some .int) { frames := 2, cells := 0, slots := 0, locals := 43 } [.ref (g.2.2.1 + 0), .int x1, .int x2, .int x3] μ (some (.int r)) ν := by
  refine x_met (lv := [(0, .ref (g.2.2.1 + 0)), (1, .int x1), (2, .int x2), (3, .int x3)]) rfl (Nat.le_of_ble_eq_true rfl) rfl ?_
  intro p e s m below meth c C0 hP ls hl
  generalize ([.ref (g.2.2.1 + 0), .int x1, .int x2, .int x3] : List Value).toArray = args at C0 ⊢
  have C0 : Cx Lm g p s m args meth c cX10_load 5 (some .int) RX10 := C0
  have hS : va_S (Ax Lm g) s.heap s.heap [] := va_S.rf
  obtain ⟨hx, hb, hr, hml, hown, hts, hlocks, hK⟩ := id C0
  unfold X10_load at h
  skip
  refine lv_aload_n hx hb dX10_load_0 rfl (lv_at hl 0 rfl) ?_
  refine lv_iload_n hx hb dX10_load_1 rfl (lv_at hl 1 rfl) ?_
  obtain ⟨r1, μ1, h1, h⟩ := ob2_some h
  refine x_callV C0 (rest := []) (q := (RX10, TX10, 22)) (c_X10_isMeter l g x1 μ h1) q4_231 q4_228 q4_230 r2_8 q1_11 hd_X10_isMeter ⟨rfl, rfl⟩ ⟨Nat.le_of_ble_eq_true rfl, Nat.le_of_ble_eq_true rfl⟩ cm_0 (by decide) rfl hP hS hl.1 rfl rfl (Nat.le_of_ble_eq_true rfl) dX10_load_2 (fun H locs hP hS => ?_)
  refine W.eq (g2 := F0 m 5 ls [.int r1]) rfl ?_
  refine lv_if_eq (tgt := 28) hx hb dX10_load_5 (by decide) (fun c2 => ?_) (fun c2 => ?_)
  · rw [if_pos c2] at h
    exact w_X10_load_28 C0   μ1 _ _ _ hP hS (lv_sub hl [0] rfl) h
  · rw [if_neg c2] at h
    refine lv_iload_n hx hb dX10_load_8 rfl (lv_at hl 2 rfl) ?_
    refine lv_iconst (v := (0 : Int32)) hx hb dX10_load_9 rfl ?_
    refine lv_bipush (v := (23 : Int32)) hx hb dX10_load_10 (by decide +kernel) ?_
    obtain ⟨r4, μ4, h1, h⟩ := ob2_some h
    refine x_callS C0 (rest := []) (c_X10_in l g x2 (0 : Int32) (23 : Int32) μ1 h1) q4_207 q4_205 q4_206 q1_11 hd_X10_in ⟨rfl, rfl⟩ ⟨Nat.le_of_ble_eq_true rfl, Nat.le_of_ble_eq_true rfl⟩ hP hS hl.1 rfl rfl (Nat.le_of_ble_eq_true rfl) dX10_load_12 (fun H locs hP hS => ?_)
    refine W.eq (g2 := F0 m 15 ls [.int r4]) rfl ?_
    refine lv_if_eq (tgt := 28) hx hb dX10_load_15 (by decide) (fun c5 => ?_) (fun c5 => ?_)
    · rw [if_pos c5] at h
      exact w_X10_load_28 C0   μ4 _ _ _ hP hS (lv_sub hl [0] rfl) h
    · rw [if_neg c5] at h
      refine lv_iload_n hx hb dX10_load_18 rfl (lv_at hl 3 rfl) ?_
      refine lv_iconst (v := (0 : Int32)) hx hb dX10_load_19 rfl ?_
      refine lv_bipush (v := (9 : Int32)) hx hb dX10_load_20 (by decide +kernel) ?_
      obtain ⟨r6, μ6, h1, h⟩ := ob2_some h
      refine x_callS C0 (rest := []) (c_X10_in l g x3 (0 : Int32) (9 : Int32) μ4 h1) q4_207 q4_205 q4_206 q1_11 hd_X10_in ⟨rfl, rfl⟩ ⟨Nat.le_of_ble_eq_true rfl, Nat.le_of_ble_eq_true rfl⟩ hP hS hl.1 rfl rfl (Nat.le_of_ble_eq_true rfl) dX10_load_22 (fun H locs hP hS => ?_)
      refine W.eq (g2 := F0 m 25 ls [.int r6]) rfl ?_
      refine lv_if_ne (tgt := 34) hx hb dX10_load_25 (by decide) (fun c7 => ?_) (fun c7 => ?_)
      · rw [if_neg c7] at h
        refine lv_aload_n hx hb dX10_load_34 rfl (lv_at hl 0 rfl) ?_
        refine lv_iload_n hx hb dX10_load_35 rfl (lv_at hl 1 rfl) ?_
        refine lv_bipush (v := (13 : Int32)) hx hb dX10_load_36 (by decide +kernel) ?_
        refine lv_iload_n hx hb dX10_load_38 rfl (lv_at hl 2 rfl) ?_
        refine lv_iadd hx hb dX10_load_39 ?_
        obtain ⟨r8, μ8, h1, h⟩ := ob2_some h
        refine x_callV C0 (rest := []) (q := (RX10, TX10, 22)) (c_X10_of l g x1 ((13 : Int32) + x2) μ6 h1) q4_235 q4_232 q4_234 r2_9 q1_11 hd_X10_of ⟨rfl, rfl⟩ ⟨Nat.le_of_ble_eq_true rfl, Nat.le_of_ble_eq_true rfl⟩ cm_0 (by decide) rfl hP hS hl.1 rfl rfl (Nat.le_of_ble_eq_true rfl) dX10_load_40 (fun H locs hP hS => ?_)
        refine W.eq (g2 := F0 m 43 ls [.int r8]) rfl ?_
        refine lv_istore (lv' := [(4, .int r8), (0, .ref (g.2.2.1 + 0)), (1, .int x1), (2, .int x2), (3, .int x3)]) hx hb dX10_load_43 hl (by decide) rfl (fun ls hl => ?_)
        refine lv_aload_n hx hb dX10_load_45 rfl (lv_at hl 1 rfl) ?_
        refine lv_iload_n hx hb dX10_load_46 rfl (lv_at hl 2 rfl) ?_
        refine lv_bipush (v := (13 : Int32)) hx hb dX10_load_47 (by decide +kernel) ?_
        refine lv_iload_n hx hb dX10_load_49 rfl (lv_at hl 3 rfl) ?_
        refine lv_iadd hx hb dX10_load_50 ?_
        refine lv_iload_n hx hb dX10_load_51 rfl (lv_at hl 4 rfl) ?_
        obtain ⟨μ9, h1, h⟩ := ob_some h
        refine x_callV C0 (rest := []) (q := (RX10, TX10, 22)) (c_X10_set l g x1 ((13 : Int32) + x2) x3 μ8 h1) q4_219 q4_216 q4_218 r2_6 q1_11 hd_X10_set ⟨rfl, rfl⟩ ⟨Nat.le_of_ble_eq_true rfl, Nat.le_of_ble_eq_true rfl⟩ cm_0 (by decide) rfl hP hS hl.1 rfl rfl (Nat.le_of_ble_eq_true rfl) dX10_load_52 (fun H locs hP hS => ?_)
        refine W.eq (g2 := F0 m 55 ls []) rfl ?_
        refine lv_iload hx hb dX10_load_55 (lv_at hl 0 rfl) ?_
        obtain ⟨rfl, rfl⟩ := some2 h
        exact x_iret C0 hP hS dX10_load_57
      · rw [if_pos c7] at h
        exact w_X10_load_28 C0   μ6 _ _ _ hP hS (lv_sub hl [0] rfl) h
def X10_owe_19   (μ : Mem) : Option (Int32 × Mem) :=
  ob2 (X10_finding (1 : Int32) μ) fun r3 μ3 => some (r3, μ3)
set_option maxRecDepth 100000 in
set_option maxHeartbeats 4000000 in
theorem w_X10_owe_19 {g : Gx} {p : Program} {l : Launch} {e : Env} {s : State} {m : MethodId} {args : Array Value} {below : List Frame} {meth : Method} {c : Code} (C0 : Cx Lm g p s m args meth c cX10_owe 3 (some .int) RX10) {r : Int32} {ν : Mem}   (μ : Mem) (H : Heap) (locs : List Loc) (ls : Array Slot) (hP : Px Lm g μ H) (hS : va_S (Ax Lm g) s.heap H locs) (hl : lv_has ls 3 [(0, .ref (g.2.2.1 + 0))]) (h : X10_owe_19   μ = some (r, ν)) : W p l e { frames := 2, cells := 0, slots := 0, locals := 43 } s m args below meth c H locs 0 0 (MQ below (Qx Lm g (some (.int r)) ν) args s 0 0 (Ax Lm g)) (F0 m 19 ls []) := by
  obtain ⟨hx, hb, hr, hml, hown, hts, hlocks, hK⟩ := id C0
  unfold X10_owe_19 at h
  refine lv_aload_n hx hb dX10_owe_19 rfl (lv_at hl 0 rfl) ?_
  refine lv_iconst (v := (1 : Int32)) hx hb dX10_owe_20 rfl ?_
  obtain ⟨r3, μ3, h1, h⟩ := ob2_some h
  refine x_callV C0 (rest := []) (q := (RX10, TX10, 22)) (c_X10_finding l g (1 : Int32) μ h1) q4_214 q4_211 q4_213 r2_5 q1_11 hd_X10_finding ⟨rfl, rfl⟩ ⟨Nat.le_of_ble_eq_true rfl, Nat.le_of_ble_eq_true rfl⟩ cm_0 (by decide) rfl hP hS hl.1 rfl rfl (Nat.le_of_ble_eq_true rfl) dX10_owe_21 (fun H locs hP hS => ?_)
  refine W.eq (g2 := F0 m 24 ls [.int r3]) rfl ?_
  obtain ⟨rfl, rfl⟩ := some2 h
  exact x_iret C0 hP hS dX10_owe_24
def X10_owe (x1 : Int32) (x2 : Int32) (μ : Mem) : Option (Int32 × Mem) :=
  ob2 (X10_isMeter x1 μ) fun r1 μ1 => (if r1 = (0 : Int32) then X10_owe_19 μ1 else ob2 (X10_in x2 (1 : Int32) (9999 : Int32) μ1) fun r4 μ4 => (if r4 = (0 : Int32) then X10_owe_19 μ4 else ob2 (X10_of x1 (4 : Int32) μ4) fun r6 μ6 => (if (r6 + x2) ≤ (99999 : Int32) then ob (X10_more x1 (4 : Int32) x2 μ6) fun μ8 => ob2 (X10_of x1 (4 : Int32) μ8) fun r9 μ9 => some (r9, μ9) else ob2 (X10_finding (4 : Int32) μ6) fun r10 μ10 => some (r10, μ10))))
set_option maxRecDepth 100000 in
set_option maxHeartbeats 4000000 in
theorem c_X10_owe (l : Launch) (g : Gx) (x1 : Int32) (x2 : Int32) (μ : Mem) {r : Int32} {ν : Mem} (h : X10_owe x1 x2 μ = some (r, ν)) : Ct Lm g l yX10_owe cX10_owe 3 (some .int) { frames := 2, cells := 0, slots := 0, locals := 43 } [.ref (g.2.2.1 + 0), .int x1, .int x2] μ (some (.int r)) ν := by
  refine x_met (lv := [(0, .ref (g.2.2.1 + 0)), (1, .int x1), (2, .int x2)]) rfl (Nat.le_of_ble_eq_true rfl) rfl ?_
  intro p e s m below meth c C0 hP ls hl
  generalize ([.ref (g.2.2.1 + 0), .int x1, .int x2] : List Value).toArray = args at C0 ⊢
  have C0 : Cx Lm g p s m args meth c cX10_owe 3 (some .int) RX10 := C0
  have hS : va_S (Ax Lm g) s.heap s.heap [] := va_S.rf
  obtain ⟨hx, hb, hr, hml, hown, hts, hlocks, hK⟩ := id C0
  unfold X10_owe at h
  skip
  refine lv_aload_n hx hb dX10_owe_0 rfl (lv_at hl 0 rfl) ?_
  refine lv_iload_n hx hb dX10_owe_1 rfl (lv_at hl 1 rfl) ?_
  obtain ⟨r1, μ1, h1, h⟩ := ob2_some h
  refine x_callV C0 (rest := []) (q := (RX10, TX10, 22)) (c_X10_isMeter l g x1 μ h1) q4_231 q4_228 q4_230 r2_8 q1_11 hd_X10_isMeter ⟨rfl, rfl⟩ ⟨Nat.le_of_ble_eq_true rfl, Nat.le_of_ble_eq_true rfl⟩ cm_0 (by decide) rfl hP hS hl.1 rfl rfl (Nat.le_of_ble_eq_true rfl) dX10_owe_2 (fun H locs hP hS => ?_)
  refine W.eq (g2 := F0 m 5 ls [.int r1]) rfl ?_
  refine lv_if_eq (tgt := 19) hx hb dX10_owe_5 (by decide) (fun c2 => ?_) (fun c2 => ?_)
  · rw [if_pos c2] at h
    exact w_X10_owe_19 C0   μ1 _ _ _ hP hS (lv_sub hl [0] rfl) h
  · rw [if_neg c2] at h
    refine lv_iload_n hx hb dX10_owe_8 rfl (lv_at hl 2 rfl) ?_
    refine lv_iconst (v := (1 : Int32)) hx hb dX10_owe_9 rfl ?_
    refine lv_sipush (v := (9999 : Int32)) hx hb dX10_owe_10 (by decide +kernel) ?_
    obtain ⟨r4, μ4, h1, h⟩ := ob2_some h
    refine x_callS C0 (rest := []) (c_X10_in l g x2 (1 : Int32) (9999 : Int32) μ1 h1) q4_207 q4_205 q4_206 q1_11 hd_X10_in ⟨rfl, rfl⟩ ⟨Nat.le_of_ble_eq_true rfl, Nat.le_of_ble_eq_true rfl⟩ hP hS hl.1 rfl rfl (Nat.le_of_ble_eq_true rfl) dX10_owe_13 (fun H locs hP hS => ?_)
    refine W.eq (g2 := F0 m 16 ls [.int r4]) rfl ?_
    refine lv_if_ne (tgt := 25) hx hb dX10_owe_16 (by decide) (fun c5 => ?_) (fun c5 => ?_)
    · rw [if_neg c5] at h
      refine lv_aload_n hx hb dX10_owe_25 rfl (lv_at hl 0 rfl) ?_
      refine lv_iload_n hx hb dX10_owe_26 rfl (lv_at hl 1 rfl) ?_
      refine lv_iconst (v := (4 : Int32)) hx hb dX10_owe_27 rfl ?_
      obtain ⟨r6, μ6, h1, h⟩ := ob2_some h
      refine x_callV C0 (rest := []) (q := (RX10, TX10, 22)) (c_X10_of l g x1 (4 : Int32) μ4 h1) q4_235 q4_232 q4_234 r2_9 q1_11 hd_X10_of ⟨rfl, rfl⟩ ⟨Nat.le_of_ble_eq_true rfl, Nat.le_of_ble_eq_true rfl⟩ cm_0 (by decide) rfl hP hS hl.1 rfl rfl (Nat.le_of_ble_eq_true rfl) dX10_owe_28 (fun H locs hP hS => ?_)
      refine W.eq (g2 := F0 m 31 ls [.int r6]) rfl ?_
      refine lv_iload_n hx hb dX10_owe_31 rfl (lv_at hl 2 rfl) ?_
      refine lv_iadd hx hb dX10_owe_32 ?_
      refine lv_ldc (v := (99999 : Int32)) hx hb hown (hts _ q5_20) dX10_owe_33 ?_
      refine lv_icmp_le (tgt := 44) hx hb dX10_owe_35 (by decide) (fun c7 => ?_) (fun c7 => ?_)
      · rw [if_pos c7] at h
        refine lv_aload_n hx hb dX10_owe_44 rfl (lv_at hl 0 rfl) ?_
        refine lv_iload_n hx hb dX10_owe_45 rfl (lv_at hl 1 rfl) ?_
        refine lv_iconst (v := (4 : Int32)) hx hb dX10_owe_46 rfl ?_
        refine lv_iload_n hx hb dX10_owe_47 rfl (lv_at hl 2 rfl) ?_
        obtain ⟨μ8, h1, h⟩ := ob_some h
        refine x_callV C0 (rest := []) (q := (RX10, TX10, 22)) (c_X10_more l g x1 (4 : Int32) x2 μ6 h1) q5_24 q5_21 q5_23 r2_13 q1_11 hd_X10_more ⟨rfl, rfl⟩ ⟨Nat.le_of_ble_eq_true rfl, Nat.le_of_ble_eq_true rfl⟩ cm_0 (by decide) rfl hP hS hl.1 rfl rfl (Nat.le_of_ble_eq_true rfl) dX10_owe_48 (fun H locs hP hS => ?_)
        refine W.eq (g2 := F0 m 51 ls []) rfl ?_
        refine lv_aload_n hx hb dX10_owe_51 rfl (lv_at hl 0 rfl) ?_
        refine lv_iload_n hx hb dX10_owe_52 rfl (lv_at hl 1 rfl) ?_
        refine lv_iconst (v := (4 : Int32)) hx hb dX10_owe_53 rfl ?_
        obtain ⟨r9, μ9, h1, h⟩ := ob2_some h
        refine x_callV C0 (rest := []) (q := (RX10, TX10, 22)) (c_X10_of l g x1 (4 : Int32) μ8 h1) q4_235 q4_232 q4_234 r2_9 q1_11 hd_X10_of ⟨rfl, rfl⟩ ⟨Nat.le_of_ble_eq_true rfl, Nat.le_of_ble_eq_true rfl⟩ cm_0 (by decide) rfl hP hS hl.1 rfl rfl (Nat.le_of_ble_eq_true rfl) dX10_owe_54 (fun H locs hP hS => ?_)
        refine W.eq (g2 := F0 m 57 ls [.int r9]) rfl ?_
        obtain ⟨rfl, rfl⟩ := some2 h
        exact x_iret C0 hP hS dX10_owe_57
      · rw [if_neg c7] at h
        refine lv_aload_n hx hb dX10_owe_38 rfl (lv_at hl 0 rfl) ?_
        refine lv_iconst (v := (4 : Int32)) hx hb dX10_owe_39 rfl ?_
        obtain ⟨r10, μ10, h1, h⟩ := ob2_some h
        refine x_callV C0 (rest := []) (q := (RX10, TX10, 22)) (c_X10_finding l g (4 : Int32) μ6 h1) q4_214 q4_211 q4_213 r2_5 q1_11 hd_X10_finding ⟨rfl, rfl⟩ ⟨Nat.le_of_ble_eq_true rfl, Nat.le_of_ble_eq_true rfl⟩ cm_0 (by decide) rfl hP hS hl.1 rfl rfl (Nat.le_of_ble_eq_true rfl) dX10_owe_40 (fun H locs hP hS => ?_)
        refine W.eq (g2 := F0 m 43 ls [.int r10]) rfl ?_
        obtain ⟨rfl, rfl⟩ := some2 h
        exact x_iret C0 hP hS dX10_owe_43
    · rw [if_pos c5] at h
      exact w_X10_owe_19 C0   μ4 _ _ _ hP hS (lv_sub hl [0] rfl) h
def X10_part_19   (μ : Mem) : Option (Int32 × Mem) :=
  ob2 (X10_finding (1 : Int32) μ) fun r3 μ3 => some (r3, μ3)
set_option maxRecDepth 100000 in
set_option maxHeartbeats 4000000 in
theorem w_X10_part_19 {g : Gx} {p : Program} {l : Launch} {e : Env} {s : State} {m : MethodId} {args : Array Value} {below : List Frame} {meth : Method} {c : Code} (C0 : Cx Lm g p s m args meth c cX10_part 4 (some .int) RX10) {r : Int32} {ν : Mem}   (μ : Mem) (H : Heap) (locs : List Loc) (ls : Array Slot) (hP : Px Lm g μ H) (hS : va_S (Ax Lm g) s.heap H locs) (hl : lv_has ls 4 [(0, .ref (g.2.2.1 + 0))]) (h : X10_part_19   μ = some (r, ν)) : W p l e { frames := 2, cells := 0, slots := 0, locals := 43 } s m args below meth c H locs 0 0 (MQ below (Qx Lm g (some (.int r)) ν) args s 0 0 (Ax Lm g)) (F0 m 19 ls []) := by
  obtain ⟨hx, hb, hr, hml, hown, hts, hlocks, hK⟩ := id C0
  unfold X10_part_19 at h
  refine lv_aload_n hx hb dX10_part_19 rfl (lv_at hl 0 rfl) ?_
  refine lv_iconst (v := (1 : Int32)) hx hb dX10_part_20 rfl ?_
  obtain ⟨r3, μ3, h1, h⟩ := ob2_some h
  refine x_callV C0 (rest := []) (q := (RX10, TX10, 22)) (c_X10_finding l g (1 : Int32) μ h1) q4_214 q4_211 q4_213 r2_5 q1_11 hd_X10_finding ⟨rfl, rfl⟩ ⟨Nat.le_of_ble_eq_true rfl, Nat.le_of_ble_eq_true rfl⟩ cm_0 (by decide) rfl hP hS hl.1 rfl rfl (Nat.le_of_ble_eq_true rfl) dX10_part_21 (fun H locs hP hS => ?_)
  refine W.eq (g2 := F0 m 24 ls [.int r3]) rfl ?_
  obtain ⟨rfl, rfl⟩ := some2 h
  exact x_iret C0 hP hS dX10_part_24
def X10_part (x1 : Int32) (x2 : Int32) (μ : Mem) : Option (Int32 × Mem) :=
  ob2 (X10_isMeter x1 μ) fun r1 μ1 => (if r1 = (0 : Int32) then X10_part_19 μ1 else ob2 (X10_in x2 (0 : Int32) (200 : Int32) μ1) fun r4 μ4 => (if r4 = (0 : Int32) then X10_part_19 μ4 else ob2 (X10_of x1 (5 : Int32) μ4) fun r6 μ6 => ob (X10_set x1 (5 : Int32) x2 μ6) fun μ7 => some (r6, μ7)))
set_option maxRecDepth 100000 in
set_option maxHeartbeats 4000000 in
theorem c_X10_part (l : Launch) (g : Gx) (x1 : Int32) (x2 : Int32) (μ : Mem) {r : Int32} {ν : Mem} (h : X10_part x1 x2 μ = some (r, ν)) : Ct Lm g l yX10_part cX10_part 4 (some .int) { frames := 2, cells := 0, slots := 0, locals := 43 } [.ref (g.2.2.1 + 0), .int x1, .int x2] μ (some (.int r)) ν := by
  refine x_met (lv := [(0, .ref (g.2.2.1 + 0)), (1, .int x1), (2, .int x2)]) rfl (Nat.le_of_ble_eq_true rfl) rfl ?_
  intro p e s m below meth c C0 hP ls hl
  generalize ([.ref (g.2.2.1 + 0), .int x1, .int x2] : List Value).toArray = args at C0 ⊢
  have C0 : Cx Lm g p s m args meth c cX10_part 4 (some .int) RX10 := C0
  have hS : va_S (Ax Lm g) s.heap s.heap [] := va_S.rf
  obtain ⟨hx, hb, hr, hml, hown, hts, hlocks, hK⟩ := id C0
  unfold X10_part at h
  skip
  refine lv_aload_n hx hb dX10_part_0 rfl (lv_at hl 0 rfl) ?_
  refine lv_iload_n hx hb dX10_part_1 rfl (lv_at hl 1 rfl) ?_
  obtain ⟨r1, μ1, h1, h⟩ := ob2_some h
  refine x_callV C0 (rest := []) (q := (RX10, TX10, 22)) (c_X10_isMeter l g x1 μ h1) q4_231 q4_228 q4_230 r2_8 q1_11 hd_X10_isMeter ⟨rfl, rfl⟩ ⟨Nat.le_of_ble_eq_true rfl, Nat.le_of_ble_eq_true rfl⟩ cm_0 (by decide) rfl hP hS hl.1 rfl rfl (Nat.le_of_ble_eq_true rfl) dX10_part_2 (fun H locs hP hS => ?_)
  refine W.eq (g2 := F0 m 5 ls [.int r1]) rfl ?_
  refine lv_if_eq (tgt := 19) hx hb dX10_part_5 (by decide) (fun c2 => ?_) (fun c2 => ?_)
  · rw [if_pos c2] at h
    exact w_X10_part_19 C0   μ1 _ _ _ hP hS (lv_sub hl [0] rfl) h
  · rw [if_neg c2] at h
    refine lv_iload_n hx hb dX10_part_8 rfl (lv_at hl 2 rfl) ?_
    refine lv_iconst (v := (0 : Int32)) hx hb dX10_part_9 rfl ?_
    refine lv_sipush (v := (200 : Int32)) hx hb dX10_part_10 (by decide +kernel) ?_
    obtain ⟨r4, μ4, h1, h⟩ := ob2_some h
    refine x_callS C0 (rest := []) (c_X10_in l g x2 (0 : Int32) (200 : Int32) μ1 h1) q4_207 q4_205 q4_206 q1_11 hd_X10_in ⟨rfl, rfl⟩ ⟨Nat.le_of_ble_eq_true rfl, Nat.le_of_ble_eq_true rfl⟩ hP hS hl.1 rfl rfl (Nat.le_of_ble_eq_true rfl) dX10_part_13 (fun H locs hP hS => ?_)
    refine W.eq (g2 := F0 m 16 ls [.int r4]) rfl ?_
    refine lv_if_ne (tgt := 25) hx hb dX10_part_16 (by decide) (fun c5 => ?_) (fun c5 => ?_)
    · rw [if_neg c5] at h
      refine lv_aload_n hx hb dX10_part_25 rfl (lv_at hl 0 rfl) ?_
      refine lv_iload_n hx hb dX10_part_26 rfl (lv_at hl 1 rfl) ?_
      refine lv_iconst (v := (5 : Int32)) hx hb dX10_part_27 rfl ?_
      obtain ⟨r6, μ6, h1, h⟩ := ob2_some h
      refine x_callV C0 (rest := []) (q := (RX10, TX10, 22)) (c_X10_of l g x1 (5 : Int32) μ4 h1) q4_235 q4_232 q4_234 r2_9 q1_11 hd_X10_of ⟨rfl, rfl⟩ ⟨Nat.le_of_ble_eq_true rfl, Nat.le_of_ble_eq_true rfl⟩ cm_0 (by decide) rfl hP hS hl.1 rfl rfl (Nat.le_of_ble_eq_true rfl) dX10_part_28 (fun H locs hP hS => ?_)
      refine W.eq (g2 := F0 m 31 ls [.int r6]) rfl ?_
      refine lv_istore_n (lv' := [(3, .int r6), (0, .ref (g.2.2.1 + 0)), (1, .int x1), (2, .int x2)]) hx hb dX10_part_31 rfl hl (by decide) rfl (fun ls hl => ?_)
      refine lv_aload_n hx hb dX10_part_32 rfl (lv_at hl 1 rfl) ?_
      refine lv_iload_n hx hb dX10_part_33 rfl (lv_at hl 2 rfl) ?_
      refine lv_iconst (v := (5 : Int32)) hx hb dX10_part_34 rfl ?_
      refine lv_iload_n hx hb dX10_part_35 rfl (lv_at hl 3 rfl) ?_
      obtain ⟨μ7, h1, h⟩ := ob_some h
      refine x_callV C0 (rest := []) (q := (RX10, TX10, 22)) (c_X10_set l g x1 (5 : Int32) x2 μ6 h1) q4_219 q4_216 q4_218 r2_6 q1_11 hd_X10_set ⟨rfl, rfl⟩ ⟨Nat.le_of_ble_eq_true rfl, Nat.le_of_ble_eq_true rfl⟩ cm_0 (by decide) rfl hP hS hl.1 rfl rfl (Nat.le_of_ble_eq_true rfl) dX10_part_36 (fun H locs hP hS => ?_)
      refine W.eq (g2 := F0 m 39 ls []) rfl ?_
      refine lv_iload_n hx hb dX10_part_39 rfl (lv_at hl 0 rfl) ?_
      obtain ⟨rfl, rfl⟩ := some2 h
      exact x_iret C0 hP hS dX10_part_40
    · rw [if_pos c5] at h
      exact w_X10_part_19 C0   μ4 _ _ _ hP hS (lv_sub hl [0] rfl) h
def X10_moveIn_50  (x1 : Int32) (x2 : Int32) (t1 : Int32) (t2 : Int32) (t3 : Int32) (μ : Mem) : Option (Int32 × Mem) :=
  ob (X10_set t1 t2 t3 μ) fun μ8 => ob (X10_set x1 (11 : Int32) (0 : Int32) μ8) fun μ9 => some (x2, μ9)
set_option maxRecDepth 100000 in
set_option maxHeartbeats 4000000 in
theorem w_X10_moveIn_50 {g : Gx} {p : Program} {l : Launch} {e : Env} {s : State} {m : MethodId} {args : Array Value} {below : List Frame} {meth : Method} {c : Code} (C0 : Cx Lm g p s m args meth c cX10_moveIn 3 (some .int) RX10) {r : Int32} {ν : Mem}  (x1 : Int32) (x2 : Int32) (t1 : Int32) (t2 : Int32) (t3 : Int32) (μ : Mem) (H : Heap) (locs : List Loc) (ls : Array Slot) (hP : Px Lm g μ H) (hS : va_S (Ax Lm g) s.heap H locs) (hl : lv_has ls 3 [(0, .ref (g.2.2.1 + 0)), (1, .int x1), (2, .int x2)]) (h : X10_moveIn_50  x1 x2 t1 t2 t3 μ = some (r, ν)) : W p l e { frames := 2, cells := 0, slots := 0, locals := 43 } s m args below meth c H locs 0 0 (MQ below (Qx Lm g (some (.int r)) ν) args s 0 0 (Ax Lm g)) (F0 m 50 ls [.int t3, .int t2, .int t1, .ref (g.2.2.1 + 0)]) := by
  obtain ⟨hx, hb, hr, hml, hown, hts, hlocks, hK⟩ := id C0
  unfold X10_moveIn_50 at h
  obtain ⟨μ8, h1, h⟩ := ob_some h
  refine x_callV C0 (rest := []) (q := (RX10, TX10, 22)) (c_X10_set l g t1 t2 t3 μ h1) q4_219 q4_216 q4_218 r2_6 q1_11 hd_X10_set ⟨rfl, rfl⟩ ⟨Nat.le_of_ble_eq_true rfl, Nat.le_of_ble_eq_true rfl⟩ cm_0 (by decide) rfl hP hS hl.1 rfl rfl (Nat.le_of_ble_eq_true rfl) dX10_moveIn_50 (fun H locs hP hS => ?_)
  refine W.eq (g2 := F0 m 53 ls []) rfl ?_
  refine lv_aload_n hx hb dX10_moveIn_53 rfl (lv_at hl 0 rfl) ?_
  refine lv_iload_n hx hb dX10_moveIn_54 rfl (lv_at hl 1 rfl) ?_
  refine lv_bipush (v := (11 : Int32)) hx hb dX10_moveIn_55 (by decide +kernel) ?_
  refine lv_iconst (v := (0 : Int32)) hx hb dX10_moveIn_57 rfl ?_
  obtain ⟨μ9, h1, h⟩ := ob_some h
  refine x_callV C0 (rest := []) (q := (RX10, TX10, 22)) (c_X10_set l g x1 (11 : Int32) (0 : Int32) μ8 h1) q4_219 q4_216 q4_218 r2_6 q1_11 hd_X10_set ⟨rfl, rfl⟩ ⟨Nat.le_of_ble_eq_true rfl, Nat.le_of_ble_eq_true rfl⟩ cm_0 (by decide) rfl hP hS hl.1 rfl rfl (Nat.le_of_ble_eq_true rfl) dX10_moveIn_58 (fun H locs hP hS => ?_)
  refine W.eq (g2 := F0 m 61 ls []) rfl ?_
  refine lv_iload_n hx hb dX10_moveIn_61 rfl (lv_at hl 2 rfl) ?_
  obtain ⟨rfl, rfl⟩ := some2 h
  exact x_iret C0 hP hS dX10_moveIn_62
def X10_moveIn (x1 : Int32) (μ : Mem) : Option (Int32 × Mem) :=
  ob2 (X10_isMeter x1 μ) fun r1 μ1 => (if r1 = (0 : Int32) then ob2 (X10_finding (1 : Int32) μ1) fun r10 μ10 => some (r10, μ10) else ob2 (X10_of x1 (4 : Int32) μ1) fun r3 μ3 => ob (X10_set x1 (4 : Int32) (0 : Int32) μ3) fun μ4 => ob2 (X10_of x1 (3 : Int32) μ4) fun r5 μ5 => (if (0 : Int32) ≤ r5 then ob2 (X10_of x1 (3 : Int32) μ5) fun r7 μ7 => X10_moveIn_50 x1 r3 x1 (3 : Int32) r7 μ7 else X10_moveIn_50 x1 r3 x1 (3 : Int32) (0 : Int32) μ5))
set_option maxRecDepth 100000 in
set_option maxHeartbeats 4000000 in
theorem c_X10_moveIn (l : Launch) (g : Gx) (x1 : Int32) (μ : Mem) {r : Int32} {ν : Mem} (h : X10_moveIn x1 μ = some (r, ν)) : Ct Lm g l yX10_moveIn cX10_moveIn 3 (some .int) { frames := 2, cells := 0, slots := 0, locals := 43 } [.ref (g.2.2.1 + 0), .int x1] μ (some (.int r)) ν := by
  refine x_met (lv := [(0, .ref (g.2.2.1 + 0)), (1, .int x1)]) rfl (Nat.le_of_ble_eq_true rfl) rfl ?_
  intro p e s m below meth c C0 hP ls hl
  generalize ([.ref (g.2.2.1 + 0), .int x1] : List Value).toArray = args at C0 ⊢
  have C0 : Cx Lm g p s m args meth c cX10_moveIn 3 (some .int) RX10 := C0
  have hS : va_S (Ax Lm g) s.heap s.heap [] := va_S.rf
  obtain ⟨hx, hb, hr, hml, hown, hts, hlocks, hK⟩ := id C0
  unfold X10_moveIn at h
  skip
  refine lv_aload_n hx hb dX10_moveIn_0 rfl (lv_at hl 0 rfl) ?_
  refine lv_iload_n hx hb dX10_moveIn_1 rfl (lv_at hl 1 rfl) ?_
  obtain ⟨r1, μ1, h1, h⟩ := ob2_some h
  refine x_callV C0 (rest := []) (q := (RX10, TX10, 22)) (c_X10_isMeter l g x1 μ h1) q4_231 q4_228 q4_230 r2_8 q1_11 hd_X10_isMeter ⟨rfl, rfl⟩ ⟨Nat.le_of_ble_eq_true rfl, Nat.le_of_ble_eq_true rfl⟩ cm_0 (by decide) rfl hP hS hl.1 rfl rfl (Nat.le_of_ble_eq_true rfl) dX10_moveIn_2 (fun H locs hP hS => ?_)
  refine W.eq (g2 := F0 m 5 ls [.int r1]) rfl ?_
  refine lv_if_ne (tgt := 14) hx hb dX10_moveIn_5 (by decide) (fun c2 => ?_) (fun c2 => ?_)
  · rw [if_neg c2] at h
    refine lv_aload_n hx hb dX10_moveIn_14 rfl (lv_at hl 0 rfl) ?_
    refine lv_iload_n hx hb dX10_moveIn_15 rfl (lv_at hl 1 rfl) ?_
    refine lv_iconst (v := (4 : Int32)) hx hb dX10_moveIn_16 rfl ?_
    obtain ⟨r3, μ3, h1, h⟩ := ob2_some h
    refine x_callV C0 (rest := []) (q := (RX10, TX10, 22)) (c_X10_of l g x1 (4 : Int32) μ1 h1) q4_235 q4_232 q4_234 r2_9 q1_11 hd_X10_of ⟨rfl, rfl⟩ ⟨Nat.le_of_ble_eq_true rfl, Nat.le_of_ble_eq_true rfl⟩ cm_0 (by decide) rfl hP hS hl.1 rfl rfl (Nat.le_of_ble_eq_true rfl) dX10_moveIn_17 (fun H locs hP hS => ?_)
    refine W.eq (g2 := F0 m 20 ls [.int r3]) rfl ?_
    refine lv_istore_n (lv' := [(2, .int r3), (0, .ref (g.2.2.1 + 0)), (1, .int x1)]) hx hb dX10_moveIn_20 rfl hl (by decide) rfl (fun ls hl => ?_)
    refine lv_aload_n hx hb dX10_moveIn_21 rfl (lv_at hl 1 rfl) ?_
    refine lv_iload_n hx hb dX10_moveIn_22 rfl (lv_at hl 2 rfl) ?_
    refine lv_iconst (v := (4 : Int32)) hx hb dX10_moveIn_23 rfl ?_
    refine lv_iconst (v := (0 : Int32)) hx hb dX10_moveIn_24 rfl ?_
    obtain ⟨μ4, h1, h⟩ := ob_some h
    refine x_callV C0 (rest := []) (q := (RX10, TX10, 22)) (c_X10_set l g x1 (4 : Int32) (0 : Int32) μ3 h1) q4_219 q4_216 q4_218 r2_6 q1_11 hd_X10_set ⟨rfl, rfl⟩ ⟨Nat.le_of_ble_eq_true rfl, Nat.le_of_ble_eq_true rfl⟩ cm_0 (by decide) rfl hP hS hl.1 rfl rfl (Nat.le_of_ble_eq_true rfl) dX10_moveIn_25 (fun H locs hP hS => ?_)
    refine W.eq (g2 := F0 m 28 ls []) rfl ?_
    refine lv_aload_n hx hb dX10_moveIn_28 rfl (lv_at hl 1 rfl) ?_
    refine lv_iload_n hx hb dX10_moveIn_29 rfl (lv_at hl 2 rfl) ?_
    refine lv_iconst (v := (3 : Int32)) hx hb dX10_moveIn_30 rfl ?_
    refine lv_aload_n hx hb dX10_moveIn_31 rfl (lv_at hl 1 rfl) ?_
    refine lv_iload_n hx hb dX10_moveIn_32 rfl (lv_at hl 2 rfl) ?_
    refine lv_iconst (v := (3 : Int32)) hx hb dX10_moveIn_33 rfl ?_
    obtain ⟨r5, μ5, h1, h⟩ := ob2_some h
    refine x_callV C0 (rest := [.int (3 : Int32), .int x1, .ref (g.2.2.1 + 0)]) (q := (RX10, TX10, 22)) (c_X10_of l g x1 (3 : Int32) μ4 h1) q4_235 q4_232 q4_234 r2_9 q1_11 hd_X10_of ⟨rfl, rfl⟩ ⟨Nat.le_of_ble_eq_true rfl, Nat.le_of_ble_eq_true rfl⟩ cm_0 (by decide) rfl hP hS hl.1 rfl rfl (Nat.le_of_ble_eq_true rfl) dX10_moveIn_34 (fun H locs hP hS => ?_)
    refine W.eq (g2 := F0 m 37 ls [.int r5, .int (3 : Int32), .int x1, .ref (g.2.2.1 + 0)]) rfl ?_
    refine lv_if_ge (tgt := 44) hx hb dX10_moveIn_37 (by decide) (fun c6 => ?_) (fun c6 => ?_)
    · rw [if_pos c6] at h
      refine lv_aload_n hx hb dX10_moveIn_44 rfl (lv_at hl 1 rfl) ?_
      refine lv_iload_n hx hb dX10_moveIn_45 rfl (lv_at hl 2 rfl) ?_
      refine lv_iconst (v := (3 : Int32)) hx hb dX10_moveIn_46 rfl ?_
      obtain ⟨r7, μ7, h1, h⟩ := ob2_some h
      refine x_callV C0 (rest := [.int (3 : Int32), .int x1, .ref (g.2.2.1 + 0)]) (q := (RX10, TX10, 22)) (c_X10_of l g x1 (3 : Int32) μ5 h1) q4_235 q4_232 q4_234 r2_9 q1_11 hd_X10_of ⟨rfl, rfl⟩ ⟨Nat.le_of_ble_eq_true rfl, Nat.le_of_ble_eq_true rfl⟩ cm_0 (by decide) rfl hP hS hl.1 rfl rfl (Nat.le_of_ble_eq_true rfl) dX10_moveIn_47 (fun H locs hP hS => ?_)
      refine W.eq (g2 := F0 m 50 ls [.int r7, .int (3 : Int32), .int x1, .ref (g.2.2.1 + 0)]) rfl ?_
      exact w_X10_moveIn_50 C0  x1 r3 x1 (3 : Int32) r7 μ7 _ _ _ hP hS (lv_sub hl [1, 2, 0] rfl) h
    · rw [if_neg c6] at h
      refine lv_iconst (v := (0 : Int32)) hx hb dX10_moveIn_40 rfl ?_
      refine lv_goto (tgt := 50) hx hb dX10_moveIn_41 (by decide) ?_
      exact w_X10_moveIn_50 C0  x1 r3 x1 (3 : Int32) (0 : Int32) μ5 _ _ _ hP hS (lv_sub hl [1, 2, 0] rfl) h
  · rw [if_pos c2] at h
    refine lv_aload_n hx hb dX10_moveIn_8 rfl (lv_at hl 0 rfl) ?_
    refine lv_iconst (v := (1 : Int32)) hx hb dX10_moveIn_9 rfl ?_
    obtain ⟨r10, μ10, h1, h⟩ := ob2_some h
    refine x_callV C0 (rest := []) (q := (RX10, TX10, 22)) (c_X10_finding l g (1 : Int32) μ1 h1) q4_214 q4_211 q4_213 r2_5 q1_11 hd_X10_finding ⟨rfl, rfl⟩ ⟨Nat.le_of_ble_eq_true rfl, Nat.le_of_ble_eq_true rfl⟩ cm_0 (by decide) rfl hP hS hl.1 rfl rfl (Nat.le_of_ble_eq_true rfl) dX10_moveIn_10 (fun H locs hP hS => ?_)
    refine W.eq (g2 := F0 m 13 ls [.int r10]) rfl ?_
    obtain ⟨rfl, rfl⟩ := some2 h
    exact x_iret C0 hP hS dX10_moveIn_13
