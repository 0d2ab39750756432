def X10_passes_252  (x6 : Int32) (t1 : Int32) (t2 : Int32) (t3 : Int32) (μ : Mem) : Option (Int32 × Mem) :=
  ob (X10_set t1 t2 t3 μ) fun μ16 => gd (x6 = 0 ∨ x6 = 1) (some (x6, μ16))
set_option maxRecDepth 100000 in
set_option maxHeartbeats 4000000 in
theorem w_X10_passes_252 {g : Gx} {p : Program} {l : Launch} {e : Env} {s : State} {m : MethodId} {args : Array Value} {below : List Frame} {meth : Method} {c : Code} (C0 : Cx Lm g p s m args meth c cX10_passes 7 (some .boolean) RX10) {r : Int32} {ν : Mem}  (x6 : Int32) (t1 : Int32) (t2 : Int32) (t3 : Int32) (μ : Mem) (H : Heap) (locs : List Loc) (ls : Array Slot) (hP : Px Lm g μ H) (hS : va_S (Ax Lm g) s.heap H locs) (hl : lv_has ls 7 [(6, .int x6)]) (h : X10_passes_252  x6 t1 t2 t3 μ = some (r, ν)) : W p l e { frames := 69, cells := 0, slots := 0, locals := 1565 } s m args below meth c H locs 0 0 (MQ below (Qx Lm g (some (.int r)) ν) args s 0 0 (Ax Lm g)) (F0 m 252 ls [.int t3, .int t2, .int t1, .ref (g.2.2.1 + 0)]) := by
  obtain ⟨hx, hb, hr, hml, hown, hts, hlocks, hK⟩ := id C0
  unfold X10_passes_252 at h
  obtain ⟨μ16, h1, h⟩ := ob_some h
  refine x_callV C0 (rest := []) (q := (RX10, TX10, 22)) (c_X10_set l g t1 t2 t3 μ h1) q4_219 q4_216 q4_218 r2_6 q1_11 hd_X10_set ⟨rfl, rfl⟩ ⟨Nat.le_of_ble_eq_true rfl, Nat.le_of_ble_eq_true rfl⟩ cm_0 (by decide) rfl hP hS hl.1 rfl rfl (Nat.le_of_ble_eq_true rfl) dX10_passes_252 (fun H locs hP hS => ?_)
  refine W.eq (g2 := F0 m 255 ls []) rfl ?_
  refine lv_iload hx hb dX10_passes_255 (lv_at hl 0 rfl) ?_
  obtain ⟨z17, h⟩ := gd_some h
  obtain ⟨rfl, rfl⟩ := some2 h
  exact x_zret C0 hP hS z17 dX10_passes_257
def X10_passes_236  (x1 : Int32) (t0 : Int32) (μ : Mem) : Option (Int32 × Mem) :=
  (if t0 = (0 : Int32) then X10_passes_252 t0 x1 (6 : Int32) (1 : Int32) μ else X10_passes_252 t0 x1 (6 : Int32) (0 : Int32) μ)
set_option maxRecDepth 100000 in
set_option maxHeartbeats 4000000 in
theorem w_X10_passes_236 {g : Gx} {p : Program} {l : Launch} {e : Env} {s : State} {m : MethodId} {args : Array Value} {below : List Frame} {meth : Method} {c : Code} (C0 : Cx Lm g p s m args meth c cX10_passes 7 (some .boolean) RX10) {r : Int32} {ν : Mem}  (x1 : Int32) (t0 : Int32) (μ : Mem) (H : Heap) (locs : List Loc) (ls : Array Slot) (hP : Px Lm g μ H) (hS : va_S (Ax Lm g) s.heap H locs) (hl : lv_has ls 7 [(0, .ref (g.2.2.1 + 0)), (1, .int x1)]) (h : X10_passes_236  x1 t0 μ = some (r, ν)) : W p l e { frames := 69, cells := 0, slots := 0, locals := 1565 } s m args below meth c H locs 0 0 (MQ below (Qx Lm g (some (.int r)) ν) args s 0 0 (Ax Lm g)) (F0 m 236 ls [.int t0]) := by
  obtain ⟨hx, hb, hr, hml, hown, hts, hlocks, hK⟩ := id C0
  unfold X10_passes_236 at h
  refine lv_istore (lv' := [(6, .int t0), (0, .ref (g.2.2.1 + 0)), (1, .int x1)]) hx hb dX10_passes_236 hl (by decide) rfl (fun ls hl => ?_)
  refine lv_aload_n hx hb dX10_passes_238 rfl (lv_at hl 1 rfl) ?_
  refine lv_iload_n hx hb dX10_passes_239 rfl (lv_at hl 2 rfl) ?_
  refine lv_bipush (v := (6 : Int32)) hx hb dX10_passes_240 (by decide +kernel) ?_
  refine lv_iload hx hb dX10_passes_242 (lv_at hl 0 rfl) ?_
  refine lv_if_eq (tgt := 251) hx hb dX10_passes_244 (by decide) (fun c15 => ?_) (fun c15 => ?_)
  · rw [if_pos c15] at h
    refine lv_iconst (v := (1 : Int32)) hx hb dX10_passes_251 rfl ?_
    exact w_X10_passes_252 C0  t0 x1 (6 : Int32) (1 : Int32) μ _ _ _ hP hS (lv_sub hl [0] rfl) h
  · rw [if_neg c15] at h
    refine lv_iconst (v := (0 : Int32)) hx hb dX10_passes_247 rfl ?_
    refine lv_goto (tgt := 252) hx hb dX10_passes_248 (by decide) ?_
    exact w_X10_passes_252 C0  t0 x1 (6 : Int32) (0 : Int32) μ _ _ _ hP hS (lv_sub hl [0] rfl) h
def X10_passes_235  (x1 : Int32) (μ : Mem) : Option (Int32 × Mem) :=
  X10_passes_236 x1 (0 : Int32) μ
set_option maxRecDepth 100000 in
set_option maxHeartbeats 4000000 in
theorem w_X10_passes_235 {g : Gx} {p : Program} {l : Launch} {e : Env} {s : State} {m : MethodId} {args : Array Value} {below : List Frame} {meth : Method} {c : Code} (C0 : Cx Lm g p s m args meth c cX10_passes 7 (some .boolean) RX10) {r : Int32} {ν : Mem}  (x1 : Int32) (μ : Mem) (H : Heap) (locs : List Loc) (ls : Array Slot) (hP : Px Lm g μ H) (hS : va_S (Ax Lm g) s.heap H locs) (hl : lv_has ls 7 [(0, .ref (g.2.2.1 + 0)), (1, .int x1)]) (h : X10_passes_235  x1 μ = some (r, ν)) : W p l e { frames := 69, cells := 0, slots := 0, locals := 1565 } s m args below meth c H locs 0 0 (MQ below (Qx Lm g (some (.int r)) ν) args s 0 0 (Ax Lm g)) (F0 m 235 ls []) := by
  obtain ⟨hx, hb, hr, hml, hown, hts, hlocks, hK⟩ := id C0
  unfold X10_passes_235 at h
  refine lv_iconst (v := (0 : Int32)) hx hb dX10_passes_235 rfl ?_
  exact w_X10_passes_236 C0  x1 (0 : Int32) μ _ _ _ hP hS (lv_sub hl [0, 1] rfl) h
def X10_passes_92  (x1 : Int32) (x2 : Int32) (μ : Mem) : Option (Int32 × Mem) :=
  ob2 (X10_of x1 (6 : Int32) μ) fun r2 μ2 => (if r2 = (0 : Int32) then ob (X10_more x1 (10 : Int32) (1 : Int32) μ2) fun μ23 => some ((0 : Int32), μ23) else ob2 (X10_of x1 ((13 : Int32) + x2) μ2) fun r4 μ4 => ob2 (X10_loadedOf x1 μ4) fun r5 μ5 => ob2 (X10_rateBy r5 x1 μ5) fun r6 μ6 => ob2 (X10_forceIn (0 : Int32) (μ6 1 0) μ6) fun r7 μ7 => ob2 (X10_rateBy r7 x1 μ7) fun r8 μ8 => ob (X10_more x1 (3 : Int32) ((-r4) * r6) μ8) fun μ9 => ob (X10_more x1 (11 : Int32) (r4 * (r8 - r6)) μ9) fun μ10 => ob (X10_more x1 (9 : Int32) r4 μ10) fun μ11 => ob (X10_more x1 (8 : Int32) r4 μ11) fun μ12 => ob2 (X10_of x1 (0 : Int32) μ12) fun r13 μ13 => (if r13 = (4 : Int32) then X10_passes_235 x1 μ13 else ob2 (X10_of x1 (3 : Int32) μ13) fun r18 μ18 => ob2 (X10_limit x1 μ18) fun r19 μ19 => (if r19 ≤ r18 then X10_passes_235 x1 μ19 else ob2 (X10_isFriendly ((μ19 1 0) + (1 : Int32)) μ19) fun r21 μ21 => (if r21 = (0 : Int32) then X10_passes_236 x1 (1 : Int32) μ21 else X10_passes_235 x1 μ21))))
set_option maxRecDepth 100000 in
set_option maxHeartbeats 4000000 in
theorem w_X10_passes_92 {g : Gx} {p : Program} {l : Launch} {e : Env} {s : State} {m : MethodId} {args : Array Value} {below : List Frame} {meth : Method} {c : Code} (C0 : Cx Lm g p s m args meth c cX10_passes 7 (some .boolean) RX10) {r : Int32} {ν : Mem}  (x1 : Int32) (x2 : Int32) (μ : Mem) (H : Heap) (locs : List Loc) (ls : Array Slot) (hP : Px Lm g μ H) (hS : va_S (Ax Lm g) s.heap H locs) (hl : lv_has ls 7 [(0, .ref (g.2.2.1 + 0)), (1, .int x1), (2, .int x2)]) (h : X10_passes_92  x1 x2 μ = some (r, ν)) : W p l e { frames := 69, cells := 0, slots := 0, locals := 1565 } s m args below meth c H locs 0 0 (MQ below (Qx Lm g (some (.int r)) ν) args s 0 0 (Ax Lm g)) (F0 m 92 ls []) := by
  obtain ⟨hx, hb, hr, hml, hown, hts, hlocks, hK⟩ := id C0
  unfold X10_passes_92 at h
  refine lv_aload_n hx hb dX10_passes_92 rfl (lv_at hl 0 rfl) ?_
  refine lv_iload_n hx hb dX10_passes_93 rfl (lv_at hl 1 rfl) ?_
  refine lv_bipush (v := (6 : Int32)) hx hb dX10_passes_94 (by decide +kernel) ?_
  obtain ⟨r2, μ2, h1, h⟩ := ob2_some h
  refine x_callV C0 (rest := []) (q := (RX10, TX10, 22)) (c_X10_of l g x1 (6 : Int32) μ h1) q4_235 q4_232 q4_234 r2_9 q1_11 hd_X10_of ⟨rfl, rfl⟩ ⟨Nat.le_of_ble_eq_true rfl, Nat.le_of_ble_eq_true rfl⟩ cm_0 (by decide) rfl hP hS hl.1 rfl rfl (Nat.le_of_ble_eq_true rfl) dX10_passes_96 (fun H locs hP hS => ?_)
  refine W.eq (g2 := F0 m 99 ls [.int r2]) rfl ?_
  refine lv_if_ne (tgt := 112) hx hb dX10_passes_99 (by decide) (fun c3 => ?_) (fun c3 => ?_)
  · rw [if_neg c3] at h
    refine lv_aload_n hx hb dX10_passes_112 rfl (lv_at hl 0 rfl) ?_
    refine lv_iload_n hx hb dX10_passes_113 rfl (lv_at hl 1 rfl) ?_
    refine lv_bipush (v := (13 : Int32)) hx hb dX10_passes_114 (by decide +kernel) ?_
    refine lv_iload_n hx hb dX10_passes_116 rfl (lv_at hl 2 rfl) ?_
    refine lv_iadd hx hb dX10_passes_117 ?_
    obtain ⟨r4, μ4, h1, h⟩ := ob2_some h
    refine x_callV C0 (rest := []) (q := (RX10, TX10, 22)) (c_X10_of l g x1 ((13 : Int32) + x2) μ2 h1) q4_235 q4_232 q4_234 r2_9 q1_11 hd_X10_of ⟨rfl, rfl⟩ ⟨Nat.le_of_ble_eq_true rfl, Nat.le_of_ble_eq_true rfl⟩ cm_0 (by decide) rfl hP hS hl.1 rfl rfl (Nat.le_of_ble_eq_true rfl) dX10_passes_118 (fun H locs hP hS => ?_)
    refine W.eq (g2 := F0 m 121 ls [.int r4]) rfl ?_
    refine lv_istore_n (lv' := [(3, .int r4), (0, .ref (g.2.2.1 + 0)), (1, .int x1), (2, .int x2)]) hx hb dX10_passes_121 rfl hl (by decide) rfl (fun ls hl => ?_)
    refine lv_aload_n hx hb dX10_passes_122 rfl (lv_at hl 1 rfl) ?_
    refine lv_aload_n hx hb dX10_passes_123 rfl (lv_at hl 1 rfl) ?_
    refine lv_iload_n hx hb dX10_passes_124 rfl (lv_at hl 2 rfl) ?_
    obtain ⟨r5, μ5, h1, h⟩ := ob2_some h
    refine x_callV C0 (rest := [.ref (g.2.2.1 + 0)]) (q := (RX10, TX10, 22)) (c_X10_loadedOf l g x1 μ4 h1) q5_3 q5_0 q5_2 r2_10 q1_11 hd_X10_loadedOf ⟨rfl, rfl⟩ ⟨Nat.le_of_ble_eq_true rfl, Nat.le_of_ble_eq_true rfl⟩ cm_0 (by decide) rfl hP hS hl.1 rfl rfl (Nat.le_of_ble_eq_true rfl) dX10_passes_125 (fun H locs hP hS => ?_)
    refine W.eq (g2 := F0 m 128 ls [.int r5, .ref (g.2.2.1 + 0)]) rfl ?_
    refine lv_iload_n hx hb dX10_passes_128 rfl (lv_at hl 2 rfl) ?_
    obtain ⟨r6, μ6, h1, h⟩ := ob2_some h
    refine x_callV C0 (rest := []) (q := (RX10, TX10, 22)) (c_X10_rateBy l g r5 x1 μ5 h1) q5_139 q5_136 q5_138 r3_12 q1_11 hd_X10_rateBy ⟨rfl, rfl⟩ ⟨Nat.le_of_ble_eq_true rfl, Nat.le_of_ble_eq_true rfl⟩ cm_0 (by decide) rfl hP hS hl.1 rfl rfl (Nat.le_of_ble_eq_true rfl) dX10_passes_129 (fun H locs hP hS => ?_)
    refine W.eq (g2 := F0 m 132 ls [.int r6]) rfl ?_
    refine lv_istore (lv' := [(4, .int r6), (3, .int r4), (0, .ref (g.2.2.1 + 0)), (1, .int x1), (2, .int x2)]) hx hb dX10_passes_132 hl (by decide) rfl (fun ls hl => ?_)
    refine lv_aload_n hx hb dX10_passes_134 rfl (lv_at hl 2 rfl) ?_
    refine lv_aload_n hx hb dX10_passes_135 rfl (lv_at hl 2 rfl) ?_
    refine lv_iconst (v := (0 : Int32)) hx hb dX10_passes_136 rfl ?_
    refine lv_aload_n hx hb dX10_passes_137 rfl (lv_at hl 2 rfl) ?_
    refine x_get C0 hP inu10 (k := 0) cm_0 (by decide) rfl 0 (by decide) q4_134 rfl (v := .ref (g.2.2.1 + 1)) rfl dX10_passes_138 ?_
    refine lv_iconst (v := (0 : Int32)) hx hb dX10_passes_141 rfl ?_
    refine x_iald C0 hP (k := 1) cm_1 (j := 0) (by decide) rfl dX10_passes_142 ?_
    obtain ⟨r7, μ7, h1, h⟩ := ob2_some h
    refine x_callV C0 (rest := [.ref (g.2.2.1 + 0)]) (q := (RX10, TX10, 22)) (c_X10_forceIn l g (0 : Int32) (μ6 1 0) μ6 h1) q4_223 q4_220 q4_222 r2_7 q1_11 hd_X10_forceIn ⟨rfl, rfl⟩ ⟨Nat.le_of_ble_eq_true rfl, Nat.le_of_ble_eq_true rfl⟩ cm_0 (by decide) rfl hP hS hl.1 rfl rfl (Nat.le_of_ble_eq_true rfl) dX10_passes_143 (fun H locs hP hS => ?_)
    refine W.eq (g2 := F0 m 146 ls [.int r7, .ref (g.2.2.1 + 0)]) rfl ?_
    refine lv_iload_n hx hb dX10_passes_146 rfl (lv_at hl 3 rfl) ?_
    obtain ⟨r8, μ8, h1, h⟩ := ob2_some h
    refine x_callV C0 (rest := []) (q := (RX10, TX10, 22)) (c_X10_rateBy l g r7 x1 μ7 h1) q5_139 q5_136 q5_138 r3_12 q1_11 hd_X10_rateBy ⟨rfl, rfl⟩ ⟨Nat.le_of_ble_eq_true rfl, Nat.le_of_ble_eq_true rfl⟩ cm_0 (by decide) rfl hP hS hl.1 rfl rfl (Nat.le_of_ble_eq_true rfl) dX10_passes_147 (fun H locs hP hS => ?_)
    refine W.eq (g2 := F0 m 150 ls [.int r8]) rfl ?_
    refine lv_istore (lv' := [(5, .int r8), (4, .int r6), (3, .int r4), (0, .ref (g.2.2.1 + 0)), (1, .int x1), (2, .int x2)]) hx hb dX10_passes_150 hl (by decide) rfl (fun ls hl => ?_)
    refine lv_aload_n hx hb dX10_passes_152 rfl (lv_at hl 3 rfl) ?_
    refine lv_iload_n hx hb dX10_passes_153 rfl (lv_at hl 4 rfl) ?_
    refine lv_iconst (v := (3 : Int32)) hx hb dX10_passes_154 rfl ?_
    refine lv_iload_n hx hb dX10_passes_155 rfl (lv_at hl 2 rfl) ?_
    refine lv_ineg hx hb dX10_passes_156 ?_
    refine lv_iload hx hb dX10_passes_157 (lv_at hl 1 rfl) ?_
    refine lv_imul hx hb dX10_passes_159 ?_
    obtain ⟨μ9, h1, h⟩ := ob_some h
    refine x_callV C0 (rest := []) (q := (RX10, TX10, 22)) (c_X10_more l g x1 (3 : Int32) ((-r4) * r6) μ8 h1) q5_24 q5_21 q5_23 r2_13 q1_11 hd_X10_more ⟨rfl, rfl⟩ ⟨Nat.le_of_ble_eq_true rfl, Nat.le_of_ble_eq_true rfl⟩ cm_0 (by decide) rfl hP hS hl.1 rfl rfl (Nat.le_of_ble_eq_true rfl) dX10_passes_160 (fun H locs hP hS => ?_)
    refine W.eq (g2 := F0 m 163 ls []) rfl ?_
    refine lv_aload_n hx hb dX10_passes_163 rfl (lv_at hl 3 rfl) ?_
    refine lv_iload_n hx hb dX10_passes_164 rfl (lv_at hl 4 rfl) ?_
    refine lv_bipush (v := (11 : Int32)) hx hb dX10_passes_165 (by decide +kernel) ?_
    refine lv_iload_n hx hb dX10_passes_167 rfl (lv_at hl 2 rfl) ?_
    refine lv_iload hx hb dX10_passes_168 (lv_at hl 0 rfl) ?_
    refine lv_iload hx hb dX10_passes_170 (lv_at hl 1 rfl) ?_
    refine lv_isub hx hb dX10_passes_172 ?_
    refine lv_imul hx hb dX10_passes_173 ?_
    obtain ⟨μ10, h1, h⟩ := ob_some h
    refine x_callV C0 (rest := []) (q := (RX10, TX10, 22)) (c_X10_more l g x1 (11 : Int32) (r4 * (r8 - r6)) μ9 h1) q5_24 q5_21 q5_23 r2_13 q1_11 hd_X10_more ⟨rfl, rfl⟩ ⟨Nat.le_of_ble_eq_true rfl, Nat.le_of_ble_eq_true rfl⟩ cm_0 (by decide) rfl hP hS hl.1 rfl rfl (Nat.le_of_ble_eq_true rfl) dX10_passes_174 (fun H locs hP hS => ?_)
    refine W.eq (g2 := F0 m 177 ls []) rfl ?_
    refine lv_aload_n hx hb dX10_passes_177 rfl (lv_at hl 3 rfl) ?_
    refine lv_iload_n hx hb dX10_passes_178 rfl (lv_at hl 4 rfl) ?_
    refine lv_bipush (v := (9 : Int32)) hx hb dX10_passes_179 (by decide +kernel) ?_
    refine lv_iload_n hx hb dX10_passes_181 rfl (lv_at hl 2 rfl) ?_
    obtain ⟨μ11, h1, h⟩ := ob_some h
    refine x_callV C0 (rest := []) (q := (RX10, TX10, 22)) (c_X10_more l g x1 (9 : Int32) r4 μ10 h1) q5_24 q5_21 q5_23 r2_13 q1_11 hd_X10_more ⟨rfl, rfl⟩ ⟨Nat.le_of_ble_eq_true rfl, Nat.le_of_ble_eq_true rfl⟩ cm_0 (by decide) rfl hP hS hl.1 rfl rfl (Nat.le_of_ble_eq_true rfl) dX10_passes_182 (fun H locs hP hS => ?_)
    refine W.eq (g2 := F0 m 185 ls []) rfl ?_
    refine lv_aload_n hx hb dX10_passes_185 rfl (lv_at hl 3 rfl) ?_
    refine lv_iload_n hx hb dX10_passes_186 rfl (lv_at hl 4 rfl) ?_
    refine lv_bipush (v := (8 : Int32)) hx hb dX10_passes_187 (by decide +kernel) ?_
    refine lv_iload_n hx hb dX10_passes_189 rfl (lv_at hl 2 rfl) ?_
    obtain ⟨μ12, h1, h⟩ := ob_some h
    refine x_callV C0 (rest := []) (q := (RX10, TX10, 22)) (c_X10_more l g x1 (8 : Int32) r4 μ11 h1) q5_24 q5_21 q5_23 r2_13 q1_11 hd_X10_more ⟨rfl, rfl⟩ ⟨Nat.le_of_ble_eq_true rfl, Nat.le_of_ble_eq_true rfl⟩ cm_0 (by decide) rfl hP hS hl.1 rfl rfl (Nat.le_of_ble_eq_true rfl) dX10_passes_190 (fun H locs hP hS => ?_)
    refine W.eq (g2 := F0 m 193 ls []) rfl ?_
    refine lv_aload_n hx hb dX10_passes_193 rfl (lv_at hl 3 rfl) ?_
    refine lv_iload_n hx hb dX10_passes_194 rfl (lv_at hl 4 rfl) ?_
    refine lv_iconst (v := (0 : Int32)) hx hb dX10_passes_195 rfl ?_
    obtain ⟨r13, μ13, h1, h⟩ := ob2_some h
    refine x_callV C0 (rest := []) (q := (RX10, TX10, 22)) (c_X10_of l g x1 (0 : Int32) μ12 h1) q4_235 q4_232 q4_234 r2_9 q1_11 hd_X10_of ⟨rfl, rfl⟩ ⟨Nat.le_of_ble_eq_true rfl, Nat.le_of_ble_eq_true rfl⟩ cm_0 (by decide) rfl hP hS hl.1 rfl rfl (Nat.le_of_ble_eq_true rfl) dX10_passes_196 (fun H locs hP hS => ?_)
    refine W.eq (g2 := F0 m 199 ls [.int r13]) rfl ?_
    refine lv_iconst (v := (4 : Int32)) hx hb dX10_passes_199 rfl ?_
    refine lv_icmp_eq (tgt := 235) hx hb dX10_passes_200 (by decide) (fun c14 => ?_) (fun c14 => ?_)
    · rw [if_pos c14] at h
      exact w_X10_passes_235 C0  x1 μ13 _ _ _ hP hS (lv_sub hl [3, 4] rfl) h
    · rw [if_neg c14] at h
      refine lv_aload_n hx hb dX10_passes_203 rfl (lv_at hl 3 rfl) ?_
      refine lv_iload_n hx hb dX10_passes_204 rfl (lv_at hl 4 rfl) ?_
      refine lv_iconst (v := (3 : Int32)) hx hb dX10_passes_205 rfl ?_
      obtain ⟨r18, μ18, h1, h⟩ := ob2_some h
      refine x_callV C0 (rest := []) (q := (RX10, TX10, 22)) (c_X10_of l g x1 (3 : Int32) μ13 h1) q4_235 q4_232 q4_234 r2_9 q1_11 hd_X10_of ⟨rfl, rfl⟩ ⟨Nat.le_of_ble_eq_true rfl, Nat.le_of_ble_eq_true rfl⟩ cm_0 (by decide) rfl hP hS hl.1 rfl rfl (Nat.le_of_ble_eq_true rfl) dX10_passes_206 (fun H locs hP hS => ?_)
      refine W.eq (g2 := F0 m 209 ls [.int r18]) rfl ?_
      refine lv_aload_n hx hb dX10_passes_209 rfl (lv_at hl 3 rfl) ?_
      refine lv_iload_n hx hb dX10_passes_210 rfl (lv_at hl 4 rfl) ?_
      obtain ⟨r19, μ19, h1, h⟩ := ob2_some h
      refine x_callV C0 (rest := [.int r18]) (q := (RX10, TX10, 22)) (c_X10_limit l g x1 μ18 h1) q5_11 q5_8 q5_10 r2_12 q1_11 hd_X10_limit ⟨rfl, rfl⟩ ⟨Nat.le_of_ble_eq_true rfl, Nat.le_of_ble_eq_true rfl⟩ cm_0 (by decide) rfl hP hS hl.1 rfl rfl (Nat.le_of_ble_eq_true rfl) dX10_passes_211 (fun H locs hP hS => ?_)
      refine W.eq (g2 := F0 m 214 ls [.int r19, .int r18]) rfl ?_
      refine lv_icmp_ge (tgt := 235) hx hb dX10_passes_214 (by decide) (fun c20 => ?_) (fun c20 => ?_)
      · rw [if_pos c20] at h
        exact w_X10_passes_235 C0  x1 μ19 _ _ _ hP hS (lv_sub hl [3, 4] rfl) h
      · rw [if_neg c20] at h
        refine lv_aload_n hx hb dX10_passes_217 rfl (lv_at hl 3 rfl) ?_
        refine x_get C0 hP inu10 (k := 0) cm_0 (by decide) rfl 0 (by decide) q4_134 rfl (v := .ref (g.2.2.1 + 1)) rfl dX10_passes_218 ?_
        refine lv_iconst (v := (0 : Int32)) hx hb dX10_passes_221 rfl ?_
        refine x_iald C0 hP (k := 1) cm_1 (j := 0) (by decide) rfl dX10_passes_222 ?_
        refine lv_iconst (v := (1 : Int32)) hx hb dX10_passes_223 rfl ?_
        refine lv_iadd hx hb dX10_passes_224 ?_
        obtain ⟨r21, μ21, h1, h⟩ := ob2_some h
        refine x_callS C0 (rest := []) (c_X10_isFriendly l g ((μ19 1 0) + (1 : Int32)) μ19 h1) q5_154 q5_152 q5_153 q1_11 hd_X10_isFriendly ⟨rfl, rfl⟩ ⟨Nat.le_of_ble_eq_true rfl, Nat.le_of_ble_eq_true rfl⟩ hP hS hl.1 rfl rfl (Nat.le_of_ble_eq_true rfl) dX10_passes_225 (fun H locs hP hS => ?_)
        refine W.eq (g2 := F0 m 228 ls [.int r21]) rfl ?_
        refine lv_if_ne (tgt := 235) hx hb dX10_passes_228 (by decide) (fun c22 => ?_) (fun c22 => ?_)
        · rw [if_neg c22] at h
          exact w_X10_passes_235 C0  x1 μ21 _ _ _ hP hS (lv_sub hl [3, 4] rfl) h
        · rw [if_pos c22] at h
          refine lv_iconst (v := (1 : Int32)) hx hb dX10_passes_231 rfl ?_
          refine lv_goto (tgt := 236) hx hb dX10_passes_232 (by decide) ?_
          exact w_X10_passes_236 C0  x1 (1 : Int32) μ21 _ _ _ hP hS (lv_sub hl [3, 4] rfl) h
  · rw [if_pos c3] at h
    refine lv_aload_n hx hb dX10_passes_102 rfl (lv_at hl 0 rfl) ?_
    refine lv_iload_n hx hb dX10_passes_103 rfl (lv_at hl 1 rfl) ?_
    refine lv_bipush (v := (10 : Int32)) hx hb dX10_passes_104 (by decide +kernel) ?_
    refine lv_iconst (v := (1 : Int32)) hx hb dX10_passes_106 rfl ?_
    obtain ⟨μ23, h1, h⟩ := ob_some h
    refine x_callV C0 (rest := []) (q := (RX10, TX10, 22)) (c_X10_more l g x1 (10 : Int32) (1 : Int32) μ2 h1) q5_24 q5_21 q5_23 r2_13 q1_11 hd_X10_more ⟨rfl, rfl⟩ ⟨Nat.le_of_ble_eq_true rfl, Nat.le_of_ble_eq_true rfl⟩ cm_0 (by decide) rfl hP hS hl.1 rfl rfl (Nat.le_of_ble_eq_true rfl) dX10_passes_107 (fun H locs hP hS => ?_)
    refine W.eq (g2 := F0 m 110 ls []) rfl ?_
    refine lv_iconst (v := (0 : Int32)) hx hb dX10_passes_110 rfl ?_
    obtain ⟨rfl, rfl⟩ := some2 h
    exact x_zret C0 hP hS (by decide) dX10_passes_111
def X10_passes_84  (x1 : Int32) (x2 : Int32) (μ : Mem) : Option (Int32 × Mem) :=
  ob (X10_set x1 (9 : Int32) (0 : Int32) μ) fun μ28 => X10_passes_92 x1 x2 μ28
set_option maxRecDepth 100000 in
set_option maxHeartbeats 4000000 in
theorem w_X10_passes_84 {g : Gx} {p : Program} {l : Launch} {e : Env} {s : State} {m : MethodId} {args : Array Value} {below : List Frame} {meth : Method} {c : Code} (C0 : Cx Lm g p s m args meth c cX10_passes 7 (some .boolean) RX10) {r : Int32} {ν : Mem}  (x1 : Int32) (x2 : Int32) (μ : Mem) (H : Heap) (locs : List Loc) (ls : Array Slot) (hP : Px Lm g μ H) (hS : va_S (Ax Lm g) s.heap H locs) (hl : lv_has ls 7 [(0, .ref (g.2.2.1 + 0)), (1, .int x1), (2, .int x2)]) (h : X10_passes_84  x1 x2 μ = some (r, ν)) : W p l e { frames := 69, cells := 0, slots := 0, locals := 1565 } s m args below meth c H locs 0 0 (MQ below (Qx Lm g (some (.int r)) ν) args s 0 0 (Ax Lm g)) (F0 m 84 ls []) := by
  obtain ⟨hx, hb, hr, hml, hown, hts, hlocks, hK⟩ := id C0
  unfold X10_passes_84 at h
  refine lv_aload_n hx hb dX10_passes_84 rfl (lv_at hl 0 rfl) ?_
  refine lv_iload_n hx hb dX10_passes_85 rfl (lv_at hl 1 rfl) ?_
  refine lv_bipush (v := (9 : Int32)) hx hb dX10_passes_86 (by decide +kernel) ?_
  refine lv_iconst (v := (0 : Int32)) hx hb dX10_passes_88 rfl ?_
  obtain ⟨μ28, h1, h⟩ := ob_some h
  refine x_callV C0 (rest := []) (q := (RX10, TX10, 22)) (c_X10_set l g x1 (9 : Int32) (0 : Int32) μ h1) q4_219 q4_216 q4_218 r2_6 q1_11 hd_X10_set ⟨rfl, rfl⟩ ⟨Nat.le_of_ble_eq_true rfl, Nat.le_of_ble_eq_true rfl⟩ cm_0 (by decide) rfl hP hS hl.1 rfl rfl (Nat.le_of_ble_eq_true rfl) dX10_passes_89 (fun H locs hP hS => ?_)
  refine W.eq (g2 := F0 m 92 ls []) rfl ?_
  exact w_X10_passes_92 C0  x1 x2 μ28 _ _ _ hP hS (lv_sub hl [0, 1, 2] rfl) h
def X10_passes_67  (x1 : Int32) (x2 : Int32) (t0 : Int32) (μ : Mem) : Option (Int32 × Mem) :=
  ob (X10_more x1 (3 : Int32) (-t0) μ) fun μ33 => ob (X10_more x1 (4 : Int32) (-t0) μ33) fun μ34 => X10_passes_84 x1 x2 μ34
set_option maxRecDepth 100000 in
set_option maxHeartbeats 4000000 in
theorem w_X10_passes_67 {g : Gx} {p : Program} {l : Launch} {e : Env} {s : State} {m : MethodId} {args : Array Value} {below : List Frame} {meth : Method} {c : Code} (C0 : Cx Lm g p s m args meth c cX10_passes 7 (some .boolean) RX10) {r : Int32} {ν : Mem}  (x1 : Int32) (x2 : Int32) (t0 : Int32) (μ : Mem) (H : Heap) (locs : List Loc) (ls : Array Slot) (hP : Px Lm g μ H) (hS : va_S (Ax Lm g) s.heap H locs) (hl : lv_has ls 7 [(0, .ref (g.2.2.1 + 0)), (1, .int x1), (2, .int x2)]) (h : X10_passes_67  x1 x2 t0 μ = some (r, ν)) : W p l e { frames := 69, cells := 0, slots := 0, locals := 1565 } s m args below meth c H locs 0 0 (MQ below (Qx Lm g (some (.int r)) ν) args s 0 0 (Ax Lm g)) (F0 m 67 ls [.int t0]) := by
  obtain ⟨hx, hb, hr, hml, hown, hts, hlocks, hK⟩ := id C0
  unfold X10_passes_67 at h
  refine lv_istore_n (lv' := [(3, .int t0), (0, .ref (g.2.2.1 + 0)), (1, .int x1), (2, .int x2)]) hx hb dX10_passes_67 rfl hl (by decide) rfl (fun ls hl => ?_)
  refine lv_aload_n hx hb dX10_passes_68 rfl (lv_at hl 1 rfl) ?_
  refine lv_iload_n hx hb dX10_passes_69 rfl (lv_at hl 2 rfl) ?_
  refine lv_iconst (v := (3 : Int32)) hx hb dX10_passes_70 rfl ?_
  refine lv_iload_n hx hb dX10_passes_71 rfl (lv_at hl 0 rfl) ?_
  refine lv_ineg hx hb dX10_passes_72 ?_
  obtain ⟨μ33, h1, h⟩ := ob_some h
  refine x_callV C0 (rest := []) (q := (RX10, TX10, 22)) (c_X10_more l g x1 (3 : Int32) (-t0) μ h1) q5_24 q5_21 q5_23 r2_13 q1_11 hd_X10_more ⟨rfl, rfl⟩ ⟨Nat.le_of_ble_eq_true rfl, Nat.le_of_ble_eq_true rfl⟩ cm_0 (by decide) rfl hP hS hl.1 rfl rfl (Nat.le_of_ble_eq_true rfl) dX10_passes_73 (fun H locs hP hS => ?_)
  refine W.eq (g2 := F0 m 76 ls []) rfl ?_
  refine lv_aload_n hx hb dX10_passes_76 rfl (lv_at hl 1 rfl) ?_
  refine lv_iload_n hx hb dX10_passes_77 rfl (lv_at hl 2 rfl) ?_
  refine lv_iconst (v := (4 : Int32)) hx hb dX10_passes_78 rfl ?_
  refine lv_iload_n hx hb dX10_passes_79 rfl (lv_at hl 0 rfl) ?_
  refine lv_ineg hx hb dX10_passes_80 ?_
  obtain ⟨μ34, h1, h⟩ := ob_some h
  refine x_callV C0 (rest := []) (q := (RX10, TX10, 22)) (c_X10_more l g x1 (4 : Int32) (-t0) μ33 h1) q5_24 q5_21 q5_23 r2_13 q1_11 hd_X10_more ⟨rfl, rfl⟩ ⟨Nat.le_of_ble_eq_true rfl, Nat.le_of_ble_eq_true rfl⟩ cm_0 (by decide) rfl hP hS hl.1 rfl rfl (Nat.le_of_ble_eq_true rfl) dX10_passes_81 (fun H locs hP hS => ?_)
  refine W.eq (g2 := F0 m 84 ls []) rfl ?_
  exact w_X10_passes_84 C0  x1 x2 μ34 _ _ _ hP hS (lv_sub hl [1, 2, 3] rfl) h
def X10_passes (x1 : Int32) (μ : Mem) : Option (Int32 × Mem) :=
  (if ((μ 1 0) - (μ 1 0) / (24 : Int32) * (24 : Int32)) = (0 : Int32) then ob2 (X10_standingOf x1 μ) fun r24 μ24 => ob (X10_more x1 (3 : Int32) (-r24) μ24) fun μ25 => ob2 (X10_of x1 (6 : Int32) μ25) fun r26 μ26 => (if r26 = (1 : Int32) then ob2 (X10_of x1 (5 : Int32) μ26) fun r29 μ29 => ob2 (X10_of x1 (4 : Int32) μ29) fun r30 μ30 => (if r30 ≤ r29 then ob2 (X10_of x1 (4 : Int32) μ30) fun r32 μ32 => X10_passes_67 x1 ((μ 1 0) - (μ 1 0) / (24 : Int32) * (24 : Int32)) r32 μ32 else ob2 (X10_of x1 (5 : Int32) μ30) fun r35 μ35 => X10_passes_67 x1 ((μ 1 0) - (μ 1 0) / (24 : Int32) * (24 : Int32)) r35 μ35) else X10_passes_84 x1 ((μ 1 0) - (μ 1 0) / (24 : Int32) * (24 : Int32)) μ26) else X10_passes_92 x1 ((μ 1 0) - (μ 1 0) / (24 : Int32) * (24 : Int32)) μ)
set_option maxRecDepth 100000 in
set_option maxHeartbeats 4000000 in
theorem c_X10_passes (l : Launch) (g : Gx) (x1 : Int32) (μ : Mem) {r : Int32} {ν : Mem} (h : X10_passes x1 μ = some (r, ν)) : Ct Lm g l yX10_passes cX10_passes 7 (some .boolean) { frames := 69, cells := 0, slots := 0, locals := 1565 } [.ref (g.2.2.1 + 0), .int x1] μ (some (.int r)) ν := by
  refine x_met (lv := [(0, .ref (g.2.2.1 + 0)), (1, .int x1)]) rfl (Nat.le_of_ble_eq_true rfl) rfl ?_
  intro p e s m below meth c C0 hP ls hl
  generalize ([.ref (g.2.2.1 + 0), .int x1] : List Value).toArray = args at C0 ⊢
  have C0 : Cx Lm g p s m args meth c cX10_passes 7 (some .boolean) RX10 := C0
  have hS : va_S (Ax Lm g) s.heap s.heap [] := va_S.rf
  obtain ⟨hx, hb, hr, hml, hown, hts, hlocks, hK⟩ := id C0
  unfold X10_passes at h
  skip
  refine lv_aload_n hx hb dX10_passes_0 rfl (lv_at hl 0 rfl) ?_
  refine x_get C0 hP inu10 (k := 0) cm_0 (by decide) rfl 0 (by decide) q4_134 rfl (v := .ref (g.2.2.1 + 1)) rfl dX10_passes_1 ?_
  refine lv_iconst (v := (0 : Int32)) hx hb dX10_passes_4 rfl ?_
  refine x_iald C0 hP (k := 1) cm_1 (j := 0) (by decide) rfl dX10_passes_5 ?_
  refine lv_bipush (v := (24 : Int32)) hx hb dX10_passes_6 (by decide +kernel) ?_
  refine lv_irem hx hb dX10_passes_8 (by decide) ?_
  refine lv_istore_n (lv' := [(2, .int ((μ 1 0) - (μ 1 0) / (24 : Int32) * (24 : Int32))), (0, .ref (g.2.2.1 + 0)), (1, .int x1)]) hx hb dX10_passes_9 rfl hl (by decide) rfl (fun ls hl => ?_)
  refine lv_iload_n hx hb dX10_passes_10 rfl (lv_at hl 0 rfl) ?_
  refine lv_if_ne (tgt := 92) hx hb dX10_passes_11 (by decide) (fun c1 => ?_) (fun c1 => ?_)
  · rw [if_neg c1] at h
    exact w_X10_passes_92 C0  x1 ((μ 1 0) - (μ 1 0) / (24 : Int32) * (24 : Int32)) μ _ _ _ hP hS (lv_sub hl [1, 2, 0] rfl) h
  · rw [if_pos c1] at h
    refine lv_aload_n hx hb dX10_passes_14 rfl (lv_at hl 1 rfl) ?_
    refine lv_iload_n hx hb dX10_passes_15 rfl (lv_at hl 2 rfl) ?_
    refine lv_iconst (v := (3 : Int32)) hx hb dX10_passes_16 rfl ?_
    refine lv_aload_n hx hb dX10_passes_17 rfl (lv_at hl 1 rfl) ?_
    refine lv_iload_n hx hb dX10_passes_18 rfl (lv_at hl 2 rfl) ?_
    obtain ⟨r24, μ24, h1, h⟩ := ob2_some h
    refine x_callV C0 (rest := [.int (3 : Int32), .int x1, .ref (g.2.2.1 + 0)]) (q := (RX10, TX10, 22)) (c_X10_standingOf l g x1 μ h1) q5_143 q5_140 q5_142 r3_13 q1_11 hd_X10_standingOf ⟨rfl, rfl⟩ ⟨Nat.le_of_ble_eq_true rfl, Nat.le_of_ble_eq_true rfl⟩ cm_0 (by decide) rfl hP hS hl.1 rfl rfl (Nat.le_of_ble_eq_true rfl) dX10_passes_19 (fun H locs hP hS => ?_)
    refine W.eq (g2 := F0 m 22 ls [.int r24, .int (3 : Int32), .int x1, .ref (g.2.2.1 + 0)]) rfl ?_
    refine lv_ineg hx hb dX10_passes_22 ?_
    obtain ⟨μ25, h1, h⟩ := ob_some h
    refine x_callV C0 (rest := []) (q := (RX10, TX10, 22)) (c_X10_more l g x1 (3 : Int32) (-r24) μ24 h1) q5_24 q5_21 q5_23 r2_13 q1_11 hd_X10_more ⟨rfl, rfl⟩ ⟨Nat.le_of_ble_eq_true rfl, Nat.le_of_ble_eq_true rfl⟩ cm_0 (by decide) rfl hP hS hl.1 rfl rfl (Nat.le_of_ble_eq_true rfl) dX10_passes_23 (fun H locs hP hS => ?_)
    refine W.eq (g2 := F0 m 26 ls []) rfl ?_
    refine lv_aload_n hx hb dX10_passes_26 rfl (lv_at hl 1 rfl) ?_
    refine lv_iload_n hx hb dX10_passes_27 rfl (lv_at hl 2 rfl) ?_
    refine lv_bipush (v := (6 : Int32)) hx hb dX10_passes_28 (by decide +kernel) ?_
    obtain ⟨r26, μ26, h1, h⟩ := ob2_some h
    refine x_callV C0 (rest := []) (q := (RX10, TX10, 22)) (c_X10_of l g x1 (6 : Int32) μ25 h1) q4_235 q4_232 q4_234 r2_9 q1_11 hd_X10_of ⟨rfl, rfl⟩ ⟨Nat.le_of_ble_eq_true rfl, Nat.le_of_ble_eq_true rfl⟩ cm_0 (by decide) rfl hP hS hl.1 rfl rfl (Nat.le_of_ble_eq_true rfl) dX10_passes_30 (fun H locs hP hS => ?_)
    refine W.eq (g2 := F0 m 33 ls [.int r26]) rfl ?_
    refine lv_iconst (v := (1 : Int32)) hx hb dX10_passes_33 rfl ?_
    refine lv_icmp_ne (tgt := 84) hx hb dX10_passes_34 (by decide) (fun c27 => ?_) (fun c27 => ?_)
    · rw [if_neg c27] at h
      exact w_X10_passes_84 C0  x1 ((μ 1 0) - (μ 1 0) / (24 : Int32) * (24 : Int32)) μ26 _ _ _ hP hS (lv_sub hl [1, 2, 0] rfl) h
    · rw [if_pos c27] at h
      refine lv_aload_n hx hb dX10_passes_37 rfl (lv_at hl 1 rfl) ?_
      refine lv_iload_n hx hb dX10_passes_38 rfl (lv_at hl 2 rfl) ?_
      refine lv_iconst (v := (5 : Int32)) hx hb dX10_passes_39 rfl ?_
      obtain ⟨r29, μ29, h1, h⟩ := ob2_some h
      refine x_callV C0 (rest := []) (q := (RX10, TX10, 22)) (c_X10_of l g x1 (5 : Int32) μ26 h1) q4_235 q4_232 q4_234 r2_9 q1_11 hd_X10_of ⟨rfl, rfl⟩ ⟨Nat.le_of_ble_eq_true rfl, Nat.le_of_ble_eq_true rfl⟩ cm_0 (by decide) rfl hP hS hl.1 rfl rfl (Nat.le_of_ble_eq_true rfl) dX10_passes_40 (fun H locs hP hS => ?_)
      refine W.eq (g2 := F0 m 43 ls [.int r29]) rfl ?_
      refine lv_aload_n hx hb dX10_passes_43 rfl (lv_at hl 1 rfl) ?_
      refine lv_iload_n hx hb dX10_passes_44 rfl (lv_at hl 2 rfl) ?_
      refine lv_iconst (v := (4 : Int32)) hx hb dX10_passes_45 rfl ?_
      obtain ⟨r30, μ30, h1, h⟩ := ob2_some h
      refine x_callV C0 (rest := [.int r29]) (q := (RX10, TX10, 22)) (c_X10_of l g x1 (4 : Int32) μ29 h1) q4_235 q4_232 q4_234 r2_9 q1_11 hd_X10_of ⟨rfl, rfl⟩ ⟨Nat.le_of_ble_eq_true rfl, Nat.le_of_ble_eq_true rfl⟩ cm_0 (by decide) rfl hP hS hl.1 rfl rfl (Nat.le_of_ble_eq_true rfl) dX10_passes_46 (fun H locs hP hS => ?_)
      refine W.eq (g2 := F0 m 49 ls [.int r30, .int r29]) rfl ?_
      refine lv_icmp_ge (tgt := 61) hx hb dX10_passes_49 (by decide) (fun c31 => ?_) (fun c31 => ?_)
      · rw [if_pos c31] at h
        refine lv_aload_n hx hb dX10_passes_61 rfl (lv_at hl 1 rfl) ?_
        refine lv_iload_n hx hb dX10_passes_62 rfl (lv_at hl 2 rfl) ?_
        refine lv_iconst (v := (4 : Int32)) hx hb dX10_passes_63 rfl ?_
        obtain ⟨r32, μ32, h1, h⟩ := ob2_some h
        refine x_callV C0 (rest := []) (q := (RX10, TX10, 22)) (c_X10_of l g x1 (4 : Int32) μ30 h1) q4_235 q4_232 q4_234 r2_9 q1_11 hd_X10_of ⟨rfl, rfl⟩ ⟨Nat.le_of_ble_eq_true rfl, Nat.le_of_ble_eq_true rfl⟩ cm_0 (by decide) rfl hP hS hl.1 rfl rfl (Nat.le_of_ble_eq_true rfl) dX10_passes_64 (fun H locs hP hS => ?_)
        refine W.eq (g2 := F0 m 67 ls [.int r32]) rfl ?_
        exact w_X10_passes_67 C0  x1 ((μ 1 0) - (μ 1 0) / (24 : Int32) * (24 : Int32)) r32 μ32 _ _ _ hP hS (lv_sub hl [1, 2, 0] rfl) h
      · rw [if_neg c31] at h
        refine lv_aload_n hx hb dX10_passes_52 rfl (lv_at hl 1 rfl) ?_
        refine lv_iload_n hx hb dX10_passes_53 rfl (lv_at hl 2 rfl) ?_
        refine lv_iconst (v := (5 : Int32)) hx hb dX10_passes_54 rfl ?_
        obtain ⟨r35, μ35, h1, h⟩ := ob2_some h
        refine x_callV C0 (rest := []) (q := (RX10, TX10, 22)) (c_X10_of l g x1 (5 : Int32) μ30 h1) q4_235 q4_232 q4_234 r2_9 q1_11 hd_X10_of ⟨rfl, rfl⟩ ⟨Nat.le_of_ble_eq_true rfl, Nat.le_of_ble_eq_true rfl⟩ cm_0 (by decide) rfl hP hS hl.1 rfl rfl (Nat.le_of_ble_eq_true rfl) dX10_passes_55 (fun H locs hP hS => ?_)
        refine W.eq (g2 := F0 m 58 ls [.int r35]) rfl ?_
        refine lv_goto (tgt := 67) hx hb dX10_passes_58 (by decide) ?_
        exact w_X10_passes_67 C0  x1 ((μ 1 0) - (μ 1 0) / (24 : Int32) * (24 : Int32)) r35 μ35 _ _ _ hP hS (lv_sub hl [1, 2, 0] rfl) h
def X10_go_25   (μ : Mem) : Option (Int32 × Mem) :=
  ob2 (X10_finding (1 : Int32) μ) fun r3 μ3 => some (r3, μ3)
set_option maxRecDepth 100000 in
set_option maxHeartbeats 4000000 in
theorem w_X10_go_25 {g : Gx} {p : Program} {l : Launch} {e : Env} {s : State} {m : MethodId} {args : Array Value} {below : List Frame} {meth : Method} {c : Code} (C0 : Cx Lm g p s m args meth c cX10_go 5 (some .int) RX10) {r : Int32} {ν : Mem}   (μ : Mem) (H : Heap) (locs : List Loc) (ls : Array Slot) (hP : Px Lm g μ H) (hS : va_S (Ax Lm g) s.heap H locs) (hl : lv_has ls 5 [(0, .ref (g.2.2.1 + 0))]) (h : X10_go_25   μ = some (r, ν)) : W p l e { frames := 70, cells := 0, slots := 0, locals := 1591 } s m args below meth c H locs 0 0 (MQ below (Qx Lm g (some (.int r)) ν) args s 0 0 (Ax Lm g)) (F0 m 25 ls []) := by
  obtain ⟨hx, hb, hr, hml, hown, hts, hlocks, hK⟩ := id C0
  unfold X10_go_25 at h
  refine lv_aload_n hx hb dX10_go_25 rfl (lv_at hl 0 rfl) ?_
  refine lv_iconst (v := (1 : Int32)) hx hb dX10_go_26 rfl ?_
  obtain ⟨r3, μ3, h1, h⟩ := ob2_some h
  refine x_callV C0 (rest := []) (q := (RX10, TX10, 22)) (c_X10_finding l g (1 : Int32) μ h1) q4_214 q4_211 q4_213 r2_5 q1_11 hd_X10_finding ⟨rfl, rfl⟩ ⟨Nat.le_of_ble_eq_true rfl, Nat.le_of_ble_eq_true rfl⟩ cm_0 (by decide) rfl hP hS hl.1 rfl rfl (Nat.le_of_ble_eq_true rfl) dX10_go_27 (fun H locs hP hS => ?_)
  refine W.eq (g2 := F0 m 30 ls [.int r3]) rfl ?_
  obtain ⟨rfl, rfl⟩ := some2 h
  exact x_iret C0 hP hS dX10_go_30
def X10_go_69 (K35 : Int32 → Int32 → Int32 → Mem → Option (Int32 × Mem)) (K43 : Int32 → Int32 → Int32 → Int32 → Mem → Option (Int32 × Mem)) (x1 : Int32) (x3 : Int32) (x4 : Int32) (t0 : Int32) (t1 : Int32) (μ : Mem) : Option (Int32 × Mem) :=
  K43 x1 (t0 + t1) x3 (x4 + (1 : Int32)) μ
set_option maxRecDepth 100000 in
set_option maxHeartbeats 4000000 in
theorem w_X10_go_69 {g : Gx} {p : Program} {l : Launch} {e : Env} {s : State} {m : MethodId} {args : Array Value} {below : List Frame} {meth : Method} {c : Code} (C0 : Cx Lm g p s m args meth c cX10_go 5 (some .int) RX10) {r : Int32} {ν : Mem} (K35 : Int32 → Int32 → Int32 → Mem → Option (Int32 × Mem)) (hK35 : ∀ (x1 : Int32) (x2 : Int32) (x3 : Int32) (μ : Mem) (H : Heap) (locs : List Loc) (ls : Array Slot), Px Lm g μ H → va_S (Ax Lm g) s.heap H locs → lv_has ls 5 [(0, .ref (g.2.2.1 + 0)), (1, .int x1), (2, .int x2), (3, .int x3)] → K35 x1 x2 x3 μ = some (r, ν) → W p l e { frames := 70, cells := 0, slots := 0, locals := 1591 } s m args below meth c H locs 0 0 (MQ below (Qx Lm g (some (.int r)) ν) args s 0 0 (Ax Lm g)) (F0 m 35 ls [])) (K43 : Int32 → Int32 → Int32 → Int32 → Mem → Option (Int32 × Mem)) (hK43 : ∀ (x1 : Int32) (x2 : Int32) (x3 : Int32) (x4 : Int32) (μ : Mem) (H : Heap) (locs : List Loc) (ls : Array Slot), Px Lm g μ H → va_S (Ax Lm g) s.heap H locs → lv_has ls 5 [(0, .ref (g.2.2.1 + 0)), (1, .int x1), (2, .int x2), (3, .int x3), (4, .int x4)] → K43 x1 x2 x3 x4 μ = some (r, ν) → W p l e { frames := 70, cells := 0, slots := 0, locals := 1591 } s m args below meth c H locs 0 0 (MQ below (Qx Lm g (some (.int r)) ν) args s 0 0 (Ax Lm g)) (F0 m 43 ls [])) (x1 : Int32) (x3 : Int32) (x4 : Int32) (t0 : Int32) (t1 : Int32) (μ : Mem) (H : Heap) (locs : List Loc) (ls : Array Slot) (hP : Px Lm g μ H) (hS : va_S (Ax Lm g) s.heap H locs) (hl : lv_has ls 5 [(0, .ref (g.2.2.1 + 0)), (1, .int x1), (3, .int x3), (4, .int x4)]) (h : X10_go_69 K35 K43 x1 x3 x4 t0 t1 μ = some (r, ν)) : W p l e { frames := 70, cells := 0, slots := 0, locals := 1591 } s m args below meth c H locs 0 0 (MQ below (Qx Lm g (some (.int r)) ν) args s 0 0 (Ax Lm g)) (F0 m 69 ls [.int t1, .int t0]) := by
  obtain ⟨hx, hb, hr, hml, hown, hts, hlocks, hK⟩ := id C0
  unfold X10_go_69 at h
  refine lv_iadd hx hb dX10_go_69 ?_
  refine lv_istore_n (lv' := [(2, .int (t0 + t1)), (0, .ref (g.2.2.1 + 0)), (1, .int x1), (3, .int x3), (4, .int x4)]) hx hb dX10_go_70 rfl hl (by decide) rfl (fun ls hl => ?_)
  refine lv_iinc (v := (x4 + (1 : Int32))) (lv' := [(4, .int (x4 + (1 : Int32))), (2, .int (t0 + t1)), (0, .ref (g.2.2.1 + 0)), (1, .int x1), (3, .int x3)]) hx hb dX10_go_71 hl (k := 4) rfl rfl (by decide) rfl (fun ls hl => ?_)
  refine lv_goto (tgt := 43) hx hb dX10_go_74 (by decide) ?_
  exact hK43 x1 (t0 + t1) x3 (x4 + (1 : Int32)) μ _ _ _ hP hS (lv_sub hl [2, 3, 1, 4, 0] rfl) h
def X10_go_43 (K35 : Int32 → Int32 → Int32 → Mem → Option (Int32 × Mem)) : Nat → Int32 → Int32 → Int32 → Int32 → Mem → Option (Int32 × Mem)
  | 0, _, _, _, _, _ => none
  | n + 1, x1, x2, x3, x4, μ => (if (μ 1 1) ≤ x4 then lt (st μ 1 0 ((μ 1 0) + (1 : Int32))) fun μ7 => K35 x1 x2 (x3 + (1 : Int32)) μ7 else ob2 (X10_passes x4 μ) fun r8 μ8 => (if r8 = (0 : Int32) then X10_go_69 K35 (X10_go_43 K35 n) x1 x3 x4 x2 (0 : Int32) μ8 else X10_go_69 K35 (X10_go_43 K35 n) x1 x3 x4 x2 (1 : Int32) μ8))
set_option maxRecDepth 100000 in
set_option maxHeartbeats 4000000 in
theorem w_X10_go_43 {g : Gx} {p : Program} {l : Launch} {e : Env} {s : State} {m : MethodId} {args : Array Value} {below : List Frame} {meth : Method} {c : Code} (C0 : Cx Lm g p s m args meth c cX10_go 5 (some .int) RX10) {r : Int32} {ν : Mem} (K35 : Int32 → Int32 → Int32 → Mem → Option (Int32 × Mem)) (hK35 : ∀ (x1 : Int32) (x2 : Int32) (x3 : Int32) (μ : Mem) (H : Heap) (locs : List Loc) (ls : Array Slot), Px Lm g μ H → va_S (Ax Lm g) s.heap H locs → lv_has ls 5 [(0, .ref (g.2.2.1 + 0)), (1, .int x1), (2, .int x2), (3, .int x3)] → K35 x1 x2 x3 μ = some (r, ν) → W p l e { frames := 70, cells := 0, slots := 0, locals := 1591 } s m args below meth c H locs 0 0 (MQ below (Qx Lm g (some (.int r)) ν) args s 0 0 (Ax Lm g)) (F0 m 35 ls [])) (n : Nat) : ∀ (x1 : Int32) (x2 : Int32) (x3 : Int32) (x4 : Int32) (μ : Mem) (H : Heap) (locs : List Loc) (ls : Array Slot), Px Lm g μ H → va_S (Ax Lm g) s.heap H locs → lv_has ls 5 [(0, .ref (g.2.2.1 + 0)), (1, .int x1), (2, .int x2), (3, .int x3), (4, .int x4)] → X10_go_43 K35 n x1 x2 x3 x4 μ = some (r, ν) → W p l e { frames := 70, cells := 0, slots := 0, locals := 1591 } s m args below meth c H locs 0 0 (MQ below (Qx Lm g (some (.int r)) ν) args s 0 0 (Ax Lm g)) (F0 m 43 ls []) := by
  obtain ⟨hx, hb, hr, hml, hown, hts, hlocks, hK⟩ := id C0
  induction n with
  | zero =>
    intro x1 x2 x3 x4 μ H locs ls hP hS hl h
    have h : (none : Option (Int32 × Mem)) = some (r, ν) := h
    cases h
  | succ n ih =>
    intro x1 x2 x3 x4 μ H locs ls hP hS hl h
    rw [X10_go_43.eq_2] at h
    refine lv_iload hx hb dX10_go_43 (lv_at hl 4 rfl) ?_
    refine lv_aload_n hx hb dX10_go_45 rfl (lv_at hl 0 rfl) ?_
    refine x_get C0 hP inu10 (k := 0) cm_0 (by decide) rfl 0 (by decide) q4_134 rfl (v := .ref (g.2.2.1 + 1)) rfl dX10_go_46 ?_
    refine lv_iconst (v := (1 : Int32)) hx hb dX10_go_49 rfl ?_
    refine x_iald C0 hP (k := 1) cm_1 (j := 1) (by decide) rfl dX10_go_50 ?_
    refine lv_icmp_ge (tgt := 77) hx hb dX10_go_51 (by decide) (fun c6 => ?_) (fun c6 => ?_)
    · rw [if_pos c6] at h
      refine lv_aload_n hx hb dX10_go_77 rfl (lv_at hl 0 rfl) ?_
      refine x_get C0 hP inu10 (k := 0) cm_0 (by decide) rfl 0 (by decide) q4_134 rfl (v := .ref (g.2.2.1 + 1)) rfl dX10_go_78 ?_
      refine lv_iconst (v := (0 : Int32)) hx hb dX10_go_81 rfl ?_
      refine lv_dup2_11 hx hb dX10_go_82 rfl rfl ?_
      refine x_iald C0 hP (k := 1) cm_1 (j := 0) (by decide) rfl dX10_go_83 ?_
      refine lv_iconst (v := (1 : Int32)) hx hb dX10_go_84 rfl ?_
      refine lv_iadd hx hb dX10_go_85 ?_
      obtain ⟨μ7, e7, h⟩ := lt_some h
      refine x_iast C0 hP hS (k := 1) cm_1 (j := 0) (by decide) rfl dX10_go_86 (fun H locs hP hS => ?_)
      rw [← e7] at hP
      refine lv_iinc (v := (x3 + (1 : Int32))) (lv' := [(3, .int (x3 + (1 : Int32))), (0, .ref (g.2.2.1 + 0)), (1, .int x1), (2, .int x2), (4, .int x4)]) hx hb dX10_go_87 hl (k := 3) rfl rfl (by decide) rfl (fun ls hl => ?_)
      refine lv_goto (tgt := 35) hx hb dX10_go_90 (by decide) ?_
      exact hK35 x1 x2 (x3 + (1 : Int32)) μ7 _ _ _ hP hS (lv_sub hl [1, 2, 3, 0] rfl) h
    · rw [if_neg c6] at h
      refine lv_iload_n hx hb dX10_go_54 rfl (lv_at hl 2 rfl) ?_
      refine lv_aload_n hx hb dX10_go_55 rfl (lv_at hl 0 rfl) ?_
      refine lv_iload hx hb dX10_go_56 (lv_at hl 4 rfl) ?_
      obtain ⟨r8, μ8, h1, h⟩ := ob2_some h
      refine x_callV C0 (rest := [.int x2]) (q := (RX10, TX10, 22)) (c_X10_passes l g x4 μ h1) q5_151 q5_148 q5_150 r3_14 q1_11 hd_X10_passes ⟨rfl, rfl⟩ ⟨Nat.le_of_ble_eq_true rfl, Nat.le_of_ble_eq_true rfl⟩ cm_0 (by decide) rfl hP hS hl.1 rfl rfl (Nat.le_of_ble_eq_true rfl) dX10_go_58 (fun H locs hP hS => ?_)
      refine W.eq (g2 := F0 m 61 ls [.int r8, .int x2]) rfl ?_
      refine lv_if_eq (tgt := 68) hx hb dX10_go_61 (by decide) (fun c9 => ?_) (fun c9 => ?_)
      · rw [if_pos c9] at h
        refine lv_iconst (v := (0 : Int32)) hx hb dX10_go_68 rfl ?_
        exact w_X10_go_69 C0 K35 hK35 (X10_go_43 K35 n) ih x1 x3 x4 x2 (0 : Int32) μ8 _ _ _ hP hS (lv_sub hl [0, 1, 3, 4] rfl) h
      · rw [if_neg c9] at h
        refine lv_iconst (v := (1 : Int32)) hx hb dX10_go_64 rfl ?_
        refine lv_goto (tgt := 69) hx hb dX10_go_65 (by decide) ?_
        exact w_X10_go_69 C0 K35 hK35 (X10_go_43 K35 n) ih x1 x3 x4 x2 (1 : Int32) μ8 _ _ _ hP hS (lv_sub hl [0, 1, 3, 4] rfl) h
def X10_go_35  : Nat → Int32 → Int32 → Int32 → Mem → Option (Int32 × Mem)
  | 0, _, _, _, _ => none
  | n + 1, x1, x2, x3, μ => (if x1 ≤ x3 then some (x2, μ) else X10_go_43 (X10_go_35 n) FU x1 x2 x3 (0 : Int32) μ)
set_option maxRecDepth 100000 in
set_option maxHeartbeats 4000000 in
theorem w_X10_go_35 {g : Gx} {p : Program} {l : Launch} {e : Env} {s : State} {m : MethodId} {args : Array Value} {below : List Frame} {meth : Method} {c : Code} (C0 : Cx Lm g p s m args meth c cX10_go 5 (some .int) RX10) {r : Int32} {ν : Mem}  (n : Nat) : ∀ (x1 : Int32) (x2 : Int32) (x3 : Int32) (μ : Mem) (H : Heap) (locs : List Loc) (ls : Array Slot), Px Lm g μ H → va_S (Ax Lm g) s.heap H locs → lv_has ls 5 [(0, .ref (g.2.2.1 + 0)), (1, .int x1), (2, .int x2), (3, .int x3)] → X10_go_35  n x1 x2 x3 μ = some (r, ν) → W p l e { frames := 70, cells := 0, slots := 0, locals := 1591 } s m args below meth c H locs 0 0 (MQ below (Qx Lm g (some (.int r)) ν) args s 0 0 (Ax Lm g)) (F0 m 35 ls []) := by
  obtain ⟨hx, hb, hr, hml, hown, hts, hlocks, hK⟩ := id C0
  induction n with
  | zero =>
    intro x1 x2 x3 μ H locs ls hP hS hl h
    have h : (none : Option (Int32 × Mem)) = some (r, ν) := h
    cases h
  | succ n ih =>
    intro x1 x2 x3 μ H locs ls hP hS hl h
    rw [X10_go_35.eq_2] at h
    refine lv_iload_n hx hb dX10_go_35 rfl (lv_at hl 3 rfl) ?_
    refine lv_iload_n hx hb dX10_go_36 rfl (lv_at hl 1 rfl) ?_
    refine lv_icmp_ge (tgt := 93) hx hb dX10_go_37 (by decide) (fun c5 => ?_) (fun c5 => ?_)
    · rw [if_pos c5] at h
      refine lv_iload_n hx hb dX10_go_93 rfl (lv_at hl 2 rfl) ?_
      obtain ⟨rfl, rfl⟩ := some2 h
      exact x_iret C0 hP hS dX10_go_94
    · rw [if_neg c5] at h
      refine lv_iconst (v := (0 : Int32)) hx hb dX10_go_40 rfl ?_
      refine lv_istore (lv' := [(4, .int (0 : Int32)), (0, .ref (g.2.2.1 + 0)), (1, .int x1), (2, .int x2), (3, .int x3)]) hx hb dX10_go_41 hl (by decide) rfl (fun ls hl => ?_)
      exact w_X10_go_43 C0 (X10_go_35  n) ih FU x1 x2 x3 (0 : Int32) μ _ _ _ hP hS (lv_sub hl [1, 2, 3, 4, 0] rfl) h
def X10_go (x1 : Int32) (μ : Mem) : Option (Int32 × Mem) :=
  ob2 (X10_in x1 (1 : Int32) (240 : Int32) μ) fun r1 μ1 => (if r1 = (0 : Int32) then X10_go_25 μ1 else (if ((μ1 1 0) + x1) ≤ (9000 : Int32) then X10_go_35 FU x1 (0 : Int32) (0 : Int32) μ1 else X10_go_25 μ1))
set_option maxRecDepth 100000 in
set_option maxHeartbeats 4000000 in
theorem c_X10_go (l : Launch) (g : Gx) (x1 : Int32) (μ : Mem) {r : Int32} {ν : Mem} (h : X10_go x1 μ = some (r, ν)) : Ct Lm g l yX10_go cX10_go 5 (some .int) { frames := 70, cells := 0, slots := 0, locals := 1591 } [.ref (g.2.2.1 + 0), .int x1] μ (some (.int r)) ν := by
  refine x_met (lv := [(0, .ref (g.2.2.1 + 0)), (1, .int x1)]) rfl (Nat.le_of_ble_eq_true rfl) rfl ?_
  intro p e s m below meth c C0 hP ls hl
  generalize ([.ref (g.2.2.1 + 0), .int x1] : List Value).toArray = args at C0 ⊢
  have C0 : Cx Lm g p s m args meth c cX10_go 5 (some .int) RX10 := C0
  have hS : va_S (Ax Lm g) s.heap s.heap [] := va_S.rf
  obtain ⟨hx, hb, hr, hml, hown, hts, hlocks, hK⟩ := id C0
  unfold X10_go at h
  skip
  refine lv_iload_n hx hb dX10_go_0 rfl (lv_at hl 1 rfl) ?_
  refine lv_iconst (v := (1 : Int32)) hx hb dX10_go_1 rfl ?_
  refine lv_sipush (v := (240 : Int32)) hx hb dX10_go_2 (by decide +kernel) ?_
  obtain ⟨r1, μ1, h1, h⟩ := ob2_some h
  refine x_callS C0 (rest := []) (c_X10_in l g x1 (1 : Int32) (240 : Int32) μ h1) q4_207 q4_205 q4_206 q1_11 hd_X10_in ⟨rfl, rfl⟩ ⟨Nat.le_of_ble_eq_true rfl, Nat.le_of_ble_eq_true rfl⟩ hP hS hl.1 rfl rfl (Nat.le_of_ble_eq_true rfl) dX10_go_5 (fun H locs hP hS => ?_)
  refine W.eq (g2 := F0 m 8 ls [.int r1]) rfl ?_
  refine lv_if_eq (tgt := 25) hx hb dX10_go_8 (by decide) (fun c2 => ?_) (fun c2 => ?_)
  · rw [if_pos c2] at h
    exact w_X10_go_25 C0   μ1 _ _ _ hP hS (lv_sub hl [0] rfl) h
  · rw [if_neg c2] at h
    refine lv_aload_n hx hb dX10_go_11 rfl (lv_at hl 0 rfl) ?_
    refine x_get C0 hP inu10 (k := 0) cm_0 (by decide) rfl 0 (by decide) q4_134 rfl (v := .ref (g.2.2.1 + 1)) rfl dX10_go_12 ?_
    refine lv_iconst (v := (0 : Int32)) hx hb dX10_go_15 rfl ?_
    refine x_iald C0 hP (k := 1) cm_1 (j := 0) (by decide) rfl dX10_go_16 ?_
    refine lv_iload_n hx hb dX10_go_17 rfl (lv_at hl 1 rfl) ?_
    refine lv_iadd hx hb dX10_go_18 ?_
    refine lv_sipush (v := (9000 : Int32)) hx hb dX10_go_19 (by decide +kernel) ?_
    refine lv_icmp_le (tgt := 31) hx hb dX10_go_22 (by decide) (fun c4 => ?_) (fun c4 => ?_)
    · rw [if_pos c4] at h
      refine lv_iconst (v := (0 : Int32)) hx hb dX10_go_31 rfl ?_
      refine lv_istore_n (lv' := [(2, .int (0 : Int32)), (0, .ref (g.2.2.1 + 0)), (1, .int x1)]) hx hb dX10_go_32 rfl hl (by decide) rfl (fun ls hl => ?_)
      refine lv_iconst (v := (0 : Int32)) hx hb dX10_go_33 rfl ?_
      refine lv_istore_n (lv' := [(3, .int (0 : Int32)), (2, .int (0 : Int32)), (0, .ref (g.2.2.1 + 0)), (1, .int x1)]) hx hb dX10_go_34 rfl hl (by decide) rfl (fun ls hl => ?_)
      exact w_X10_go_35 C0  FU x1 (0 : Int32) (0 : Int32) μ1 _ _ _ hP hS (lv_sub hl [2, 3, 1, 0] rfl) h
    · rw [if_neg c4] at h
      exact w_X10_go_25 C0   μ1 _ _ _ hP hS (lv_sub hl [0] rfl) h
def X10_read_35   (μ : Mem) : Option (Int32 × Mem) :=
  ob2 (X10_finding (1 : Int32) μ) fun r3 μ3 => some (r3, μ3)
set_option maxRecDepth 100000 in
set_option maxHeartbeats 4000000 in
theorem w_X10_read_35 {g : Gx} {p : Program} {l : Launch} {e : Env} {s : State} {m : MethodId} {args : Array Value} {below : List Frame} {meth : Method} {c : Code} (C0 : Cx Lm g p s m args meth c cX10_read 5 (some .int) RX10) {r : Int32} {ν : Mem}   (μ : Mem) (H : Heap) (locs : List Loc) (ls : Array Slot) (hP : Px Lm g μ H) (hS : va_S (Ax Lm g) s.heap H locs) (hl : lv_has ls 5 [(0, .ref (g.2.2.1 + 0))]) (h : X10_read_35   μ = some (r, ν)) : W p l e { frames := 2, cells := 0, slots := 0, locals := 43 } s m args below meth c H locs 0 0 (MQ below (Qx Lm g (some (.int r)) ν) args s 0 0 (Ax Lm g)) (F0 m 35 ls []) := by
  obtain ⟨hx, hb, hr, hml, hown, hts, hlocks, hK⟩ := id C0
  unfold X10_read_35 at h
  refine lv_aload_n hx hb dX10_read_35 rfl (lv_at hl 0 rfl) ?_
  refine lv_iconst (v := (1 : Int32)) hx hb dX10_read_36 rfl ?_
  obtain ⟨r3, μ3, h1, h⟩ := ob2_some h
  refine x_callV C0 (rest := []) (q := (RX10, TX10, 22)) (c_X10_finding l g (1 : Int32) μ h1) q4_214 q4_211 q4_213 r2_5 q1_11 hd_X10_finding ⟨rfl, rfl⟩ ⟨Nat.le_of_ble_eq_true rfl, Nat.le_of_ble_eq_true rfl⟩ cm_0 (by decide) rfl hP hS hl.1 rfl rfl (Nat.le_of_ble_eq_true rfl) dX10_read_37 (fun H locs hP hS => ?_)
  refine W.eq (g2 := F0 m 40 ls [.int r3]) rfl ?_
  obtain ⟨rfl, rfl⟩ := some2 h
  exact x_iret C0 hP hS dX10_read_40
def X10_read (x1 : Int32) (x2 : Int32) (x3 : Int32) (μ : Mem) : Option (Int32 × Mem) :=
  ob2 (X10_isMeter x1 μ) fun r1 μ1 => (if r1 = (0 : Int32) then X10_read_35 μ1 else ob2 (X10_in x2 (0 : Int32) (μ1 1 0) μ1) fun r4 μ4 => (if r4 = (0 : Int32) then X10_read_35 μ4 else ob2 (X10_in x3 (-9999 : Int32) (9999 : Int32) μ4) fun r6 μ6 => (if r6 = (0 : Int32) then X10_read_35 μ6 else (if (μ6 1 4) = (40 : Int32) then ob2 (X10_finding (4 : Int32) μ6) fun r18 μ18 => some (r18, μ18) else gd (inB ((1124 : Int32) + ((4 : Int32) * (μ6 1 4))) 1944) (lt (st μ6 1 ((1124 : Int32) + ((4 : Int32) * (μ6 1 4))).toNatClampNeg x1) fun μ10 => gd (inB (((1124 : Int32) + ((4 : Int32) * (μ6 1 4))) + (1 : Int32)) 1944) (lt (st μ10 1 (((1124 : Int32) + ((4 : Int32) * (μ6 1 4))) + (1 : Int32)).toNatClampNeg x2) fun μ12 => gd (inB (((1124 : Int32) + ((4 : Int32) * (μ6 1 4))) + (2 : Int32)) 1944) (lt (st μ12 1 (((1124 : Int32) + ((4 : Int32) * (μ6 1 4))) + (2 : Int32)).toNatClampNeg x3) fun μ14 => gd (inB (((1124 : Int32) + ((4 : Int32) * (μ6 1 4))) + (3 : Int32)) 1944) (lt (st μ14 1 (((1124 : Int32) + ((4 : Int32) * (μ6 1 4))) + (3 : Int32)).toNatClampNeg (μ14 1 0)) fun μ16 => lt (st μ16 1 4 ((μ16 1 4) + (1 : Int32))) fun μ17 => some (((μ17 1 4) - (1 : Int32)), μ17)))))))))
set_option maxRecDepth 100000 in
set_option maxHeartbeats 4000000 in
theorem c_X10_read (l : Launch) (g : Gx) (x1 : Int32) (x2 : Int32) (x3 : Int32) (μ : Mem) {r : Int32} {ν : Mem} (h : X10_read x1 x2 x3 μ = some (r, ν)) : Ct Lm g l yX10_read cX10_read 5 (some .int) { frames := 2, cells := 0, slots := 0, locals := 43 } [.ref (g.2.2.1 + 0), .int x1, .int x2, .int x3] μ (some (.int r)) ν := by
  refine x_met (lv := [(0, .ref (g.2.2.1 + 0)), (1, .int x1), (2, .int x2), (3, .int x3)]) rfl (Nat.le_of_ble_eq_true rfl) rfl ?_
  intro p e s m below meth c C0 hP ls hl
  generalize ([.ref (g.2.2.1 + 0), .int x1, .int x2, .int x3] : List Value).toArray = args at C0 ⊢
  have C0 : Cx Lm g p s m args meth c cX10_read 5 (some .int) RX10 := C0
  have hS : va_S (Ax Lm g) s.heap s.heap [] := va_S.rf
  obtain ⟨hx, hb, hr, hml, hown, hts, hlocks, hK⟩ := id C0
  unfold X10_read at h
  skip
  refine lv_aload_n hx hb dX10_read_0 rfl (lv_at hl 0 rfl) ?_
  refine lv_iload_n hx hb dX10_read_1 rfl (lv_at hl 1 rfl) ?_
  obtain ⟨r1, μ1, h1, h⟩ := ob2_some h
  refine x_callV C0 (rest := []) (q := (RX10, TX10, 22)) (c_X10_isMeter l g x1 μ h1) q4_231 q4_228 q4_230 r2_8 q1_11 hd_X10_isMeter ⟨rfl, rfl⟩ ⟨Nat.le_of_ble_eq_true rfl, Nat.le_of_ble_eq_true rfl⟩ cm_0 (by decide) rfl hP hS hl.1 rfl rfl (Nat.le_of_ble_eq_true rfl) dX10_read_2 (fun H locs hP hS => ?_)
  refine W.eq (g2 := F0 m 5 ls [.int r1]) rfl ?_
  refine lv_if_eq (tgt := 35) hx hb dX10_read_5 (by decide) (fun c2 => ?_) (fun c2 => ?_)
  · rw [if_pos c2] at h
    exact w_X10_read_35 C0   μ1 _ _ _ hP hS (lv_sub hl [0] rfl) h
  · rw [if_neg c2] at h
    refine lv_iload_n hx hb dX10_read_8 rfl (lv_at hl 2 rfl) ?_
    refine lv_iconst (v := (0 : Int32)) hx hb dX10_read_9 rfl ?_
    refine lv_aload_n hx hb dX10_read_10 rfl (lv_at hl 0 rfl) ?_
    refine x_get C0 hP inu10 (k := 0) cm_0 (by decide) rfl 0 (by decide) q4_134 rfl (v := .ref (g.2.2.1 + 1)) rfl dX10_read_11 ?_
    refine lv_iconst (v := (0 : Int32)) hx hb dX10_read_14 rfl ?_
    refine x_iald C0 hP (k := 1) cm_1 (j := 0) (by decide) rfl dX10_read_15 ?_
    obtain ⟨r4, μ4, h1, h⟩ := ob2_some h
    refine x_callS C0 (rest := []) (c_X10_in l g x2 (0 : Int32) (μ1 1 0) μ1 h1) q4_207 q4_205 q4_206 q1_11 hd_X10_in ⟨rfl, rfl⟩ ⟨Nat.le_of_ble_eq_true rfl, Nat.le_of_ble_eq_true rfl⟩ hP hS hl.1 rfl rfl (Nat.le_of_ble_eq_true rfl) dX10_read_16 (fun H locs hP hS => ?_)
    refine W.eq (g2 := F0 m 19 ls [.int r4]) rfl ?_
    refine lv_if_eq (tgt := 35) hx hb dX10_read_19 (by decide) (fun c5 => ?_) (fun c5 => ?_)
    · rw [if_pos c5] at h
      exact w_X10_read_35 C0   μ4 _ _ _ hP hS (lv_sub hl [0] rfl) h
    · rw [if_neg c5] at h
      refine lv_iload_n hx hb dX10_read_22 rfl (lv_at hl 3 rfl) ?_
      refine lv_sipush (v := (-9999 : Int32)) hx hb dX10_read_23 (by decide +kernel) ?_
      refine lv_sipush (v := (9999 : Int32)) hx hb dX10_read_26 (by decide +kernel) ?_
      obtain ⟨r6, μ6, h1, h⟩ := ob2_some h
      refine x_callS C0 (rest := []) (c_X10_in l g x3 (-9999 : Int32) (9999 : Int32) μ4 h1) q4_207 q4_205 q4_206 q1_11 hd_X10_in ⟨rfl, rfl⟩ ⟨Nat.le_of_ble_eq_true rfl, Nat.le_of_ble_eq_true rfl⟩ hP hS hl.1 rfl rfl (Nat.le_of_ble_eq_true rfl) dX10_read_29 (fun H locs hP hS => ?_)
      refine W.eq (g2 := F0 m 32 ls [.int r6]) rfl ?_
      refine lv_if_ne (tgt := 41) hx hb dX10_read_32 (by decide) (fun c7 => ?_) (fun c7 => ?_)
      · rw [if_neg c7] at h
        refine lv_aload_n hx hb dX10_read_41 rfl (lv_at hl 0 rfl) ?_
        refine x_get C0 hP inu10 (k := 0) cm_0 (by decide) rfl 0 (by decide) q4_134 rfl (v := .ref (g.2.2.1 + 1)) rfl dX10_read_42 ?_
        refine lv_iconst (v := (4 : Int32)) hx hb dX10_read_45 rfl ?_
        refine x_iald C0 hP (k := 1) cm_1 (j := 4) (by decide) rfl dX10_read_46 ?_
        refine lv_bipush (v := (40 : Int32)) hx hb dX10_read_47 (by decide +kernel) ?_
        refine lv_icmp_ne (tgt := 58) hx hb dX10_read_49 (by decide) (fun c8 => ?_) (fun c8 => ?_)
        · rw [if_neg c8] at h
          refine lv_sipush (v := (1124 : Int32)) hx hb dX10_read_58 (by decide +kernel) ?_
          refine lv_iconst (v := (4 : Int32)) hx hb dX10_read_61 rfl ?_
          refine lv_aload_n hx hb dX10_read_62 rfl (lv_at hl 0 rfl) ?_
          refine x_get C0 hP inu10 (k := 0) cm_0 (by decide) rfl 0 (by decide) q4_134 rfl (v := .ref (g.2.2.1 + 1)) rfl dX10_read_63 ?_
          refine lv_iconst (v := (4 : Int32)) hx hb dX10_read_66 rfl ?_
          refine x_iald C0 hP (k := 1) cm_1 (j := 4) (by decide) rfl dX10_read_67 ?_
          refine lv_imul hx hb dX10_read_68 ?_
          refine lv_iadd hx hb dX10_read_69 ?_
          refine lv_istore (lv' := [(4, .int ((1124 : Int32) + ((4 : Int32) * (μ6 1 4)))), (0, .ref (g.2.2.1 + 0)), (1, .int x1), (2, .int x2), (3, .int x3)]) hx hb dX10_read_70 hl (by decide) rfl (fun ls hl => ?_)
          refine lv_aload_n hx hb dX10_read_72 rfl (lv_at hl 1 rfl) ?_
          refine x_get C0 hP inu10 (k := 0) cm_0 (by decide) rfl 0 (by decide) q4_134 rfl (v := .ref (g.2.2.1 + 1)) rfl dX10_read_73 ?_
          refine lv_iload hx hb dX10_read_76 (lv_at hl 0 rfl) ?_
          refine lv_iload_n hx hb dX10_read_78 rfl (lv_at hl 2 rfl) ?_
          obtain ⟨z9, h⟩ := gd_some h
          obtain ⟨μ10, e10, h⟩ := lt_some h
          refine x_iast C0 hP hS (k := 1) cm_1 (j := ((1124 : Int32) + ((4 : Int32) * (μ6 1 4))).toNatClampNeg) z9 rfl dX10_read_79 (fun H locs hP hS => ?_)
          rw [← e10] at hP
          refine lv_aload_n hx hb dX10_read_80 rfl (lv_at hl 1 rfl) ?_
          refine x_get C0 hP inu10 (k := 0) cm_0 (by decide) rfl 0 (by decide) q4_134 rfl (v := .ref (g.2.2.1 + 1)) rfl dX10_read_81 ?_
          refine lv_iload hx hb dX10_read_84 (lv_at hl 0 rfl) ?_
          refine lv_iconst (v := (1 : Int32)) hx hb dX10_read_86 rfl ?_
          refine lv_iadd hx hb dX10_read_87 ?_
          refine lv_iload_n hx hb dX10_read_88 rfl (lv_at hl 3 rfl) ?_
          obtain ⟨z11, h⟩ := gd_some h
          obtain ⟨μ12, e12, h⟩ := lt_some h
          refine x_iast C0 hP hS (k := 1) cm_1 (j := (((1124 : Int32) + ((4 : Int32) * (μ6 1 4))) + (1 : Int32)).toNatClampNeg) z11 rfl dX10_read_89 (fun H locs hP hS => ?_)
          rw [← e12] at hP
          refine lv_aload_n hx hb dX10_read_90 rfl (lv_at hl 1 rfl) ?_
          refine x_get C0 hP inu10 (k := 0) cm_0 (by decide) rfl 0 (by decide) q4_134 rfl (v := .ref (g.2.2.1 + 1)) rfl dX10_read_91 ?_
          refine lv_iload hx hb dX10_read_94 (lv_at hl 0 rfl) ?_
          refine lv_iconst (v := (2 : Int32)) hx hb dX10_read_96 rfl ?_
          refine lv_iadd hx hb dX10_read_97 ?_
          refine lv_iload_n hx hb dX10_read_98 rfl (lv_at hl 4 rfl) ?_
          obtain ⟨z13, h⟩ := gd_some h
          obtain ⟨μ14, e14, h⟩ := lt_some h
          refine x_iast C0 hP hS (k := 1) cm_1 (j := (((1124 : Int32) + ((4 : Int32) * (μ6 1 4))) + (2 : Int32)).toNatClampNeg) z13 rfl dX10_read_99 (fun H locs hP hS => ?_)
          rw [← e14] at hP
          refine lv_aload_n hx hb dX10_read_100 rfl (lv_at hl 1 rfl) ?_
          refine x_get C0 hP inu10 (k := 0) cm_0 (by decide) rfl 0 (by decide) q4_134 rfl (v := .ref (g.2.2.1 + 1)) rfl dX10_read_101 ?_
          refine lv_iload hx hb dX10_read_104 (lv_at hl 0 rfl) ?_
          refine lv_iconst (v := (3 : Int32)) hx hb dX10_read_106 rfl ?_
          refine lv_iadd hx hb dX10_read_107 ?_
          refine lv_aload_n hx hb dX10_read_108 rfl (lv_at hl 1 rfl) ?_
          refine x_get C0 hP inu10 (k := 0) cm_0 (by decide) rfl 0 (by decide) q4_134 rfl (v := .ref (g.2.2.1 + 1)) rfl dX10_read_109 ?_
          refine lv_iconst (v := (0 : Int32)) hx hb dX10_read_112 rfl ?_
          refine x_iald C0 hP (k := 1) cm_1 (j := 0) (by decide) rfl dX10_read_113 ?_
          obtain ⟨z15, h⟩ := gd_some h
          obtain ⟨μ16, e16, h⟩ := lt_some h
          refine x_iast C0 hP hS (k := 1) cm_1 (j := (((1124 : Int32) + ((4 : Int32) * (μ6 1 4))) + (3 : Int32)).toNatClampNeg) z15 rfl dX10_read_114 (fun H locs hP hS => ?_)
          rw [← e16] at hP
          refine lv_aload_n hx hb dX10_read_115 rfl (lv_at hl 1 rfl) ?_
          refine x_get C0 hP inu10 (k := 0) cm_0 (by decide) rfl 0 (by decide) q4_134 rfl (v := .ref (g.2.2.1 + 1)) rfl dX10_read_116 ?_
          refine lv_iconst (v := (4 : Int32)) hx hb dX10_read_119 rfl ?_
          refine lv_dup2_11 hx hb dX10_read_120 rfl rfl ?_
          refine x_iald C0 hP (k := 1) cm_1 (j := 4) (by decide) rfl dX10_read_121 ?_
          refine lv_iconst (v := (1 : Int32)) hx hb dX10_read_122 rfl ?_
          refine lv_iadd hx hb dX10_read_123 ?_
          obtain ⟨μ17, e17, h⟩ := lt_some h
          refine x_iast C0 hP hS (k := 1) cm_1 (j := 4) (by decide) rfl dX10_read_124 (fun H locs hP hS => ?_)
          rw [← e17] at hP
          refine lv_aload_n hx hb dX10_read_125 rfl (lv_at hl 1 rfl) ?_
          refine x_get C0 hP inu10 (k := 0) cm_0 (by decide) rfl 0 (by decide) q4_134 rfl (v := .ref (g.2.2.1 + 1)) rfl dX10_read_126 ?_
          refine lv_iconst (v := (4 : Int32)) hx hb dX10_read_129 rfl ?_
          refine x_iald C0 hP (k := 1) cm_1 (j := 4) (by decide) rfl dX10_read_130 ?_
          refine lv_iconst (v := (1 : Int32)) hx hb dX10_read_131 rfl ?_
          refine lv_isub hx hb dX10_read_132 ?_
          obtain ⟨rfl, rfl⟩ := some2 h
          exact x_iret C0 hP hS dX10_read_133
        · rw [if_pos c8] at h
          refine lv_aload_n hx hb dX10_read_52 rfl (lv_at hl 0 rfl) ?_
          refine lv_iconst (v := (4 : Int32)) hx hb dX10_read_53 rfl ?_
          obtain ⟨r18, μ18, h1, h⟩ := ob2_some h
          refine x_callV C0 (rest := []) (q := (RX10, TX10, 22)) (c_X10_finding l g (4 : Int32) μ6 h1) q4_214 q4_211 q4_213 r2_5 q1_11 hd_X10_finding ⟨rfl, rfl⟩ ⟨Nat.le_of_ble_eq_true rfl, Nat.le_of_ble_eq_true rfl⟩ cm_0 (by decide) rfl hP hS hl.1 rfl rfl (Nat.le_of_ble_eq_true rfl) dX10_read_54 (fun H locs hP hS => ?_)
          refine W.eq (g2 := F0 m 57 ls [.int r18]) rfl ?_
          obtain ⟨rfl, rfl⟩ := some2 h
          exact x_iret C0 hP hS dX10_read_57
      · rw [if_pos c7] at h
        exact w_X10_read_35 C0   μ6 _ _ _ hP hS (lv_sub hl [0] rfl) h
