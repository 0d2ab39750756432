def X10_dark_56   (μ : Mem) : Option (Int32 × Mem) :=
  ob2 (X10_finding (1 : Int32) μ) fun r3 μ3 => some (r3, μ3)
set_option maxRecDepth 100000 in
set_option maxHeartbeats 4000000 in
theorem w_X10_dark_56 {g : Gx} {p : Program} {l : Launch} {e : Env} {s : State} {m : MethodId} {args : Array Value} {below : List Frame} {meth : Method} {c : Code} (C0 : Cx Lm g p s m args meth c cX10_dark 9 (some .int) RX10) {r : Int32} {ν : Mem}   (μ : Mem) (H : Heap) (locs : List Loc) (ls : Array Slot) (hP : Px Lm g μ H) (hS : va_S (Ax Lm g) s.heap H locs) (hl : lv_has ls 9 [(0, .ref (g.2.2.1 + 0))]) (h : X10_dark_56   μ = some (r, ν)) : W p l e { frames := 2, cells := 0, slots := 0, locals := 43 } s m args below meth c H locs 0 0 (MQ below (Qx Lm g (some (.int r)) ν) args s 0 0 (Ax Lm g)) (F0 m 56 ls []) := by
  obtain ⟨hx, hb, hr, hml, hown, hts, hlocks, hK⟩ := id C0
  unfold X10_dark_56 at h
  refine lv_aload_n hx hb dX10_dark_56 rfl (lv_at hl 0 rfl) ?_
  refine lv_iconst (v := (1 : Int32)) hx hb dX10_dark_57 rfl ?_
  obtain ⟨r3, μ3, h1, h⟩ := ob2_some h
  refine x_callV C0 (rest := []) (q := (RX10, TX10, 22)) (c_X10_finding l g (1 : Int32) μ h1) q4_214 q4_211 q4_213 r2_5 q1_11 hd_X10_finding ⟨rfl, rfl⟩ ⟨Nat.le_of_ble_eq_true rfl, Nat.le_of_ble_eq_true rfl⟩ cm_0 (by decide) rfl hP hS hl.1 rfl rfl (Nat.le_of_ble_eq_true rfl) dX10_dark_58 (fun H locs hP hS => ?_)
  refine W.eq (g2 := F0 m 61 ls [.int r3]) rfl ?_
  obtain ⟨rfl, rfl⟩ := some2 h
  exact x_iret C0 hP hS dX10_dark_61
def X10_dark_285 (K204 : Int32 → Int32 → Int32 → Int32 → Int32 → Int32 → Mem → Option (Int32 × Mem)) (x1 : Int32) (x2 : Int32) (x4 : Int32) (x5 : Int32) (x7 : Int32) (t0 : Int32) (t1 : Int32) (μ : Mem) : Option (Int32 × Mem) :=
  K204 x1 x2 x4 x5 (t0 + t1) (x7 + (1 : Int32)) μ
set_option maxRecDepth 100000 in
set_option maxHeartbeats 4000000 in
theorem w_X10_dark_285 {g : Gx} {p : Program} {l : Launch} {e : Env} {s : State} {m : MethodId} {args : Array Value} {below : List Frame} {meth : Method} {c : Code} (C0 : Cx Lm g p s m args meth c cX10_dark 9 (some .int) RX10) {r : Int32} {ν : Mem} (K204 : Int32 → Int32 → Int32 → Int32 → Int32 → Int32 → Mem → Option (Int32 × Mem)) (hK204 : ∀ (x1 : Int32) (x2 : Int32) (x4 : Int32) (x5 : Int32) (x6 : Int32) (x7 : Int32) (μ : Mem) (H : Heap) (locs : List Loc) (ls : Array Slot), Px Lm g μ H → va_S (Ax Lm g) s.heap H locs → lv_has ls 9 [(0, .ref (g.2.2.1 + 0)), (1, .int x1), (2, .int x2), (4, .int x4), (5, .int x5), (6, .int x6), (7, .int x7)] → K204 x1 x2 x4 x5 x6 x7 μ = some (r, ν) → W p l e { frames := 2, cells := 0, slots := 0, locals := 43 } s m args below meth c H locs 0 0 (MQ below (Qx Lm g (some (.int r)) ν) args s 0 0 (Ax Lm g)) (F0 m 204 ls [])) (x1 : Int32) (x2 : Int32) (x4 : Int32) (x5 : Int32) (x7 : Int32) (t0 : Int32) (t1 : Int32) (μ : Mem) (H : Heap) (locs : List Loc) (ls : Array Slot) (hP : Px Lm g μ H) (hS : va_S (Ax Lm g) s.heap H locs) (hl : lv_has ls 9 [(0, .ref (g.2.2.1 + 0)), (1, .int x1), (2, .int x2), (4, .int x4), (5, .int x5), (7, .int x7)]) (h : X10_dark_285 K204 x1 x2 x4 x5 x7 t0 t1 μ = some (r, ν)) : W p l e { frames := 2, cells := 0, slots := 0, locals := 43 } s m args below meth c H locs 0 0 (MQ below (Qx Lm g (some (.int r)) ν) args s 0 0 (Ax Lm g)) (F0 m 285 ls [.int t1, .int t0]) := by
  obtain ⟨hx, hb, hr, hml, hown, hts, hlocks, hK⟩ := id C0
  unfold X10_dark_285 at h
  refine lv_iadd hx hb dX10_dark_285 ?_
  refine lv_istore (lv' := [(6, .int (t0 + t1)), (0, .ref (g.2.2.1 + 0)), (1, .int x1), (2, .int x2), (4, .int x4), (5, .int x5), (7, .int x7)]) hx hb dX10_dark_286 hl (by decide) rfl (fun ls hl => ?_)
  refine lv_iinc (v := (x7 + (1 : Int32))) (lv' := [(7, .int (x7 + (1 : Int32))), (6, .int (t0 + t1)), (0, .ref (g.2.2.1 + 0)), (1, .int x1), (2, .int x2), (4, .int x4), (5, .int x5)]) hx hb dX10_dark_288 hl (k := 6) rfl rfl (by decide) rfl (fun ls hl => ?_)
  refine lv_goto (tgt := 204) hx hb dX10_dark_291 (by decide) ?_
  exact hK204 x1 x2 x4 x5 (t0 + t1) (x7 + (1 : Int32)) μ _ _ _ hP hS (lv_sub hl [2, 3, 4, 5, 6, 1, 0] rfl) h
def X10_dark_284 (K204 : Int32 → Int32 → Int32 → Int32 → Int32 → Int32 → Mem → Option (Int32 × Mem)) (x1 : Int32) (x2 : Int32) (x4 : Int32) (x5 : Int32) (x7 : Int32) (t0 : Int32) (μ : Mem) : Option (Int32 × Mem) :=
  X10_dark_285 K204 x1 x2 x4 x5 x7 t0 (0 : Int32) μ
set_option maxRecDepth 100000 in
set_option maxHeartbeats 4000000 in
theorem w_X10_dark_284 {g : Gx} {p : Program} {l : Launch} {e : Env} {s : State} {m : MethodId} {args : Array Value} {below : List Frame} {meth : Method} {c : Code} (C0 : Cx Lm g p s m args meth c cX10_dark 9 (some .int) RX10) {r : Int32} {ν : Mem} (K204 : Int32 → Int32 → Int32 → Int32 → Int32 → Int32 → Mem → Option (Int32 × Mem)) (hK204 : ∀ (x1 : Int32) (x2 : Int32) (x4 : Int32) (x5 : Int32) (x6 : Int32) (x7 : Int32) (μ : Mem) (H : Heap) (locs : List Loc) (ls : Array Slot), Px Lm g μ H → va_S (Ax Lm g) s.heap H locs → lv_has ls 9 [(0, .ref (g.2.2.1 + 0)), (1, .int x1), (2, .int x2), (4, .int x4), (5, .int x5), (6, .int x6), (7, .int x7)] → K204 x1 x2 x4 x5 x6 x7 μ = some (r, ν) → W p l e { frames := 2, cells := 0, slots := 0, locals := 43 } s m args below meth c H locs 0 0 (MQ below (Qx Lm g (some (.int r)) ν) args s 0 0 (Ax Lm g)) (F0 m 204 ls [])) (x1 : Int32) (x2 : Int32) (x4 : Int32) (x5 : Int32) (x7 : Int32) (t0 : Int32) (μ : Mem) (H : Heap) (locs : List Loc) (ls : Array Slot) (hP : Px Lm g μ H) (hS : va_S (Ax Lm g) s.heap H locs) (hl : lv_has ls 9 [(0, .ref (g.2.2.1 + 0)), (1, .int x1), (2, .int x2), (4, .int x4), (5, .int x5), (7, .int x7)]) (h : X10_dark_284 K204 x1 x2 x4 x5 x7 t0 μ = some (r, ν)) : W p l e { frames := 2, cells := 0, slots := 0, locals := 43 } s m args below meth c H locs 0 0 (MQ below (Qx Lm g (some (.int r)) ν) args s 0 0 (Ax Lm g)) (F0 m 284 ls [.int t0]) := by
  obtain ⟨hx, hb, hr, hml, hown, hts, hlocks, hK⟩ := id C0
  unfold X10_dark_284 at h
  refine lv_iconst (v := (0 : Int32)) hx hb dX10_dark_284 rfl ?_
  exact w_X10_dark_285 C0 K204 hK204 x1 x2 x4 x5 x7 t0 (0 : Int32) μ _ _ _ hP hS (lv_sub hl [0, 1, 2, 3, 4, 5] rfl) h
def X10_dark_204  : Nat → Int32 → Int32 → Int32 → Int32 → Int32 → Int32 → Mem → Option (Int32 × Mem)
  | 0, _, _, _, _, _, _, _ => none
  | n + 1, x1, x2, x4, x5, x6, x7, μ => (if (μ 1 5) ≤ x7 then gd (inB (x5 + (1 : Int32)) 1944) ((if (0 : Int32) ≤ (x6 - ((x2 - (μ 1 (x5 + (1 : Int32)).toNatClampNeg)) * (x4 / (1000 : Int32)))) then (if (0 : Int32) ≤ (x6 - ((x2 - (μ 1 (x5 + (1 : Int32)).toNatClampNeg)) * (x4 - x4 / (1000 : Int32) * (1000 : Int32)))) then some ((0 : Int32), μ) else some ((1 : Int32), μ)) else some ((2 : Int32), μ))) else gd (inB ((1284 : Int32) + ((3 : Int32) * x7)) 1944) ((if (μ 1 ((1284 : Int32) + ((3 : Int32) * x7)).toNatClampNeg) = x1 then gd (inB (((1284 : Int32) + ((3 : Int32) * x7)) + (1 : Int32)) 1944) (gd (inB (x5 + (1 : Int32)) 1944) ((if (μ 1 (((1284 : Int32) + ((3 : Int32) * x7)) + (1 : Int32)).toNatClampNeg) < (μ 1 (x5 + (1 : Int32)).toNatClampNeg) then X10_dark_284 (X10_dark_204 n) x1 x2 x4 x5 x7 x6 μ else gd (inB (((1284 : Int32) + ((3 : Int32) * x7)) + (1 : Int32)) 1944) ((if x2 ≤ (μ 1 (((1284 : Int32) + ((3 : Int32) * x7)) + (1 : Int32)).toNatClampNeg) then X10_dark_284 (X10_dark_204 n) x1 x2 x4 x5 x7 x6 μ else gd (inB (((1284 : Int32) + ((3 : Int32) * x7)) + (2 : Int32)) 1944) (X10_dark_285 (X10_dark_204 n) x1 x2 x4 x5 x7 x6 (μ 1 (((1284 : Int32) + ((3 : Int32) * x7)) + (2 : Int32)).toNatClampNeg) μ)))))) else X10_dark_284 (X10_dark_204 n) x1 x2 x4 x5 x7 x6 μ)))
set_option maxRecDepth 100000 in
set_option maxHeartbeats 4000000 in
theorem w_X10_dark_204 {g : Gx} {p : Program} {l : Launch} {e : Env} {s : State} {m : MethodId} {args : Array Value} {below : List Frame} {meth : Method} {c : Code} (C0 : Cx Lm g p s m args meth c cX10_dark 9 (some .int) RX10) {r : Int32} {ν : Mem}  (n : Nat) : ∀ (x1 : Int32) (x2 : Int32) (x4 : Int32) (x5 : Int32) (x6 : Int32) (x7 : Int32) (μ : Mem) (H : Heap) (locs : List Loc) (ls : Array Slot), Px Lm g μ H → va_S (Ax Lm g) s.heap H locs → lv_has ls 9 [(0, .ref (g.2.2.1 + 0)), (1, .int x1), (2, .int x2), (4, .int x4), (5, .int x5), (6, .int x6), (7, .int x7)] → X10_dark_204  n x1 x2 x4 x5 x6 x7 μ = some (r, ν) → W p l e { frames := 2, cells := 0, slots := 0, locals := 43 } s m args below meth c H locs 0 0 (MQ below (Qx Lm g (some (.int r)) ν) args s 0 0 (Ax Lm g)) (F0 m 204 ls []) := by
  obtain ⟨hx, hb, hr, hml, hown, hts, hlocks, hK⟩ := id C0
  induction n with
  | zero =>
    intro x1 x2 x4 x5 x6 x7 μ H locs ls hP hS hl h
    have h : (none : Option (Int32 × Mem)) = some (r, ν) := h
    cases h
  | succ n ih =>
    intro x1 x2 x4 x5 x6 x7 μ H locs ls hP hS hl h
    rw [X10_dark_204.eq_2] at h
    refine lv_iload hx hb dX10_dark_204 (lv_at hl 6 rfl) ?_
    refine lv_aload_n hx hb dX10_dark_206 rfl (lv_at hl 0 rfl) ?_
    refine x_get C0 hP inu10 (k := 0) cm_0 (by decide) rfl 0 (by decide) q4_134 rfl (v := .ref (g.2.2.1 + 1)) rfl dX10_dark_207 ?_
    refine lv_iconst (v := (5 : Int32)) hx hb dX10_dark_210 rfl ?_
    refine x_iald C0 hP (k := 1) cm_1 (j := 5) (by decide) rfl dX10_dark_211 ?_
    refine lv_icmp_ge (tgt := 294) hx hb dX10_dark_212 (by decide) (fun c14 => ?_) (fun c14 => ?_)
    · rw [if_pos c14] at h
      refine lv_iload_n hx hb dX10_dark_294 rfl (lv_at hl 2 rfl) ?_
      refine lv_aload_n hx hb dX10_dark_295 rfl (lv_at hl 0 rfl) ?_
      refine x_get C0 hP inu10 (k := 0) cm_0 (by decide) rfl 0 (by decide) q4_134 rfl (v := .ref (g.2.2.1 + 1)) rfl dX10_dark_296 ?_
      refine lv_iload hx hb dX10_dark_299 (lv_at hl 4 rfl) ?_
      refine lv_iconst (v := (1 : Int32)) hx hb dX10_dark_301 rfl ?_
      refine lv_iadd hx hb dX10_dark_302 ?_
      obtain ⟨z15, h⟩ := gd_some h
      refine x_iald C0 hP (k := 1) cm_1 (j := (x5 + (1 : Int32)).toNatClampNeg) z15 rfl dX10_dark_303 ?_
      refine lv_isub hx hb dX10_dark_304 ?_
      refine lv_istore (lv' := [(7, .int (x2 - (μ 1 (x5 + (1 : Int32)).toNatClampNeg))), (0, .ref (g.2.2.1 + 0)), (1, .int x1), (2, .int x2), (4, .int x4), (5, .int x5), (6, .int x6)]) hx hb dX10_dark_305 hl (by decide) rfl (fun ls hl => ?_)
      refine lv_iload hx hb dX10_dark_307 (lv_at hl 6 rfl) ?_
      refine lv_iload hx hb dX10_dark_309 (lv_at hl 0 rfl) ?_
      refine lv_iload hx hb dX10_dark_311 (lv_at hl 4 rfl) ?_
      refine lv_sipush (v := (1000 : Int32)) hx hb dX10_dark_313 (by decide +kernel) ?_
      refine lv_idiv hx hb dX10_dark_316 (by decide) ?_
      refine lv_imul hx hb dX10_dark_317 ?_
      refine lv_isub hx hb dX10_dark_318 ?_
      refine lv_if_ge (tgt := 326) hx hb dX10_dark_319 (by decide) (fun c16 => ?_) (fun c16 => ?_)
      · rw [if_pos c16] at h
        refine lv_iload hx hb dX10_dark_326 (lv_at hl 6 rfl) ?_
        refine lv_iload hx hb dX10_dark_328 (lv_at hl 0 rfl) ?_
        refine lv_iload hx hb dX10_dark_330 (lv_at hl 4 rfl) ?_
        refine lv_sipush (v := (1000 : Int32)) hx hb dX10_dark_332 (by decide +kernel) ?_
        refine lv_irem hx hb dX10_dark_335 (by decide) ?_
        refine lv_imul hx hb dX10_dark_336 ?_
        refine lv_isub hx hb dX10_dark_337 ?_
        refine lv_if_ge (tgt := 345) hx hb dX10_dark_338 (by decide) (fun c17 => ?_) (fun c17 => ?_)
        · rw [if_pos c17] at h
          refine lv_iconst (v := (0 : Int32)) hx hb dX10_dark_345 rfl ?_
          obtain ⟨rfl, rfl⟩ := some2 h
          exact x_iret C0 hP hS dX10_dark_346
        · rw [if_neg c17] at h
          refine lv_iconst (v := (1 : Int32)) hx hb dX10_dark_341 rfl ?_
          refine lv_goto (tgt := 346) hx hb dX10_dark_342 (by decide) ?_
          obtain ⟨rfl, rfl⟩ := some2 h
          exact x_iret C0 hP hS dX10_dark_346
      · rw [if_neg c16] at h
        refine lv_iconst (v := (2 : Int32)) hx hb dX10_dark_322 rfl ?_
        refine lv_goto (tgt := 346) hx hb dX10_dark_323 (by decide) ?_
        obtain ⟨rfl, rfl⟩ := some2 h
        exact x_iret C0 hP hS dX10_dark_346
    · rw [if_neg c14] at h
      refine lv_sipush (v := (1284 : Int32)) hx hb dX10_dark_215 (by decide +kernel) ?_
      refine lv_iconst (v := (3 : Int32)) hx hb dX10_dark_218 rfl ?_
      refine lv_iload hx hb dX10_dark_219 (lv_at hl 6 rfl) ?_
      refine lv_imul hx hb dX10_dark_221 ?_
      refine lv_iadd hx hb dX10_dark_222 ?_
      refine lv_istore (lv' := [(8, .int ((1284 : Int32) + ((3 : Int32) * x7))), (0, .ref (g.2.2.1 + 0)), (1, .int x1), (2, .int x2), (4, .int x4), (5, .int x5), (6, .int x6), (7, .int x7)]) hx hb dX10_dark_223 hl (by decide) rfl (fun ls hl => ?_)
      refine lv_iload hx hb dX10_dark_225 (lv_at hl 6 rfl) ?_
      refine lv_aload_n hx hb dX10_dark_227 rfl (lv_at hl 1 rfl) ?_
      refine x_get C0 hP inu10 (k := 0) cm_0 (by decide) rfl 0 (by decide) q4_134 rfl (v := .ref (g.2.2.1 + 1)) rfl dX10_dark_228 ?_
      refine lv_iload hx hb dX10_dark_231 (lv_at hl 0 rfl) ?_
      obtain ⟨z18, h⟩ := gd_some h
      refine x_iald C0 hP (k := 1) cm_1 (j := ((1284 : Int32) + ((3 : Int32) * x7)).toNatClampNeg) z18 rfl dX10_dark_233 ?_
      refine lv_iload_n hx hb dX10_dark_234 rfl (lv_at hl 2 rfl) ?_
      refine lv_icmp_ne (tgt := 284) hx hb dX10_dark_235 (by decide) (fun c19 => ?_) (fun c19 => ?_)
      · rw [if_neg c19] at h
        exact w_X10_dark_284 C0 (X10_dark_204  n) ih x1 x2 x4 x5 x7 x6 μ _ _ _ hP hS (lv_sub hl [1, 2, 3, 4, 5, 7] rfl) h
      · rw [if_pos c19] at h
        refine lv_aload_n hx hb dX10_dark_238 rfl (lv_at hl 1 rfl) ?_
        refine x_get C0 hP inu10 (k := 0) cm_0 (by decide) rfl 0 (by decide) q4_134 rfl (v := .ref (g.2.2.1 + 1)) rfl dX10_dark_239 ?_
        refine lv_iload hx hb dX10_dark_242 (lv_at hl 0 rfl) ?_
        refine lv_iconst (v := (1 : Int32)) hx hb dX10_dark_244 rfl ?_
        refine lv_iadd hx hb dX10_dark_245 ?_
        obtain ⟨z20, h⟩ := gd_some h
        refine x_iald C0 hP (k := 1) cm_1 (j := (((1284 : Int32) + ((3 : Int32) * x7)) + (1 : Int32)).toNatClampNeg) z20 rfl dX10_dark_246 ?_
        refine lv_aload_n hx hb dX10_dark_247 rfl (lv_at hl 1 rfl) ?_
        refine x_get C0 hP inu10 (k := 0) cm_0 (by decide) rfl 0 (by decide) q4_134 rfl (v := .ref (g.2.2.1 + 1)) rfl dX10_dark_248 ?_
        refine lv_iload hx hb dX10_dark_251 (lv_at hl 5 rfl) ?_
        refine lv_iconst (v := (1 : Int32)) hx hb dX10_dark_253 rfl ?_
        refine lv_iadd hx hb dX10_dark_254 ?_
        obtain ⟨z21, h⟩ := gd_some h
        refine x_iald C0 hP (k := 1) cm_1 (j := (x5 + (1 : Int32)).toNatClampNeg) z21 rfl dX10_dark_255 ?_
        refine lv_icmp_lt (tgt := 284) hx hb dX10_dark_256 (by decide) (fun c22 => ?_) (fun c22 => ?_)
        · rw [if_pos c22] at h
          exact w_X10_dark_284 C0 (X10_dark_204  n) ih x1 x2 x4 x5 x7 x6 μ _ _ _ hP hS (lv_sub hl [1, 2, 3, 4, 5, 7] rfl) h
        · rw [if_neg c22] at h
          refine lv_aload_n hx hb dX10_dark_259 rfl (lv_at hl 1 rfl) ?_
          refine x_get C0 hP inu10 (k := 0) cm_0 (by decide) rfl 0 (by decide) q4_134 rfl (v := .ref (g.2.2.1 + 1)) rfl dX10_dark_260 ?_
          refine lv_iload hx hb dX10_dark_263 (lv_at hl 0 rfl) ?_
          refine lv_iconst (v := (1 : Int32)) hx hb dX10_dark_265 rfl ?_
          refine lv_iadd hx hb dX10_dark_266 ?_
          obtain ⟨z23, h⟩ := gd_some h
          refine x_iald C0 hP (k := 1) cm_1 (j := (((1284 : Int32) + ((3 : Int32) * x7)) + (1 : Int32)).toNatClampNeg) z23 rfl dX10_dark_267 ?_
          refine lv_iload_n hx hb dX10_dark_268 rfl (lv_at hl 3 rfl) ?_
          refine lv_icmp_ge (tgt := 284) hx hb dX10_dark_269 (by decide) (fun c24 => ?_) (fun c24 => ?_)
          · rw [if_pos c24] at h
            exact w_X10_dark_284 C0 (X10_dark_204  n) ih x1 x2 x4 x5 x7 x6 μ _ _ _ hP hS (lv_sub hl [1, 2, 3, 4, 5, 7] rfl) h
          · rw [if_neg c24] at h
            refine lv_aload_n hx hb dX10_dark_272 rfl (lv_at hl 1 rfl) ?_
            refine x_get C0 hP inu10 (k := 0) cm_0 (by decide) rfl 0 (by decide) q4_134 rfl (v := .ref (g.2.2.1 + 1)) rfl dX10_dark_273 ?_
            refine lv_iload hx hb dX10_dark_276 (lv_at hl 0 rfl) ?_
            refine lv_iconst (v := (2 : Int32)) hx hb dX10_dark_278 rfl ?_
            refine lv_iadd hx hb dX10_dark_279 ?_
            obtain ⟨z25, h⟩ := gd_some h
            refine x_iald C0 hP (k := 1) cm_1 (j := (((1284 : Int32) + ((3 : Int32) * x7)) + (2 : Int32)).toNatClampNeg) z25 rfl dX10_dark_280 ?_
            refine lv_goto (tgt := 285) hx hb dX10_dark_281 (by decide) ?_
            exact w_X10_dark_285 C0 (X10_dark_204  n) ih x1 x2 x4 x5 x7 x6 (μ 1 (((1284 : Int32) + ((3 : Int32) * x7)) + (2 : Int32)).toNatClampNeg) μ _ _ _ hP hS (lv_sub hl [1, 2, 3, 4, 5, 7] rfl) h
def X10_dark_171 (K68 : Int32 → Int32 → Int32 → Int32 → Int32 → Int32 → Mem → Option (Int32 × Mem)) (x1 : Int32) (x2 : Int32) (x3 : Int32) (x4 : Int32) (x6 : Int32) (t0 : Int32) (μ : Mem) : Option (Int32 × Mem) :=
  K68 x1 x2 x3 x4 t0 (x6 + (1 : Int32)) μ
set_option maxRecDepth 100000 in
set_option maxHeartbeats 4000000 in
theorem w_X10_dark_171 {g : Gx} {p : Program} {l : Launch} {e : Env} {s : State} {m : MethodId} {args : Array Value} {below : List Frame} {meth : Method} {c : Code} (C0 : Cx Lm g p s m args meth c cX10_dark 9 (some .int) RX10) {r : Int32} {ν : Mem} (K68 : Int32 → Int32 → Int32 → Int32 → Int32 → Int32 → Mem → Option (Int32 × Mem)) (hK68 : ∀ (x1 : Int32) (x2 : Int32) (x3 : Int32) (x4 : Int32) (x5 : Int32) (x6 : Int32) (μ : Mem) (H : Heap) (locs : List Loc) (ls : Array Slot), Px Lm g μ H → va_S (Ax Lm g) s.heap H locs → lv_has ls 9 [(0, .ref (g.2.2.1 + 0)), (1, .int x1), (2, .int x2), (3, .int x3), (4, .int x4), (5, .int x5), (6, .int x6)] → K68 x1 x2 x3 x4 x5 x6 μ = some (r, ν) → W p l e { frames := 2, cells := 0, slots := 0, locals := 43 } s m args below meth c H locs 0 0 (MQ below (Qx Lm g (some (.int r)) ν) args s 0 0 (Ax Lm g)) (F0 m 68 ls [])) (x1 : Int32) (x2 : Int32) (x3 : Int32) (x4 : Int32) (x6 : Int32) (t0 : Int32) (μ : Mem) (H : Heap) (locs : List Loc) (ls : Array Slot) (hP : Px Lm g μ H) (hS : va_S (Ax Lm g) s.heap H locs) (hl : lv_has ls 9 [(0, .ref (g.2.2.1 + 0)), (1, .int x1), (2, .int x2), (3, .int x3), (4, .int x4), (6, .int x6)]) (h : X10_dark_171 K68 x1 x2 x3 x4 x6 t0 μ = some (r, ν)) : W p l e { frames := 2, cells := 0, slots := 0, locals := 43 } s m args below meth c H locs 0 0 (MQ below (Qx Lm g (some (.int r)) ν) args s 0 0 (Ax Lm g)) (F0 m 171 ls [.int t0]) := by
  obtain ⟨hx, hb, hr, hml, hown, hts, hlocks, hK⟩ := id C0
  unfold X10_dark_171 at h
  refine lv_istore (lv' := [(5, .int t0), (0, .ref (g.2.2.1 + 0)), (1, .int x1), (2, .int x2), (3, .int x3), (4, .int x4), (6, .int x6)]) hx hb dX10_dark_171 hl (by decide) rfl (fun ls hl => ?_)
  refine lv_iinc (v := (x6 + (1 : Int32))) (lv' := [(6, .int (x6 + (1 : Int32))), (5, .int t0), (0, .ref (g.2.2.1 + 0)), (1, .int x1), (2, .int x2), (3, .int x3), (4, .int x4)]) hx hb dX10_dark_173 hl (k := 6) rfl rfl (by decide) rfl (fun ls hl => ?_)
  refine lv_goto (tgt := 68) hx hb dX10_dark_176 (by decide) ?_
  exact hK68 x1 x2 x3 x4 t0 (x6 + (1 : Int32)) μ _ _ _ hP hS (lv_sub hl [2, 3, 4, 5, 6, 1, 0] rfl) h
def X10_dark_169 (K68 : Int32 → Int32 → Int32 → Int32 → Int32 → Int32 → Mem → Option (Int32 × Mem)) (x1 : Int32) (x2 : Int32) (x3 : Int32) (x4 : Int32) (x5 : Int32) (x6 : Int32) (μ : Mem) : Option (Int32 × Mem) :=
  X10_dark_171 K68 x1 x2 x3 x4 x6 x5 μ
set_option maxRecDepth 100000 in
set_option maxHeartbeats 4000000 in
theorem w_X10_dark_169 {g : Gx} {p : Program} {l : Launch} {e : Env} {s : State} {m : MethodId} {args : Array Value} {below : List Frame} {meth : Method} {c : Code} (C0 : Cx Lm g p s m args meth c cX10_dark 9 (some .int) RX10) {r : Int32} {ν : Mem} (K68 : Int32 → Int32 → Int32 → Int32 → Int32 → Int32 → Mem → Option (Int32 × Mem)) (hK68 : ∀ (x1 : Int32) (x2 : Int32) (x3 : Int32) (x4 : Int32) (x5 : Int32) (x6 : Int32) (μ : Mem) (H : Heap) (locs : List Loc) (ls : Array Slot), Px Lm g μ H → va_S (Ax Lm g) s.heap H locs → lv_has ls 9 [(0, .ref (g.2.2.1 + 0)), (1, .int x1), (2, .int x2), (3, .int x3), (4, .int x4), (5, .int x5), (6, .int x6)] → K68 x1 x2 x3 x4 x5 x6 μ = some (r, ν) → W p l e { frames := 2, cells := 0, slots := 0, locals := 43 } s m args below meth c H locs 0 0 (MQ below (Qx Lm g (some (.int r)) ν) args s 0 0 (Ax Lm g)) (F0 m 68 ls [])) (x1 : Int32) (x2 : Int32) (x3 : Int32) (x4 : Int32) (x5 : Int32) (x6 : Int32) (μ : Mem) (H : Heap) (locs : List Loc) (ls : Array Slot) (hP : Px Lm g μ H) (hS : va_S (Ax Lm g) s.heap H locs) (hl : lv_has ls 9 [(0, .ref (g.2.2.1 + 0)), (1, .int x1), (2, .int x2), (3, .int x3), (4, .int x4), (5, .int x5), (6, .int x6)]) (h : X10_dark_169 K68 x1 x2 x3 x4 x5 x6 μ = some (r, ν)) : W p l e { frames := 2, cells := 0, slots := 0, locals := 43 } s m args below meth c H locs 0 0 (MQ below (Qx Lm g (some (.int r)) ν) args s 0 0 (Ax Lm g)) (F0 m 169 ls []) := by
  obtain ⟨hx, hb, hr, hml, hown, hts, hlocks, hK⟩ := id C0
  unfold X10_dark_169 at h
  refine lv_iload hx hb dX10_dark_169 (lv_at hl 5 rfl) ?_
  exact w_X10_dark_171 C0 K68 hK68 x1 x2 x3 x4 x6 x5 μ _ _ _ hP hS (lv_sub hl [0, 1, 2, 3, 4, 6] rfl) h
def X10_dark_164 (K68 : Int32 → Int32 → Int32 → Int32 → Int32 → Int32 → Mem → Option (Int32 × Mem)) (x1 : Int32) (x2 : Int32) (x3 : Int32) (x4 : Int32) (x6 : Int32) (x7 : Int32) (μ : Mem) : Option (Int32 × Mem) :=
  X10_dark_171 K68 x1 x2 x3 x4 x6 x7 μ
set_option maxRecDepth 100000 in
set_option maxHeartbeats 4000000 in
theorem w_X10_dark_164 {g : Gx} {p : Program} {l : Launch} {e : Env} {s : State} {m : MethodId} {args : Array Value} {below : List Frame} {meth : Method} {c : Code} (C0 : Cx Lm g p s m args meth c cX10_dark 9 (some .int) RX10) {r : Int32} {ν : Mem} (K68 : Int32 → Int32 → Int32 → Int32 → Int32 → Int32 → Mem → Option (Int32 × Mem)) (hK68 : ∀ (x1 : Int32) (x2 : Int32) (x3 : Int32) (x4 : Int32) (x5 : Int32) (x6 : Int32) (μ : Mem) (H : Heap) (locs : List Loc) (ls : Array Slot), Px Lm g μ H → va_S (Ax Lm g) s.heap H locs → lv_has ls 9 [(0, .ref (g.2.2.1 + 0)), (1, .int x1), (2, .int x2), (3, .int x3), (4, .int x4), (5, .int x5), (6, .int x6)] → K68 x1 x2 x3 x4 x5 x6 μ = some (r, ν) → W p l e { frames := 2, cells := 0, slots := 0, locals := 43 } s m args below meth c H locs 0 0 (MQ below (Qx Lm g (some (.int r)) ν) args s 0 0 (Ax Lm g)) (F0 m 68 ls [])) (x1 : Int32) (x2 : Int32) (x3 : Int32) (x4 : Int32) (x6 : Int32) (x7 : Int32) (μ : Mem) (H : Heap) (locs : List Loc) (ls : Array Slot) (hP : Px Lm g μ H) (hS : va_S (Ax Lm g) s.heap H locs) (hl : lv_has ls 9 [(0, .ref (g.2.2.1 + 0)), (1, .int x1), (2, .int x2), (3, .int x3), (4, .int x4), (6, .int x6), (7, .int x7)]) (h : X10_dark_164 K68 x1 x2 x3 x4 x6 x7 μ = some (r, ν)) : W p l e { frames := 2, cells := 0, slots := 0, locals := 43 } s m args below meth c H locs 0 0 (MQ below (Qx Lm g (some (.int r)) ν) args s 0 0 (Ax Lm g)) (F0 m 164 ls []) := by
  obtain ⟨hx, hb, hr, hml, hown, hts, hlocks, hK⟩ := id C0
  unfold X10_dark_164 at h
  refine lv_iload hx hb dX10_dark_164 (lv_at hl 6 rfl) ?_
  refine lv_goto (tgt := 171) hx hb dX10_dark_166 (by decide) ?_
  exact w_X10_dark_171 C0 K68 hK68 x1 x2 x3 x4 x6 x7 μ _ _ _ hP hS (lv_sub hl [0, 1, 2, 3, 4, 5] rfl) h
def X10_dark_131 (K68 : Int32 → Int32 → Int32 → Int32 → Int32 → Int32 → Mem → Option (Int32 × Mem)) (x1 : Int32) (x2 : Int32) (x3 : Int32) (x4 : Int32) (x5 : Int32) (x6 : Int32) (x7 : Int32) (t0 : Int32) (μ : Mem) : Option (Int32 × Mem) :=
  (if t0 = (0 : Int32) then X10_dark_169 K68 x1 x2 x3 x4 x5 x6 μ else (if x5 < (0 : Int32) then X10_dark_164 K68 x1 x2 x3 x4 x6 x7 μ else gd (inB (x7 + (1 : Int32)) 1944) (gd (inB (x5 + (1 : Int32)) 1944) ((if (μ 1 (x7 + (1 : Int32)).toNatClampNeg) < (μ 1 (x5 + (1 : Int32)).toNatClampNeg) then X10_dark_169 K68 x1 x2 x3 x4 x5 x6 μ else X10_dark_164 K68 x1 x2 x3 x4 x6 x7 μ)))))
set_option maxRecDepth 100000 in
set_option maxHeartbeats 4000000 in
theorem w_X10_dark_131 {g : Gx} {p : Program} {l : Launch} {e : Env} {s : State} {m : MethodId} {args : Array Value} {below : List Frame} {meth : Method} {c : Code} (C0 : Cx Lm g p s m args meth c cX10_dark 9 (some .int) RX10) {r : Int32} {ν : Mem} (K68 : Int32 → Int32 → Int32 → Int32 → Int32 → Int32 → Mem → Option (Int32 × Mem)) (hK68 : ∀ (x1 : Int32) (x2 : Int32) (x3 : Int32) (x4 : Int32) (x5 : Int32) (x6 : Int32) (μ : Mem) (H : Heap) (locs : List Loc) (ls : Array Slot), Px Lm g μ H → va_S (Ax Lm g) s.heap H locs → lv_has ls 9 [(0, .ref (g.2.2.1 + 0)), (1, .int x1), (2, .int x2), (3, .int x3), (4, .int x4), (5, .int x5), (6, .int x6)] → K68 x1 x2 x3 x4 x5 x6 μ = some (r, ν) → W p l e { frames := 2, cells := 0, slots := 0, locals := 43 } s m args below meth c H locs 0 0 (MQ below (Qx Lm g (some (.int r)) ν) args s 0 0 (Ax Lm g)) (F0 m 68 ls [])) (x1 : Int32) (x2 : Int32) (x3 : Int32) (x4 : Int32) (x5 : Int32) (x6 : Int32) (x7 : Int32) (t0 : Int32) (μ : Mem) (H : Heap) (locs : List Loc) (ls : Array Slot) (hP : Px Lm g μ H) (hS : va_S (Ax Lm g) s.heap H locs) (hl : lv_has ls 9 [(0, .ref (g.2.2.1 + 0)), (1, .int x1), (2, .int x2), (3, .int x3), (4, .int x4), (5, .int x5), (6, .int x6), (7, .int x7)]) (h : X10_dark_131 K68 x1 x2 x3 x4 x5 x6 x7 t0 μ = some (r, ν)) : W p l e { frames := 2, cells := 0, slots := 0, locals := 43 } s m args below meth c H locs 0 0 (MQ below (Qx Lm g (some (.int r)) ν) args s 0 0 (Ax Lm g)) (F0 m 131 ls [.int t0]) := by
  obtain ⟨hx, hb, hr, hml, hown, hts, hlocks, hK⟩ := id C0
  unfold X10_dark_131 at h
  refine lv_istore (lv' := [(8, .int t0), (0, .ref (g.2.2.1 + 0)), (1, .int x1), (2, .int x2), (3, .int x3), (4, .int x4), (5, .int x5), (6, .int x6), (7, .int x7)]) hx hb dX10_dark_131 hl (by decide) rfl (fun ls hl => ?_)
  refine lv_iload hx hb dX10_dark_133 (lv_at hl 0 rfl) ?_
  refine lv_if_eq (tgt := 169) hx hb dX10_dark_135 (by decide) (fun c29 => ?_) (fun c29 => ?_)
  · rw [if_pos c29] at h
    exact w_X10_dark_169 C0 K68 hK68 x1 x2 x3 x4 x5 x6 μ _ _ _ hP hS (lv_sub hl [1, 2, 3, 4, 5, 6, 7] rfl) h
  · rw [if_neg c29] at h
    refine lv_iload hx hb dX10_dark_138 (lv_at hl 6 rfl) ?_
    refine lv_if_lt (tgt := 164) hx hb dX10_dark_140 (by decide) (fun c30 => ?_) (fun c30 => ?_)
    · rw [if_pos c30] at h
      exact w_X10_dark_164 C0 K68 hK68 x1 x2 x3 x4 x6 x7 μ _ _ _ hP hS (lv_sub hl [1, 2, 3, 4, 5, 7, 8] rfl) h
    · rw [if_neg c30] at h
      refine lv_aload_n hx hb dX10_dark_143 rfl (lv_at hl 1 rfl) ?_
      refine x_get C0 hP inu10 (k := 0) cm_0 (by decide) rfl 0 (by decide) q4_134 rfl (v := .ref (g.2.2.1 + 1)) rfl dX10_dark_144 ?_
      refine lv_iload hx hb dX10_dark_147 (lv_at hl 8 rfl) ?_
      refine lv_iconst (v := (1 : Int32)) hx hb dX10_dark_149 rfl ?_
      refine lv_iadd hx hb dX10_dark_150 ?_
      obtain ⟨z31, h⟩ := gd_some h
      refine x_iald C0 hP (k := 1) cm_1 (j := (x7 + (1 : Int32)).toNatClampNeg) z31 rfl dX10_dark_151 ?_
      refine lv_aload_n hx hb dX10_dark_152 rfl (lv_at hl 1 rfl) ?_
      refine x_get C0 hP inu10 (k := 0) cm_0 (by decide) rfl 0 (by decide) q4_134 rfl (v := .ref (g.2.2.1 + 1)) rfl dX10_dark_153 ?_
      refine lv_iload hx hb dX10_dark_156 (lv_at hl 6 rfl) ?_
      refine lv_iconst (v := (1 : Int32)) hx hb dX10_dark_158 rfl ?_
      refine lv_iadd hx hb dX10_dark_159 ?_
      obtain ⟨z32, h⟩ := gd_some h
      refine x_iald C0 hP (k := 1) cm_1 (j := (x5 + (1 : Int32)).toNatClampNeg) z32 rfl dX10_dark_160 ?_
      refine lv_icmp_lt (tgt := 169) hx hb dX10_dark_161 (by decide) (fun c33 => ?_) (fun c33 => ?_)
      · rw [if_pos c33] at h
        exact w_X10_dark_169 C0 K68 hK68 x1 x2 x3 x4 x5 x6 μ _ _ _ hP hS (lv_sub hl [1, 2, 3, 4, 5, 6, 7] rfl) h
      · rw [if_neg c33] at h
        exact w_X10_dark_164 C0 K68 hK68 x1 x2 x3 x4 x6 x7 μ _ _ _ hP hS (lv_sub hl [1, 2, 3, 4, 5, 7, 8] rfl) h
def X10_dark_130 (K68 : Int32 → Int32 → Int32 → Int32 → Int32 → Int32 → Mem → Option (Int32 × Mem)) (x1 : Int32) (x2 : Int32) (x3 : Int32) (x4 : Int32) (x5 : Int32) (x6 : Int32) (x7 : Int32) (μ : Mem) : Option (Int32 × Mem) :=
  X10_dark_131 K68 x1 x2 x3 x4 x5 x6 x7 (0 : Int32) μ
set_option maxRecDepth 100000 in
set_option maxHeartbeats 4000000 in
theorem w_X10_dark_130 {g : Gx} {p : Program} {l : Launch} {e : Env} {s : State} {m : MethodId} {args : Array Value} {below : List Frame} {meth : Method} {c : Code} (C0 : Cx Lm g p s m args meth c cX10_dark 9 (some .int) RX10) {r : Int32} {ν : Mem} (K68 : Int32 → Int32 → Int32 → Int32 → Int32 → Int32 → Mem → Option (Int32 × Mem)) (hK68 : ∀ (x1 : Int32) (x2 : Int32) (x3 : Int32) (x4 : Int32) (x5 : Int32) (x6 : Int32) (μ : Mem) (H : Heap) (locs : List Loc) (ls : Array Slot), Px Lm g μ H → va_S (Ax Lm g) s.heap H locs → lv_has ls 9 [(0, .ref (g.2.2.1 + 0)), (1, .int x1), (2, .int x2), (3, .int x3), (4, .int x4), (5, .int x5), (6, .int x6)] → K68 x1 x2 x3 x4 x5 x6 μ = some (r, ν) → W p l e { frames := 2, cells := 0, slots := 0, locals := 43 } s m args below meth c H locs 0 0 (MQ below (Qx Lm g (some (.int r)) ν) args s 0 0 (Ax Lm g)) (F0 m 68 ls [])) (x1 : Int32) (x2 : Int32) (x3 : Int32) (x4 : Int32) (x5 : Int32) (x6 : Int32) (x7 : Int32) (μ : Mem) (H : Heap) (locs : List Loc) (ls : Array Slot) (hP : Px Lm g μ H) (hS : va_S (Ax Lm g) s.heap H locs) (hl : lv_has ls 9 [(0, .ref (g.2.2.1 + 0)), (1, .int x1), (2, .int x2), (3, .int x3), (4, .int x4), (5, .int x5), (6, .int x6), (7, .int x7)]) (h : X10_dark_130 K68 x1 x2 x3 x4 x5 x6 x7 μ = some (r, ν)) : W p l e { frames := 2, cells := 0, slots := 0, locals := 43 } s m args below meth c H locs 0 0 (MQ below (Qx Lm g (some (.int r)) ν) args s 0 0 (Ax Lm g)) (F0 m 130 ls []) := by
  obtain ⟨hx, hb, hr, hml, hown, hts, hlocks, hK⟩ := id C0
  unfold X10_dark_130 at h
  refine lv_iconst (v := (0 : Int32)) hx hb dX10_dark_130 rfl ?_
  exact w_X10_dark_131 C0 K68 hK68 x1 x2 x3 x4 x5 x6 x7 (0 : Int32) μ _ _ _ hP hS (lv_sub hl [0, 1, 2, 3, 4, 5, 6, 7] rfl) h
def X10_dark_68  : Nat → Int32 → Int32 → Int32 → Int32 → Int32 → Int32 → Mem → Option (Int32 × Mem)
  | 0, _, _, _, _, _, _, _ => none
  | n + 1, x1, x2, x3, x4, x5, x6, μ => (if (μ 1 4) ≤ x6 then (if (0 : Int32) ≤ x5 then gd (inB (x5 + (2 : Int32)) 1944) (X10_dark_204 FU x1 x2 x4 x5 (μ 1 (x5 + (2 : Int32)).toNatClampNeg) (0 : Int32) μ) else ob2 (X10_finding (2 : Int32) μ) fun r26 μ26 => some (r26, μ26)) else gd (inB ((1124 : Int32) + ((4 : Int32) * x6)) 1944) ((if (μ 1 ((1124 : Int32) + ((4 : Int32) * x6)).toNatClampNeg) = x1 then gd (inB (((1124 : Int32) + ((4 : Int32) * x6)) + (1 : Int32)) 1944) ((if x2 < (μ 1 (((1124 : Int32) + ((4 : Int32) * x6)) + (1 : Int32)).toNatClampNeg) then X10_dark_130 (X10_dark_68 n) x1 x2 x3 x4 x5 x6 ((1124 : Int32) + ((4 : Int32) * x6)) μ else gd (inB (((1124 : Int32) + ((4 : Int32) * x6)) + (3 : Int32)) 1944) ((if x3 < (μ 1 (((1124 : Int32) + ((4 : Int32) * x6)) + (3 : Int32)).toNatClampNeg) then X10_dark_130 (X10_dark_68 n) x1 x2 x3 x4 x5 x6 ((1124 : Int32) + ((4 : Int32) * x6)) μ else X10_dark_131 (X10_dark_68 n) x1 x2 x3 x4 x5 x6 ((1124 : Int32) + ((4 : Int32) * x6)) (1 : Int32) μ)))) else X10_dark_130 (X10_dark_68 n) x1 x2 x3 x4 x5 x6 ((1124 : Int32) + ((4 : Int32) * x6)) μ)))
set_option maxRecDepth 100000 in
set_option maxHeartbeats 4000000 in
theorem w_X10_dark_68 {g : Gx} {p : Program} {l : Launch} {e : Env} {s : State} {m : MethodId} {args : Array Value} {below : List Frame} {meth : Method} {c : Code} (C0 : Cx Lm g p s m args meth c cX10_dark 9 (some .int) RX10) {r : Int32} {ν : Mem}  (n : Nat) : ∀ (x1 : Int32) (x2 : Int32) (x3 : Int32) (x4 : Int32) (x5 : Int32) (x6 : Int32) (μ : Mem) (H : Heap) (locs : List Loc) (ls : Array Slot), Px Lm g μ H → va_S (Ax Lm g) s.heap H locs → lv_has ls 9 [(0, .ref (g.2.2.1 + 0)), (1, .int x1), (2, .int x2), (3, .int x3), (4, .int x4), (5, .int x5), (6, .int x6)] → X10_dark_68  n x1 x2 x3 x4 x5 x6 μ = some (r, ν) → W p l e { frames := 2, cells := 0, slots := 0, locals := 43 } s m args below meth c H locs 0 0 (MQ below (Qx Lm g (some (.int r)) ν) args s 0 0 (Ax Lm g)) (F0 m 68 ls []) := by
  obtain ⟨hx, hb, hr, hml, hown, hts, hlocks, hK⟩ := id C0
  induction n with
  | zero =>
    intro x1 x2 x3 x4 x5 x6 μ H locs ls hP hS hl h
    have h : (none : Option (Int32 × Mem)) = some (r, ν) := h
    cases h
  | succ n ih =>
    intro x1 x2 x3 x4 x5 x6 μ H locs ls hP hS hl h
    rw [X10_dark_68.eq_2] at h
    refine lv_iload hx hb dX10_dark_68 (lv_at hl 6 rfl) ?_
    refine lv_aload_n hx hb dX10_dark_70 rfl (lv_at hl 0 rfl) ?_
    refine x_get C0 hP inu10 (k := 0) cm_0 (by decide) rfl 0 (by decide) q4_134 rfl (v := .ref (g.2.2.1 + 1)) rfl dX10_dark_71 ?_
    refine lv_iconst (v := (4 : Int32)) hx hb dX10_dark_74 rfl ?_
    refine x_iald C0 hP (k := 1) cm_1 (j := 4) (by decide) rfl dX10_dark_75 ?_
    refine lv_icmp_ge (tgt := 179) hx hb dX10_dark_76 (by decide) (fun c11 => ?_) (fun c11 => ?_)
    · rw [if_pos c11] at h
      refine lv_iload hx hb dX10_dark_179 (lv_at hl 5 rfl) ?_
      refine lv_if_ge (tgt := 190) hx hb dX10_dark_181 (by decide) (fun c12 => ?_) (fun c12 => ?_)
      · rw [if_pos c12] at h
        refine lv_aload_n hx hb dX10_dark_190 rfl (lv_at hl 0 rfl) ?_
        refine x_get C0 hP inu10 (k := 0) cm_0 (by decide) rfl 0 (by decide) q4_134 rfl (v := .ref (g.2.2.1 + 1)) rfl dX10_dark_191 ?_
        refine lv_iload hx hb dX10_dark_194 (lv_at hl 5 rfl) ?_
        refine lv_iconst (v := (2 : Int32)) hx hb dX10_dark_196 rfl ?_
        refine lv_iadd hx hb dX10_dark_197 ?_
        obtain ⟨z13, h⟩ := gd_some h
        refine x_iald C0 hP (k := 1) cm_1 (j := (x5 + (2 : Int32)).toNatClampNeg) z13 rfl dX10_dark_198 ?_
        refine lv_istore (lv' := [(6, .int (μ 1 (x5 + (2 : Int32)).toNatClampNeg)), (0, .ref (g.2.2.1 + 0)), (1, .int x1), (2, .int x2), (3, .int x3), (4, .int x4), (5, .int x5)]) hx hb dX10_dark_199 hl (by decide) rfl (fun ls hl => ?_)
        refine lv_iconst (v := (0 : Int32)) hx hb dX10_dark_201 rfl ?_
        refine lv_istore (lv' := [(7, .int (0 : Int32)), (6, .int (μ 1 (x5 + (2 : Int32)).toNatClampNeg)), (0, .ref (g.2.2.1 + 0)), (1, .int x1), (2, .int x2), (3, .int x3), (4, .int x4), (5, .int x5)]) hx hb dX10_dark_202 hl (by decide) rfl (fun ls hl => ?_)
        exact w_X10_dark_204 C0  FU x1 x2 x4 x5 (μ 1 (x5 + (2 : Int32)).toNatClampNeg) (0 : Int32) μ _ _ _ hP hS (lv_sub hl [2, 3, 4, 6, 7, 1, 0] rfl) h
      · rw [if_neg c12] at h
        refine lv_aload_n hx hb dX10_dark_184 rfl (lv_at hl 0 rfl) ?_
        refine lv_iconst (v := (2 : Int32)) hx hb dX10_dark_185 rfl ?_
        obtain ⟨r26, μ26, h1, h⟩ := ob2_some h
        refine x_callV C0 (rest := []) (q := (RX10, TX10, 22)) (c_X10_finding l g (2 : Int32) μ h1) q4_214 q4_211 q4_213 r2_5 q1_11 hd_X10_finding ⟨rfl, rfl⟩ ⟨Nat.le_of_ble_eq_true rfl, Nat.le_of_ble_eq_true rfl⟩ cm_0 (by decide) rfl hP hS hl.1 rfl rfl (Nat.le_of_ble_eq_true rfl) dX10_dark_186 (fun H locs hP hS => ?_)
        refine W.eq (g2 := F0 m 189 ls [.int r26]) rfl ?_
        obtain ⟨rfl, rfl⟩ := some2 h
        exact x_iret C0 hP hS dX10_dark_189
    · rw [if_neg c11] at h
      refine lv_sipush (v := (1124 : Int32)) hx hb dX10_dark_79 (by decide +kernel) ?_
      refine lv_iconst (v := (4 : Int32)) hx hb dX10_dark_82 rfl ?_
      refine lv_iload hx hb dX10_dark_83 (lv_at hl 6 rfl) ?_
      refine lv_imul hx hb dX10_dark_85 ?_
      refine lv_iadd hx hb dX10_dark_86 ?_
      refine lv_istore (lv' := [(7, .int ((1124 : Int32) + ((4 : Int32) * x6))), (0, .ref (g.2.2.1 + 0)), (1, .int x1), (2, .int x2), (3, .int x3), (4, .int x4), (5, .int x5), (6, .int x6)]) hx hb dX10_dark_87 hl (by decide) rfl (fun ls hl => ?_)
      refine lv_aload_n hx hb dX10_dark_89 rfl (lv_at hl 1 rfl) ?_
      refine x_get C0 hP inu10 (k := 0) cm_0 (by decide) rfl 0 (by decide) q4_134 rfl (v := .ref (g.2.2.1 + 1)) rfl dX10_dark_90 ?_
      refine lv_iload hx hb dX10_dark_93 (lv_at hl 0 rfl) ?_
      obtain ⟨z27, h⟩ := gd_some h
      refine x_iald C0 hP (k := 1) cm_1 (j := ((1124 : Int32) + ((4 : Int32) * x6)).toNatClampNeg) z27 rfl dX10_dark_95 ?_
      refine lv_iload_n hx hb dX10_dark_96 rfl (lv_at hl 2 rfl) ?_
      refine lv_icmp_ne (tgt := 130) hx hb dX10_dark_97 (by decide) (fun c28 => ?_) (fun c28 => ?_)
      · rw [if_neg c28] at h
        exact w_X10_dark_130 C0 (X10_dark_68  n) ih x1 x2 x3 x4 x5 x6 ((1124 : Int32) + ((4 : Int32) * x6)) μ _ _ _ hP hS (lv_sub hl [1, 2, 3, 4, 5, 6, 7, 0] rfl) h
      · rw [if_pos c28] at h
        refine lv_aload_n hx hb dX10_dark_100 rfl (lv_at hl 1 rfl) ?_
        refine x_get C0 hP inu10 (k := 0) cm_0 (by decide) rfl 0 (by decide) q4_134 rfl (v := .ref (g.2.2.1 + 1)) rfl dX10_dark_101 ?_
        refine lv_iload hx hb dX10_dark_104 (lv_at hl 0 rfl) ?_
        refine lv_iconst (v := (1 : Int32)) hx hb dX10_dark_106 rfl ?_
        refine lv_iadd hx hb dX10_dark_107 ?_
        obtain ⟨z34, h⟩ := gd_some h
        refine x_iald C0 hP (k := 1) cm_1 (j := (((1124 : Int32) + ((4 : Int32) * x6)) + (1 : Int32)).toNatClampNeg) z34 rfl dX10_dark_108 ?_
        refine lv_iload_n hx hb dX10_dark_109 rfl (lv_at hl 3 rfl) ?_
        refine lv_icmp_gt (tgt := 130) hx hb dX10_dark_110 (by decide) (fun c35 => ?_) (fun c35 => ?_)
        · rw [if_pos c35] at h
          exact w_X10_dark_130 C0 (X10_dark_68  n) ih x1 x2 x3 x4 x5 x6 ((1124 : Int32) + ((4 : Int32) * x6)) μ _ _ _ hP hS (lv_sub hl [1, 2, 3, 4, 5, 6, 7, 0] rfl) h
        · rw [if_neg c35] at h
          refine lv_aload_n hx hb dX10_dark_113 rfl (lv_at hl 1 rfl) ?_
          refine x_get C0 hP inu10 (k := 0) cm_0 (by decide) rfl 0 (by decide) q4_134 rfl (v := .ref (g.2.2.1 + 1)) rfl dX10_dark_114 ?_
          refine lv_iload hx hb dX10_dark_117 (lv_at hl 0 rfl) ?_
          refine lv_iconst (v := (3 : Int32)) hx hb dX10_dark_119 rfl ?_
          refine lv_iadd hx hb dX10_dark_120 ?_
          obtain ⟨z36, h⟩ := gd_some h
          refine x_iald C0 hP (k := 1) cm_1 (j := (((1124 : Int32) + ((4 : Int32) * x6)) + (3 : Int32)).toNatClampNeg) z36 rfl dX10_dark_121 ?_
          refine lv_iload_n hx hb dX10_dark_122 rfl (lv_at hl 4 rfl) ?_
          refine lv_icmp_gt (tgt := 130) hx hb dX10_dark_123 (by decide) (fun c37 => ?_) (fun c37 => ?_)
          · rw [if_pos c37] at h
            exact w_X10_dark_130 C0 (X10_dark_68  n) ih x1 x2 x3 x4 x5 x6 ((1124 : Int32) + ((4 : Int32) * x6)) μ _ _ _ hP hS (lv_sub hl [1, 2, 3, 4, 5, 6, 7, 0] rfl) h
          · rw [if_neg c37] at h
            refine lv_iconst (v := (1 : Int32)) hx hb dX10_dark_126 rfl ?_
            refine lv_goto (tgt := 131) hx hb dX10_dark_127 (by decide) ?_
            exact w_X10_dark_131 C0 (X10_dark_68  n) ih x1 x2 x3 x4 x5 x6 ((1124 : Int32) + ((4 : Int32) * x6)) (1 : Int32) μ _ _ _ hP hS (lv_sub hl [1, 2, 3, 4, 5, 6, 7, 0] rfl) h
def X10_dark (x1 : Int32) (x2 : Int32) (x3 : Int32) (x4 : Int32) (μ : Mem) : Option (Int32 × Mem) :=
  ob2 (X10_isMeter x1 μ) fun r1 μ1 => (if r1 = (0 : Int32) then X10_dark_56 μ1 else ob2 (X10_in x2 (0 : Int32) (9000 : Int32) μ1) fun r4 μ4 => (if r4 = (0 : Int32) then X10_dark_56 μ4 else ob2 (X10_in x3 (0 : Int32) (9000 : Int32) μ4) fun r6 μ6 => (if r6 = (0 : Int32) then X10_dark_56 μ6 else ob2 (X10_in x4 (0 : Int32) (999999 : Int32) μ6) fun r8 μ8 => (if r8 = (0 : Int32) then X10_dark_56 μ8 else (if (x4 / (1000 : Int32)) ≤ (x4 - x4 / (1000 : Int32) * (1000 : Int32)) then X10_dark_68 FU x1 x2 x3 x4 (-1 : Int32) (0 : Int32) μ8 else X10_dark_56 μ8)))))
set_option maxRecDepth 100000 in
set_option maxHeartbeats 4000000 in
theorem c_X10_dark (l : Launch) (g : Gx) (x1 : Int32) (x2 : Int32) (x3 : Int32) (x4 : Int32) (μ : Mem) {r : Int32} {ν : Mem} (h : X10_dark x1 x2 x3 x4 μ = some (r, ν)) : Ct Lm g l yX10_dark cX10_dark 9 (some .int) { frames := 2, cells := 0, slots := 0, locals := 43 } [.ref (g.2.2.1 + 0), .int x1, .int x2, .int x3, .int x4] μ (some (.int r)) ν := by
  refine x_met (lv := [(0, .ref (g.2.2.1 + 0)), (1, .int x1), (2, .int x2), (3, .int x3), (4, .int x4)]) rfl (Nat.le_of_ble_eq_true rfl) rfl ?_
  intro p e s m below meth c C0 hP ls hl
  generalize ([.ref (g.2.2.1 + 0), .int x1, .int x2, .int x3, .int x4] : List Value).toArray = args at C0 ⊢
  have C0 : Cx Lm g p s m args meth c cX10_dark 9 (some .int) RX10 := C0
  have hS : va_S (Ax Lm g) s.heap s.heap [] := va_S.rf
  obtain ⟨hx, hb, hr, hml, hown, hts, hlocks, hK⟩ := id C0
  unfold X10_dark at h
  skip
  refine lv_aload_n hx hb dX10_dark_0 rfl (lv_at hl 0 rfl) ?_
  refine lv_iload_n hx hb dX10_dark_1 rfl (lv_at hl 1 rfl) ?_
  obtain ⟨r1, μ1, h1, h⟩ := ob2_some h
  refine x_callV C0 (rest := []) (q := (RX10, TX10, 22)) (c_X10_isMeter l g x1 μ h1) q4_231 q4_228 q4_230 r2_8 q1_11 hd_X10_isMeter ⟨rfl, rfl⟩ ⟨Nat.le_of_ble_eq_true rfl, Nat.le_of_ble_eq_true rfl⟩ cm_0 (by decide) rfl hP hS hl.1 rfl rfl (Nat.le_of_ble_eq_true rfl) dX10_dark_2 (fun H locs hP hS => ?_)
  refine W.eq (g2 := F0 m 5 ls [.int r1]) rfl ?_
  refine lv_if_eq (tgt := 56) hx hb dX10_dark_5 (by decide) (fun c2 => ?_) (fun c2 => ?_)
  · rw [if_pos c2] at h
    exact w_X10_dark_56 C0   μ1 _ _ _ hP hS (lv_sub hl [0] rfl) h
  · rw [if_neg c2] at h
    refine lv_iload_n hx hb dX10_dark_8 rfl (lv_at hl 2 rfl) ?_
    refine lv_iconst (v := (0 : Int32)) hx hb dX10_dark_9 rfl ?_
    refine lv_sipush (v := (9000 : Int32)) hx hb dX10_dark_10 (by decide +kernel) ?_
    obtain ⟨r4, μ4, h1, h⟩ := ob2_some h
    refine x_callS C0 (rest := []) (c_X10_in l g x2 (0 : Int32) (9000 : Int32) μ1 h1) q4_207 q4_205 q4_206 q1_11 hd_X10_in ⟨rfl, rfl⟩ ⟨Nat.le_of_ble_eq_true rfl, Nat.le_of_ble_eq_true rfl⟩ hP hS hl.1 rfl rfl (Nat.le_of_ble_eq_true rfl) dX10_dark_13 (fun H locs hP hS => ?_)
    refine W.eq (g2 := F0 m 16 ls [.int r4]) rfl ?_
    refine lv_if_eq (tgt := 56) hx hb dX10_dark_16 (by decide) (fun c5 => ?_) (fun c5 => ?_)
    · rw [if_pos c5] at h
      exact w_X10_dark_56 C0   μ4 _ _ _ hP hS (lv_sub hl [0] rfl) h
    · rw [if_neg c5] at h
      refine lv_iload_n hx hb dX10_dark_19 rfl (lv_at hl 3 rfl) ?_
      refine lv_iconst (v := (0 : Int32)) hx hb dX10_dark_20 rfl ?_
      refine lv_sipush (v := (9000 : Int32)) hx hb dX10_dark_21 (by decide +kernel) ?_
      obtain ⟨r6, μ6, h1, h⟩ := ob2_some h
      refine x_callS C0 (rest := []) (c_X10_in l g x3 (0 : Int32) (9000 : Int32) μ4 h1) q4_207 q4_205 q4_206 q1_11 hd_X10_in ⟨rfl, rfl⟩ ⟨Nat.le_of_ble_eq_true rfl, Nat.le_of_ble_eq_true rfl⟩ hP hS hl.1 rfl rfl (Nat.le_of_ble_eq_true rfl) dX10_dark_24 (fun H locs hP hS => ?_)
      refine W.eq (g2 := F0 m 27 ls [.int r6]) rfl ?_
      refine lv_if_eq (tgt := 56) hx hb dX10_dark_27 (by decide) (fun c7 => ?_) (fun c7 => ?_)
      · rw [if_pos c7] at h
        exact w_X10_dark_56 C0   μ6 _ _ _ hP hS (lv_sub hl [0] rfl) h
      · rw [if_neg c7] at h
        refine lv_iload hx hb dX10_dark_30 (lv_at hl 4 rfl) ?_
        refine lv_iconst (v := (0 : Int32)) hx hb dX10_dark_32 rfl ?_
        refine lv_ldc (v := (999999 : Int32)) hx hb hown (hts _ q5_163) dX10_dark_33 ?_
        obtain ⟨r8, μ8, h1, h⟩ := ob2_some h
        refine x_callS C0 (rest := []) (c_X10_in l g x4 (0 : Int32) (999999 : Int32) μ6 h1) q4_207 q4_205 q4_206 q1_11 hd_X10_in ⟨rfl, rfl⟩ ⟨Nat.le_of_ble_eq_true rfl, Nat.le_of_ble_eq_true rfl⟩ hP hS hl.1 rfl rfl (Nat.le_of_ble_eq_true rfl) dX10_dark_35 (fun H locs hP hS => ?_)
        refine W.eq (g2 := F0 m 38 ls [.int r8]) rfl ?_
        refine lv_if_eq (tgt := 56) hx hb dX10_dark_38 (by decide) (fun c9 => ?_) (fun c9 => ?_)
        · rw [if_pos c9] at h
          exact w_X10_dark_56 C0   μ8 _ _ _ hP hS (lv_sub hl [0] rfl) h
        · rw [if_neg c9] at h
          refine lv_iload hx hb dX10_dark_41 (lv_at hl 4 rfl) ?_
          refine lv_sipush (v := (1000 : Int32)) hx hb dX10_dark_43 (by decide +kernel) ?_
          refine lv_idiv hx hb dX10_dark_46 (by decide) ?_
          refine lv_iload hx hb dX10_dark_47 (lv_at hl 4 rfl) ?_
          refine lv_sipush (v := (1000 : Int32)) hx hb dX10_dark_49 (by decide +kernel) ?_
          refine lv_irem hx hb dX10_dark_52 (by decide) ?_
          refine lv_icmp_le (tgt := 62) hx hb dX10_dark_53 (by decide) (fun c10 => ?_) (fun c10 => ?_)
          · rw [if_pos c10] at h
            refine lv_iconst (v := (-1 : Int32)) hx hb dX10_dark_62 rfl ?_
            refine lv_istore (lv' := [(5, .int (-1 : Int32)), (0, .ref (g.2.2.1 + 0)), (1, .int x1), (2, .int x2), (3, .int x3), (4, .int x4)]) hx hb dX10_dark_63 hl (by decide) rfl (fun ls hl => ?_)
            refine lv_iconst (v := (0 : Int32)) hx hb dX10_dark_65 rfl ?_
            refine lv_istore (lv' := [(6, .int (0 : Int32)), (5, .int (-1 : Int32)), (0, .ref (g.2.2.1 + 0)), (1, .int x1), (2, .int x2), (3, .int x3), (4, .int x4)]) hx hb dX10_dark_66 hl (by decide) rfl (fun ls hl => ?_)
            exact w_X10_dark_68 C0  FU x1 x2 x3 x4 (-1 : Int32) (0 : Int32) μ8 _ _ _ hP hS (lv_sub hl [2, 3, 4, 5, 6, 1, 0] rfl) h
          · rw [if_neg c10] at h
            exact w_X10_dark_56 C0   μ8 _ _ _ hP hS (lv_sub hl [0] rfl) h
def X10_keeps_2  : Nat → Nat → Int32 → Mem → Option Mem
  | 0, _, _, _ => none
  | n + 1, a1, x2, μ => (if (1944 : Int32) ≤ x2 then some μ else gd (inB x2 1944) (gd (inB x2 1944) (lt (st μ a1 x2.toNatClampNeg (μ 1 x2.toNatClampNeg)) fun μ4 => (X10_keeps_2 n) a1 (x2 + (1 : Int32)) μ4)))
set_option maxRecDepth 100000 in
set_option maxHeartbeats 4000000 in
theorem w_X10_keeps_2 {g : Gx} {p : Program} {l : Launch} {e : Env} {s : State} {m : MethodId} {args : Array Value} {below : List Frame} {meth : Method} {c : Code} (C0 : Cx Lm g p s m args meth c cX10_keeps 3 none RX10) {ν : Mem}  (n : Nat) : ∀ (a1 : Nat) (ha1 : Cel Lm a1 12 1944) (x2 : Int32) (μ : Mem) (H : Heap) (locs : List Loc) (ls : Array Slot), Px Lm g μ H → va_S (Ax Lm g) s.heap H locs → lv_has ls 3 [(0, .ref (g.2.2.1 + 0)), (1, .ref (g.2.2.1 + a1)), (2, .int x2)] → X10_keeps_2  n a1 x2 μ = some ν → W p l e { frames := 0, cells := 0, slots := 0, locals := 0 } s m args below meth c H locs 0 0 (MQ below (Qx Lm g none ν) args s 0 0 (Ax Lm g)) (F0 m 2 ls []) := by
  obtain ⟨hx, hb, hr, hml, hown, hts, hlocks, hK⟩ := id C0
  induction n with
  | zero =>
    intro a1 ha1 x2 μ H locs ls hP hS hl h
    have h : (none : Option Mem) = some ν := h
    cases h
  | succ n ih =>
    intro a1 ha1 x2 μ H locs ls hP hS hl h
    rw [X10_keeps_2.eq_2] at h
    refine lv_iload_n hx hb dX10_keeps_2 rfl (lv_at hl 2 rfl) ?_
    refine lv_sipush (v := (1944 : Int32)) hx hb dX10_keeps_3 (by decide +kernel) ?_
    refine lv_icmp_ge (tgt := 24) hx hb dX10_keeps_6 (by decide) (fun c1 => ?_) (fun c1 => ?_)
    · rw [if_pos c1] at h
      obtain rfl := some1 h
      exact x_vret C0 hP hS dX10_keeps_24
    · rw [if_neg c1] at h
      refine lv_aload_n hx hb dX10_keeps_9 rfl (lv_at hl 1 rfl) ?_
      refine lv_iload_n hx hb dX10_keeps_10 rfl (lv_at hl 2 rfl) ?_
      refine lv_aload_n hx hb dX10_keeps_11 rfl (lv_at hl 0 rfl) ?_
      refine x_get C0 hP inu10 (k := 0) cm_0 (by decide) rfl 0 (by decide) q4_134 rfl (v := .ref (g.2.2.1 + 1)) rfl dX10_keeps_12 ?_
      refine lv_iload_n hx hb dX10_keeps_15 rfl (lv_at hl 2 rfl) ?_
      obtain ⟨z2, h⟩ := gd_some h
      refine x_iald C0 hP (k := 1) cm_1 (j := x2.toNatClampNeg) z2 rfl dX10_keeps_16 ?_
      obtain ⟨z3, h⟩ := gd_some h
      obtain ⟨μ4, e4, h⟩ := lt_some h
      refine x_iast C0 hP hS (k := a1) ha1 (j := x2.toNatClampNeg) z3 rfl dX10_keeps_17 (fun H locs hP hS => ?_)
      rw [← e4] at hP
      refine lv_iinc (v := (x2 + (1 : Int32))) (lv' := [(2, .int (x2 + (1 : Int32))), (0, .ref (g.2.2.1 + 0)), (1, .ref (g.2.2.1 + a1))]) hx hb dX10_keeps_18 hl (k := 2) rfl rfl (by decide) rfl (fun ls hl => ?_)
      refine lv_goto (tgt := 2) hx hb dX10_keeps_21 (by decide) ?_
      exact ih a1 ha1 (x2 + (1 : Int32)) μ4 _ _ _ hP hS (lv_sub hl [1, 2, 0] rfl) h
def X10_keeps (a1 : Nat) (μ : Mem) : Option Mem :=
  X10_keeps_2 FU a1 (0 : Int32) μ
set_option maxRecDepth 100000 in
set_option maxHeartbeats 4000000 in
theorem c_X10_keeps (l : Launch) (g : Gx) (a1 : Nat) (hi1 : Cel Lm a1 12 1944) (μ : Mem) {ν : Mem} (h : X10_keeps a1 μ = some ν) : Ct Lm g l yX10_keeps cX10_keeps 3 none { frames := 0, cells := 0, slots := 0, locals := 0 } [.ref (g.2.2.1 + 0), .ref (g.2.2.1 + a1)] μ none ν := by
  refine x_met (lv := [(0, .ref (g.2.2.1 + 0)), (1, .ref (g.2.2.1 + a1))]) rfl (Nat.le_of_ble_eq_true rfl) rfl ?_
  intro p e s m below meth c C0 hP ls hl
  generalize ([.ref (g.2.2.1 + 0), .ref (g.2.2.1 + a1)] : List Value).toArray = args at C0 ⊢
  have C0 : Cx Lm g p s m args meth c cX10_keeps 3 none RX10 := C0
  have hS : va_S (Ax Lm g) s.heap s.heap [] := va_S.rf
  obtain ⟨hx, hb, hr, hml, hown, hts, hlocks, hK⟩ := id C0
  unfold X10_keeps at h
  skip
  refine lv_iconst (v := (0 : Int32)) hx hb dX10_keeps_0 rfl ?_
  refine lv_istore_n (lv' := [(2, .int (0 : Int32)), (0, .ref (g.2.2.1 + 0)), (1, .ref (g.2.2.1 + a1))]) hx hb dX10_keeps_1 rfl hl (by decide) rfl (fun ls hl => ?_)
  exact w_X10_keeps_2 C0  FU a1 hi1 (0 : Int32) μ _ _ _ hP hS (lv_sub hl [1, 2, 0] rfl) h
def X10_takes_2  : Nat → Nat → Int32 → Mem → Option Mem
  | 0, _, _, _ => none
  | n + 1, a1, x2, μ => (if (1944 : Int32) ≤ x2 then some μ else gd (inB x2 1944) (gd (inB x2 1944) (lt (st μ 1 x2.toNatClampNeg (μ a1 x2.toNatClampNeg)) fun μ4 => (X10_takes_2 n) a1 (x2 + (1 : Int32)) μ4)))
set_option maxRecDepth 100000 in
set_option maxHeartbeats 4000000 in
theorem w_X10_takes_2 {g : Gx} {p : Program} {l : Launch} {e : Env} {s : State} {m : MethodId} {args : Array Value} {below : List Frame} {meth : Method} {c : Code} (C0 : Cx Lm g p s m args meth c cX10_takes 3 none RX10) {ν : Mem}  (n : Nat) : ∀ (a1 : Nat) (ha1 : Cel Lm a1 12 1944) (x2 : Int32) (μ : Mem) (H : Heap) (locs : List Loc) (ls : Array Slot), Px Lm g μ H → va_S (Ax Lm g) s.heap H locs → lv_has ls 3 [(0, .ref (g.2.2.1 + 0)), (1, .ref (g.2.2.1 + a1)), (2, .int x2)] → X10_takes_2  n a1 x2 μ = some ν → W p l e { frames := 0, cells := 0, slots := 0, locals := 0 } s m args below meth c H locs 0 0 (MQ below (Qx Lm g none ν) args s 0 0 (Ax Lm g)) (F0 m 2 ls []) := by
  obtain ⟨hx, hb, hr, hml, hown, hts, hlocks, hK⟩ := id C0
  induction n with
  | zero =>
    intro a1 ha1 x2 μ H locs ls hP hS hl h
    have h : (none : Option Mem) = some ν := h
    cases h
  | succ n ih =>
    intro a1 ha1 x2 μ H locs ls hP hS hl h
    rw [X10_takes_2.eq_2] at h
    refine lv_iload_n hx hb dX10_takes_2 rfl (lv_at hl 2 rfl) ?_
    refine lv_sipush (v := (1944 : Int32)) hx hb dX10_takes_3 (by decide +kernel) ?_
    refine lv_icmp_ge (tgt := 24) hx hb dX10_takes_6 (by decide) (fun c1 => ?_) (fun c1 => ?_)
    · rw [if_pos c1] at h
      obtain rfl := some1 h
      exact x_vret C0 hP hS dX10_takes_24
    · rw [if_neg c1] at h
      refine lv_aload_n hx hb dX10_takes_9 rfl (lv_at hl 0 rfl) ?_
      refine x_get C0 hP inu10 (k := 0) cm_0 (by decide) rfl 0 (by decide) q4_134 rfl (v := .ref (g.2.2.1 + 1)) rfl dX10_takes_10 ?_
      refine lv_iload_n hx hb dX10_takes_13 rfl (lv_at hl 2 rfl) ?_
      refine lv_aload_n hx hb dX10_takes_14 rfl (lv_at hl 1 rfl) ?_
      refine lv_iload_n hx hb dX10_takes_15 rfl (lv_at hl 2 rfl) ?_
      obtain ⟨z2, h⟩ := gd_some h
      refine x_iald C0 hP (k := a1) ha1 (j := x2.toNatClampNeg) z2 rfl dX10_takes_16 ?_
      obtain ⟨z3, h⟩ := gd_some h
      obtain ⟨μ4, e4, h⟩ := lt_some h
      refine x_iast C0 hP hS (k := 1) cm_1 (j := x2.toNatClampNeg) z3 rfl dX10_takes_17 (fun H locs hP hS => ?_)
      rw [← e4] at hP
      refine lv_iinc (v := (x2 + (1 : Int32))) (lv' := [(2, .int (x2 + (1 : Int32))), (0, .ref (g.2.2.1 + 0)), (1, .ref (g.2.2.1 + a1))]) hx hb dX10_takes_18 hl (k := 2) rfl rfl (by decide) rfl (fun ls hl => ?_)
      refine lv_goto (tgt := 2) hx hb dX10_takes_21 (by decide) ?_
      exact ih a1 ha1 (x2 + (1 : Int32)) μ4 _ _ _ hP hS (lv_sub hl [1, 2, 0] rfl) h
def X10_takes (a1 : Nat) (μ : Mem) : Option Mem :=
  X10_takes_2 FU a1 (0 : Int32) μ
set_option maxRecDepth 100000 in
set_option maxHeartbeats 4000000 in
theorem c_X10_takes (l : Launch) (g : Gx) (a1 : Nat) (hi1 : Cel Lm a1 12 1944) (μ : Mem) {ν : Mem} (h : X10_takes a1 μ = some ν) : Ct Lm g l yX10_takes cX10_takes 3 none { frames := 0, cells := 0, slots := 0, locals := 0 } [.ref (g.2.2.1 + 0), .ref (g.2.2.1 + a1)] μ none ν := by
  refine x_met (lv := [(0, .ref (g.2.2.1 + 0)), (1, .ref (g.2.2.1 + a1))]) rfl (Nat.le_of_ble_eq_true rfl) rfl ?_
  intro p e s m below meth c C0 hP ls hl
  generalize ([.ref (g.2.2.1 + 0), .ref (g.2.2.1 + a1)] : List Value).toArray = args at C0 ⊢
  have C0 : Cx Lm g p s m args meth c cX10_takes 3 none RX10 := C0
  have hS : va_S (Ax Lm g) s.heap s.heap [] := va_S.rf
  obtain ⟨hx, hb, hr, hml, hown, hts, hlocks, hK⟩ := id C0
  unfold X10_takes at h
  skip
  refine lv_iconst (v := (0 : Int32)) hx hb dX10_takes_0 rfl ?_
  refine lv_istore_n (lv' := [(2, .int (0 : Int32)), (0, .ref (g.2.2.1 + 0)), (1, .ref (g.2.2.1 + a1))]) hx hb dX10_takes_1 rfl hl (by decide) rfl (fun ls hl => ?_)
  exact w_X10_takes_2 C0  FU a1 hi1 (0 : Int32) μ _ _ _ hP hS (lv_sub hl [1, 2, 0] rfl) h
def X10_holds_108 (K28 : Int32 → Int32 → Int32 → Int32 → Int32 → Mem → Option (Int32 × Mem)) (x1 : Int32) (x2 : Int32) (x3 : Int32) (x5 : Int32) (x6 : Int32) (μ : Mem) : Option (Int32 × Mem) :=
  ob2 (X10_passes x1 μ) fun r9 μ9 => lt (st μ9 1 0 ((μ9 1 0) + (1 : Int32))) fun μ10 => K28 x1 x2 x3 x5 (x6 + (1 : Int32)) μ10
set_option maxRecDepth 100000 in
set_option maxHeartbeats 4000000 in
theorem w_X10_holds_108 {g : Gx} {p : Program} {l : Launch} {e : Env} {s : State} {m : MethodId} {args : Array Value} {below : List Frame} {meth : Method} {c : Code} (C0 : Cx Lm g p s m args meth c cX10_holds 9 (some .int) RX10) {r : Int32} {ν : Mem} (K28 : Int32 → Int32 → Int32 → Int32 → Int32 → Mem → Option (Int32 × Mem)) (hK28 : ∀ (x1 : Int32) (x2 : Int32) (x3 : Int32) (x5 : Int32) (x6 : Int32) (μ : Mem) (H : Heap) (locs : List Loc) (ls : Array Slot), Px Lm g μ H → va_S (Ax Lm g) s.heap H locs → lv_has ls 9 [(0, .ref (g.2.2.1 + 0)), (1, .int x1), (2, .int x2), (3, .int x3), (5, .int x5), (6, .int x6)] → K28 x1 x2 x3 x5 x6 μ = some (r, ν) → W p l e { frames := 70, cells := 0, slots := 0, locals := 1591 } s m args below meth c H locs 0 0 (MQ below (Qx Lm g (some (.int r)) ν) args s 0 0 (Ax Lm g)) (F0 m 28 ls [])) (x1 : Int32) (x2 : Int32) (x3 : Int32) (x5 : Int32) (x6 : Int32) (μ : Mem) (H : Heap) (locs : List Loc) (ls : Array Slot) (hP : Px Lm g μ H) (hS : va_S (Ax Lm g) s.heap H locs) (hl : lv_has ls 9 [(0, .ref (g.2.2.1 + 0)), (1, .int x1), (2, .int x2), (3, .int x3), (5, .int x5), (6, .int x6)]) (h : X10_holds_108 K28 x1 x2 x3 x5 x6 μ = some (r, ν)) : W p l e { frames := 70, cells := 0, slots := 0, locals := 1591 } s m args below meth c H locs 0 0 (MQ below (Qx Lm g (some (.int r)) ν) args s 0 0 (Ax Lm g)) (F0 m 108 ls []) := by
  obtain ⟨hx, hb, hr, hml, hown, hts, hlocks, hK⟩ := id C0
  unfold X10_holds_108 at h
  refine lv_aload_n hx hb dX10_holds_108 rfl (lv_at hl 0 rfl) ?_
  refine lv_iload_n hx hb dX10_holds_109 rfl (lv_at hl 1 rfl) ?_
  obtain ⟨r9, μ9, h1, h⟩ := ob2_some h
  refine x_callV C0 (rest := []) (q := (RX10, TX10, 22)) (c_X10_passes l g x1 μ h1) q5_151 q5_148 q5_150 r3_14 q1_11 hd_X10_passes ⟨rfl, rfl⟩ ⟨Nat.le_of_ble_eq_true rfl, Nat.le_of_ble_eq_true rfl⟩ cm_0 (by decide) rfl hP hS hl.1 rfl rfl (Nat.le_of_ble_eq_true rfl) dX10_holds_110 (fun H locs hP hS => ?_)
  refine W.eq (g2 := F0 m 113 ls [.int r9]) rfl ?_
  refine lv_istore (lv' := [(8, .int r9), (0, .ref (g.2.2.1 + 0)), (1, .int x1), (2, .int x2), (3, .int x3), (5, .int x5), (6, .int x6)]) hx hb dX10_holds_113 hl (by decide) rfl (fun ls hl => ?_)
  refine lv_aload_n hx hb dX10_holds_115 rfl (lv_at hl 1 rfl) ?_
  refine x_get C0 hP inu10 (k := 0) cm_0 (by decide) rfl 0 (by decide) q4_134 rfl (v := .ref (g.2.2.1 + 1)) rfl dX10_holds_116 ?_
  refine lv_iconst (v := (0 : Int32)) hx hb dX10_holds_119 rfl ?_
  refine lv_dup2_11 hx hb dX10_holds_120 rfl rfl ?_
  refine x_iald C0 hP (k := 1) cm_1 (j := 0) (by decide) rfl dX10_holds_121 ?_
  refine lv_iconst (v := (1 : Int32)) hx hb dX10_holds_122 rfl ?_
  refine lv_iadd hx hb dX10_holds_123 ?_
  obtain ⟨μ10, e10, h⟩ := lt_some h
  refine x_iast C0 hP hS (k := 1) cm_1 (j := 0) (by decide) rfl dX10_holds_124 (fun H locs hP hS => ?_)
  rw [← e10] at hP
  refine lv_iinc (v := (x6 + (1 : Int32))) (lv' := [(6, .int (x6 + (1 : Int32))), (8, .int r9), (0, .ref (g.2.2.1 + 0)), (1, .int x1), (2, .int x2), (3, .int x3), (5, .int x5)]) hx hb dX10_holds_125 hl (k := 6) rfl rfl (by decide) rfl (fun ls hl => ?_)
  refine lv_goto (tgt := 28) hx hb dX10_holds_128 (by decide) ?_
  exact hK28 x1 x2 x3 x5 (x6 + (1 : Int32)) μ10 _ _ _ hP hS (lv_sub hl [2, 3, 4, 5, 6, 0] rfl) h
def X10_holds_103 (K28 : Int32 → Int32 → Int32 → Int32 → Int32 → Mem → Option (Int32 × Mem)) (x1 : Int32) (x2 : Int32) (x3 : Int32) (x5 : Int32) (x6 : Int32) (t1 : Int32) (t2 : Int32) (μ : Mem) : Option (Int32 × Mem) :=
  ob2 (X10_tops t1 t2 μ) fun r12 μ12 => X10_holds_108 K28 x1 x2 x3 x5 x6 μ12
set_option maxRecDepth 100000 in
set_option maxHeartbeats 4000000 in
theorem w_X10_holds_103 {g : Gx} {p : Program} {l : Launch} {e : Env} {s : State} {m : MethodId} {args : Array Value} {below : List Frame} {meth : Method} {c : Code} (C0 : Cx Lm g p s m args meth c cX10_holds 9 (some .int) RX10) {r : Int32} {ν : Mem} (K28 : Int32 → Int32 → Int32 → Int32 → Int32 → Mem → Option (Int32 × Mem)) (hK28 : ∀ (x1 : Int32) (x2 : Int32) (x3 : Int32) (x5 : Int32) (x6 : Int32) (μ : Mem) (H : Heap) (locs : List Loc) (ls : Array Slot), Px Lm g μ H → va_S (Ax Lm g) s.heap H locs → lv_has ls 9 [(0, .ref (g.2.2.1 + 0)), (1, .int x1), (2, .int x2), (3, .int x3), (5, .int x5), (6, .int x6)] → K28 x1 x2 x3 x5 x6 μ = some (r, ν) → W p l e { frames := 70, cells := 0, slots := 0, locals := 1591 } s m args below meth c H locs 0 0 (MQ below (Qx Lm g (some (.int r)) ν) args s 0 0 (Ax Lm g)) (F0 m 28 ls [])) (x1 : Int32) (x2 : Int32) (x3 : Int32) (x5 : Int32) (x6 : Int32) (t1 : Int32) (t2 : Int32) (μ : Mem) (H : Heap) (locs : List Loc) (ls : Array Slot) (hP : Px Lm g μ H) (hS : va_S (Ax Lm g) s.heap H locs) (hl : lv_has ls 9 [(0, .ref (g.2.2.1 + 0)), (1, .int x1), (2, .int x2), (3, .int x3), (5, .int x5), (6, .int x6)]) (h : X10_holds_103 K28 x1 x2 x3 x5 x6 t1 t2 μ = some (r, ν)) : W p l e { frames := 70, cells := 0, slots := 0, locals := 1591 } s m args below meth c H locs 0 0 (MQ below (Qx Lm g (some (.int r)) ν) args s 0 0 (Ax Lm g)) (F0 m 103 ls [.int t2, .int t1, .ref (g.2.2.1 + 0)]) := by
  obtain ⟨hx, hb, hr, hml, hown, hts, hlocks, hK⟩ := id C0
  unfold X10_holds_103 at h
  obtain ⟨r12, μ12, h1, h⟩ := ob2_some h
  refine x_callV C0 (rest := []) (q := (RX10, TX10, 22)) (c_X10_tops l g t1 t2 μ h1) q5_108 q5_105 q5_107 r3_11 q1_11 hd_X10_tops ⟨rfl, rfl⟩ ⟨Nat.le_of_ble_eq_true rfl, Nat.le_of_ble_eq_true rfl⟩ cm_0 (by decide) rfl hP hS hl.1 rfl rfl (Nat.le_of_ble_eq_true rfl) dX10_holds_103 (fun H locs hP hS => ?_)
  refine W.eq (g2 := F0 m 106 ls [.int r12]) rfl ?_
  refine lv_istore (lv' := [(8, .int r12), (0, .ref (g.2.2.1 + 0)), (1, .int x1), (2, .int x2), (3, .int x3), (5, .int x5), (6, .int x6)]) hx hb dX10_holds_106 hl (by decide) rfl (fun ls hl => ?_)
  exact w_X10_holds_108 C0 K28 hK28 x1 x2 x3 x5 x6 μ12 _ _ _ hP hS (lv_sub hl [1, 2, 3, 4, 5, 6] rfl) h
def X10_holds_78 (K28 : Int32 → Int32 → Int32 → Int32 → Int32 → Mem → Option (Int32 × Mem)) (x1 : Int32) (x2 : Int32) (x3 : Int32) (x5 : Int32) (x6 : Int32) (t0 : Int32) (μ : Mem) : Option (Int32 × Mem) :=
  (if t0 ≤ (0 : Int32) then X10_holds_108 K28 x1 x2 x3 x5 x6 μ else (if t0 ≤ (9999 : Int32) then X10_holds_103 K28 x1 x2 x3 x5 x6 x1 t0 μ else X10_holds_103 K28 x1 x2 x3 x5 x6 x1 (9999 : Int32) μ))
set_option maxRecDepth 100000 in
set_option maxHeartbeats 4000000 in
theorem w_X10_holds_78 {g : Gx} {p : Program} {l : Launch} {e : Env} {s : State} {m : MethodId} {args : Array Value} {below : List Frame} {meth : Method} {c : Code} (C0 : Cx Lm g p s m args meth c cX10_holds 9 (some .int) RX10) {r : Int32} {ν : Mem} (K28 : Int32 → Int32 → Int32 → Int32 → Int32 → Mem → Option (Int32 × Mem)) (hK28 : ∀ (x1 : Int32) (x2 : Int32) (x3 : Int32) (x5 : Int32) (x6 : Int32) (μ : Mem) (H : Heap) (locs : List Loc) (ls : Array Slot), Px Lm g μ H → va_S (Ax Lm g) s.heap H locs → lv_has ls 9 [(0, .ref (g.2.2.1 + 0)), (1, .int x1), (2, .int x2), (3, .int x3), (5, .int x5), (6, .int x6)] → K28 x1 x2 x3 x5 x6 μ = some (r, ν) → W p l e { frames := 70, cells := 0, slots := 0, locals := 1591 } s m args below meth c H locs 0 0 (MQ below (Qx Lm g (some (.int r)) ν) args s 0 0 (Ax Lm g)) (F0 m 28 ls [])) (x1 : Int32) (x2 : Int32) (x3 : Int32) (x5 : Int32) (x6 : Int32) (t0 : Int32) (μ : Mem) (H : Heap) (locs : List Loc) (ls : Array Slot) (hP : Px Lm g μ H) (hS : va_S (Ax Lm g) s.heap H locs) (hl : lv_has ls 9 [(0, .ref (g.2.2.1 + 0)), (1, .int x1), (2, .int x2), (3, .int x3), (5, .int x5), (6, .int x6)]) (h : X10_holds_78 K28 x1 x2 x3 x5 x6 t0 μ = some (r, ν)) : W p l e { frames := 70, cells := 0, slots := 0, locals := 1591 } s m args below meth c H locs 0 0 (MQ below (Qx Lm g (some (.int r)) ν) args s 0 0 (Ax Lm g)) (F0 m 78 ls [.int t0]) := by
  obtain ⟨hx, hb, hr, hml, hown, hts, hlocks, hK⟩ := id C0
  unfold X10_holds_78 at h
  refine lv_istore (lv' := [(7, .int t0), (0, .ref (g.2.2.1 + 0)), (1, .int x1), (2, .int x2), (3, .int x3), (5, .int x5), (6, .int x6)]) hx hb dX10_holds_78 hl (by decide) rfl (fun ls hl => ?_)
  refine lv_iload hx hb dX10_holds_80 (lv_at hl 0 rfl) ?_
  refine lv_if_le (tgt := 108) hx hb dX10_holds_82 (by decide) (fun c8 => ?_) (fun c8 => ?_)
  · rw [if_pos c8] at h
    exact w_X10_holds_108 C0 K28 hK28 x1 x2 x3 x5 x6 μ _ _ _ hP hS (lv_sub hl [1, 2, 3, 4, 5, 6] rfl) h
  · rw [if_neg c8] at h
    refine lv_aload_n hx hb dX10_holds_85 rfl (lv_at hl 1 rfl) ?_
    refine lv_iload_n hx hb dX10_holds_86 rfl (lv_at hl 2 rfl) ?_
    refine lv_iload hx hb dX10_holds_87 (lv_at hl 0 rfl) ?_
    refine lv_sipush (v := (9999 : Int32)) hx hb dX10_holds_89 (by decide +kernel) ?_
    refine lv_icmp_le (tgt := 101) hx hb dX10_holds_92 (by decide) (fun c11 => ?_) (fun c11 => ?_)
    · rw [if_pos c11] at h
      refine lv_iload hx hb dX10_holds_101 (lv_at hl 0 rfl) ?_
      exact w_X10_holds_103 C0 K28 hK28 x1 x2 x3 x5 x6 x1 t0 μ _ _ _ hP hS (lv_sub hl [1, 2, 3, 4, 5, 6] rfl) h
    · rw [if_neg c11] at h
      refine lv_sipush (v := (9999 : Int32)) hx hb dX10_holds_95 (by decide +kernel) ?_
      refine lv_goto (tgt := 103) hx hb dX10_holds_98 (by decide) ?_
      exact w_X10_holds_103 C0 K28 hK28 x1 x2 x3 x5 x6 x1 (9999 : Int32) μ _ _ _ hP hS (lv_sub hl [1, 2, 3, 4, 5, 6] rfl) h
def X10_holds_77 (K28 : Int32 → Int32 → Int32 → Int32 → Int32 → Mem → Option (Int32 × Mem)) (x1 : Int32) (x2 : Int32) (x3 : Int32) (x5 : Int32) (x6 : Int32) (μ : Mem) : Option (Int32 × Mem) :=
  X10_holds_78 K28 x1 x2 x3 x5 x6 (0 : Int32) μ
set_option maxRecDepth 100000 in
set_option maxHeartbeats 4000000 in
theorem w_X10_holds_77 {g : Gx} {p : Program} {l : Launch} {e : Env} {s : State} {m : MethodId} {args : Array Value} {below : List Frame} {meth : Method} {c : Code} (C0 : Cx Lm g p s m args meth c cX10_holds 9 (some .int) RX10) {r : Int32} {ν : Mem} (K28 : Int32 → Int32 → Int32 → Int32 → Int32 → Mem → Option (Int32 × Mem)) (hK28 : ∀ (x1 : Int32) (x2 : Int32) (x3 : Int32) (x5 : Int32) (x6 : Int32) (μ : Mem) (H : Heap) (locs : List Loc) (ls : Array Slot), Px Lm g μ H → va_S (Ax Lm g) s.heap H locs → lv_has ls 9 [(0, .ref (g.2.2.1 + 0)), (1, .int x1), (2, .int x2), (3, .int x3), (5, .int x5), (6, .int x6)] → K28 x1 x2 x3 x5 x6 μ = some (r, ν) → W p l e { frames := 70, cells := 0, slots := 0, locals := 1591 } s m args below meth c H locs 0 0 (MQ below (Qx Lm g (some (.int r)) ν) args s 0 0 (Ax Lm g)) (F0 m 28 ls [])) (x1 : Int32) (x2 : Int32) (x3 : Int32) (x5 : Int32) (x6 : Int32) (μ : Mem) (H : Heap) (locs : List Loc) (ls : Array Slot) (hP : Px Lm g μ H) (hS : va_S (Ax Lm g) s.heap H locs) (hl : lv_has ls 9 [(0, .ref (g.2.2.1 + 0)), (1, .int x1), (2, .int x2), (3, .int x3), (5, .int x5), (6, .int x6)]) (h : X10_holds_77 K28 x1 x2 x3 x5 x6 μ = some (r, ν)) : W p l e { frames := 70, cells := 0, slots := 0, locals := 1591 } s m args below meth c H locs 0 0 (MQ below (Qx Lm g (some (.int r)) ν) args s 0 0 (Ax Lm g)) (F0 m 77 ls []) := by
  obtain ⟨hx, hb, hr, hml, hown, hts, hlocks, hK⟩ := id C0
  unfold X10_holds_77 at h
  refine lv_iconst (v := (0 : Int32)) hx hb dX10_holds_77 rfl ?_
  exact w_X10_holds_78 C0 K28 hK28 x1 x2 x3 x5 x6 (0 : Int32) μ _ _ _ hP hS (lv_sub hl [0, 1, 2, 3, 4, 5] rfl) h
def X10_holds_28  : Nat → Int32 → Int32 → Int32 → Int32 → Int32 → Mem → Option (Int32 × Mem)
  | 0, _, _, _, _, _, _ => none
  | n + 1, x1, x2, x3, x5, x6, μ => (if ((24 : Int32) * x3) ≤ x6 then ob2 (X10_of x1 (10 : Int32) μ) fun r5 μ5 => ob (X10_takes 3 μ5) fun μ6 => some ((r5 - x5), μ6) else (if (x6 - x6 / (24 : Int32) * (24 : Int32)) = (0 : Int32) then gd (inB x2 4) ((if (μ 9 x2.toNatClampNeg) ≤ (x6 / (24 : Int32)) then X10_holds_77 (X10_holds_28 n) x1 x2 x3 x5 x6 μ else gd (inB (((24 : Int32) * x2) + (x6 / (24 : Int32))) 96) (X10_holds_78 (X10_holds_28 n) x1 x2 x3 x5 x6 (μ 10 (((24 : Int32) * x2) + (x6 / (24 : Int32))).toNatClampNeg) μ))) else X10_holds_77 (X10_holds_28 n) x1 x2 x3 x5 x6 μ))
set_option maxRecDepth 100000 in
set_option maxHeartbeats 4000000 in
theorem w_X10_holds_28 {g : Gx} {p : Program} {l : Launch} {e : Env} {s : State} {m : MethodId} {args : Array Value} {below : List Frame} {meth : Method} {c : Code} (C0 : Cx Lm g p s m args meth c cX10_holds 9 (some .int) RX10) {r : Int32} {ν : Mem}  (n : Nat) : ∀ (x1 : Int32) (x2 : Int32) (x3 : Int32) (x5 : Int32) (x6 : Int32) (μ : Mem) (H : Heap) (locs : List Loc) (ls : Array Slot), Px Lm g μ H → va_S (Ax Lm g) s.heap H locs → lv_has ls 9 [(0, .ref (g.2.2.1 + 0)), (1, .int x1), (2, .int x2), (3, .int x3), (5, .int x5), (6, .int x6)] → X10_holds_28  n x1 x2 x3 x5 x6 μ = some (r, ν) → W p l e { frames := 70, cells := 0, slots := 0, locals := 1591 } s m args below meth c H locs 0 0 (MQ below (Qx Lm g (some (.int r)) ν) args s 0 0 (Ax Lm g)) (F0 m 28 ls []) := by
  obtain ⟨hx, hb, hr, hml, hown, hts, hlocks, hK⟩ := id C0
  induction n with
  | zero =>
    intro x1 x2 x3 x5 x6 μ H locs ls hP hS hl h
    have h : (none : Option (Int32 × Mem)) = some (r, ν) := h
    cases h
  | succ n ih =>
    intro x1 x2 x3 x5 x6 μ H locs ls hP hS hl h
    rw [X10_holds_28.eq_2] at h
    refine lv_iload hx hb dX10_holds_28 (lv_at hl 5 rfl) ?_
    refine lv_bipush (v := (24 : Int32)) hx hb dX10_holds_30 (by decide +kernel) ?_
    refine lv_iload_n hx hb dX10_holds_32 rfl (lv_at hl 3 rfl) ?_
    refine lv_imul hx hb dX10_holds_33 ?_
    refine lv_icmp_ge (tgt := 131) hx hb dX10_holds_34 (by decide) (fun c4 => ?_) (fun c4 => ?_)
    · rw [if_pos c4] at h
      refine lv_aload_n hx hb dX10_holds_131 rfl (lv_at hl 0 rfl) ?_
      refine lv_iload_n hx hb dX10_holds_132 rfl (lv_at hl 1 rfl) ?_
      refine lv_bipush (v := (10 : Int32)) hx hb dX10_holds_133 (by decide +kernel) ?_
      obtain ⟨r5, μ5, h1, h⟩ := ob2_some h
      refine x_callV C0 (rest := []) (q := (RX10, TX10, 22)) (c_X10_of l g x1 (10 : Int32) μ h1) q4_235 q4_232 q4_234 r2_9 q1_11 hd_X10_of ⟨rfl, rfl⟩ ⟨Nat.le_of_ble_eq_true rfl, Nat.le_of_ble_eq_true rfl⟩ cm_0 (by decide) rfl hP hS hl.1 rfl rfl (Nat.le_of_ble_eq_true rfl) dX10_holds_135 (fun H locs hP hS => ?_)
      refine W.eq (g2 := F0 m 138 ls [.int r5]) rfl ?_
      refine lv_iload hx hb dX10_holds_138 (lv_at hl 4 rfl) ?_
      refine lv_isub hx hb dX10_holds_140 ?_
      refine lv_istore (lv' := [(6, .int (r5 - x5)), (0, .ref (g.2.2.1 + 0)), (1, .int x1), (2, .int x2), (3, .int x3), (5, .int x5)]) hx hb dX10_holds_141 hl (by decide) rfl (fun ls hl => ?_)
      refine lv_aload_n hx hb dX10_holds_143 rfl (lv_at hl 1 rfl) ?_
      refine lv_aload_n hx hb dX10_holds_144 rfl (lv_at hl 1 rfl) ?_
      refine x_get C0 hP inu10 (k := 0) cm_0 (by decide) rfl 4 (by decide) q4_138 rfl (v := .ref (g.2.2.1 + 3)) rfl dX10_holds_145 ?_
      obtain ⟨μ6, h1, h⟩ := ob_some h
      refine x_callV C0 (rest := []) (q := (RX10, TX10, 22)) (c_X10_takes l g 3 cm_3 μ5 h1) q5_183 q5_180 q5_182 r4_2 q1_11 hd_X10_takes ⟨rfl, rfl⟩ ⟨Nat.le_of_ble_eq_true rfl, Nat.le_of_ble_eq_true rfl⟩ cm_0 (by decide) rfl hP hS hl.1 rfl rfl (Nat.le_of_ble_eq_true rfl) dX10_holds_148 (fun H locs hP hS => ?_)
      refine W.eq (g2 := F0 m 151 ls []) rfl ?_
      refine lv_iload hx hb dX10_holds_151 (lv_at hl 0 rfl) ?_
      obtain ⟨rfl, rfl⟩ := some2 h
      exact x_iret C0 hP hS dX10_holds_153
    · rw [if_neg c4] at h
      refine lv_iload hx hb dX10_holds_37 (lv_at hl 5 rfl) ?_
      refine lv_bipush (v := (24 : Int32)) hx hb dX10_holds_39 (by decide +kernel) ?_
      refine lv_irem hx hb dX10_holds_41 (by decide) ?_
      refine lv_if_ne (tgt := 77) hx hb dX10_holds_42 (by decide) (fun c7 => ?_) (fun c7 => ?_)
      · rw [if_neg c7] at h
        exact w_X10_holds_77 C0 (X10_holds_28  n) ih x1 x2 x3 x5 x6 μ _ _ _ hP hS (lv_sub hl [0, 1, 2, 3, 4, 5] rfl) h
      · rw [if_pos c7] at h
        refine lv_iload hx hb dX10_holds_45 (lv_at hl 5 rfl) ?_
        refine lv_bipush (v := (24 : Int32)) hx hb dX10_holds_47 (by decide +kernel) ?_
        refine lv_idiv hx hb dX10_holds_49 (by decide) ?_
        refine lv_aload_n hx hb dX10_holds_50 rfl (lv_at hl 0 rfl) ?_
        refine x_get C0 hP inu10 (k := 0) cm_0 (by decide) rfl 19 (by decide) q4_153 rfl (v := .ref (g.2.2.1 + 9)) rfl dX10_holds_51 ?_
        refine lv_iload_n hx hb dX10_holds_54 rfl (lv_at hl 2 rfl) ?_
        obtain ⟨z13, h⟩ := gd_some h
        refine x_iald C0 hP (k := 9) cm_9 (j := x2.toNatClampNeg) z13 rfl dX10_holds_55 ?_
        refine lv_icmp_ge (tgt := 77) hx hb dX10_holds_56 (by decide) (fun c14 => ?_) (fun c14 => ?_)
        · rw [if_pos c14] at h
          exact w_X10_holds_77 C0 (X10_holds_28  n) ih x1 x2 x3 x5 x6 μ _ _ _ hP hS (lv_sub hl [0, 1, 2, 3, 4, 5] rfl) h
        · rw [if_neg c14] at h
          refine lv_aload_n hx hb dX10_holds_59 rfl (lv_at hl 0 rfl) ?_
          refine x_get C0 hP inu10 (k := 0) cm_0 (by decide) rfl 20 (by decide) q4_154 rfl (v := .ref (g.2.2.1 + 10)) rfl dX10_holds_60 ?_
          refine lv_bipush (v := (24 : Int32)) hx hb dX10_holds_63 (by decide +kernel) ?_
          refine lv_iload_n hx hb dX10_holds_65 rfl (lv_at hl 2 rfl) ?_
          refine lv_imul hx hb dX10_holds_66 ?_
          refine lv_iload hx hb dX10_holds_67 (lv_at hl 5 rfl) ?_
          refine lv_bipush (v := (24 : Int32)) hx hb dX10_holds_69 (by decide +kernel) ?_
          refine lv_idiv hx hb dX10_holds_71 (by decide) ?_
          refine lv_iadd hx hb dX10_holds_72 ?_
          obtain ⟨z15, h⟩ := gd_some h
          refine x_iald C0 hP (k := 10) cm_10 (j := (((24 : Int32) * x2) + (x6 / (24 : Int32))).toNatClampNeg) z15 rfl dX10_holds_73 ?_
          refine lv_goto (tgt := 78) hx hb dX10_holds_74 (by decide) ?_
          exact w_X10_holds_78 C0 (X10_holds_28  n) ih x1 x2 x3 x5 x6 (μ 10 (((24 : Int32) * x2) + (x6 / (24 : Int32))).toNatClampNeg) μ _ _ _ hP hS (lv_sub hl [0, 1, 2, 3, 4, 5] rfl) h
def X10_holds (x1 : Int32) (x2 : Int32) (x3 : Int32) (x4 : Int32) (μ : Mem) : Option (Int32 × Mem) :=
  ob (X10_keeps 3 μ) fun μ1 => ob2 (X10_of x1 (10 : Int32) μ1) fun r2 μ2 => ob (X10_set x1 (5 : Int32) x4 μ2) fun μ3 => X10_holds_28 FU x1 x2 x3 r2 (0 : Int32) μ3
set_option maxRecDepth 100000 in
set_option maxHeartbeats 4000000 in
theorem c_X10_holds (l : Launch) (g : Gx) (x1 : Int32) (x2 : Int32) (x3 : Int32) (x4 : Int32) (μ : Mem) {r : Int32} {ν : Mem} (h : X10_holds x1 x2 x3 x4 μ = some (r, ν)) : Ct Lm g l yX10_holds cX10_holds 9 (some .int) { frames := 70, cells := 0, slots := 0, locals := 1591 } [.ref (g.2.2.1 + 0), .int x1, .int x2, .int x3, .int x4] μ (some (.int r)) ν := by
  refine x_met (lv := [(0, .ref (g.2.2.1 + 0)), (1, .int x1), (2, .int x2), (3, .int x3), (4, .int x4)]) rfl (Nat.le_of_ble_eq_true rfl) rfl ?_
  intro p e s m below meth c C0 hP ls hl
  generalize ([.ref (g.2.2.1 + 0), .int x1, .int x2, .int x3, .int x4] : List Value).toArray = args at C0 ⊢
  have C0 : Cx Lm g p s m args meth c cX10_holds 9 (some .int) RX10 := C0
  have hS : va_S (Ax Lm g) s.heap s.heap [] := va_S.rf
  obtain ⟨hx, hb, hr, hml, hown, hts, hlocks, hK⟩ := id C0
  unfold X10_holds at h
  skip
  refine lv_aload_n hx hb dX10_holds_0 rfl (lv_at hl 0 rfl) ?_
  refine lv_aload_n hx hb dX10_holds_1 rfl (lv_at hl 0 rfl) ?_
  refine x_get C0 hP inu10 (k := 0) cm_0 (by decide) rfl 4 (by decide) q4_138 rfl (v := .ref (g.2.2.1 + 3)) rfl dX10_holds_2 ?_
  obtain ⟨μ1, h1, h⟩ := ob_some h
  refine x_callV C0 (rest := []) (q := (RX10, TX10, 22)) (c_X10_keeps l g 3 cm_3 μ h1) q5_179 q5_176 q5_178 r4_1 q1_11 hd_X10_keeps ⟨rfl, rfl⟩ ⟨Nat.le_of_ble_eq_true rfl, Nat.le_of_ble_eq_true rfl⟩ cm_0 (by decide) rfl hP hS hl.1 rfl rfl (Nat.le_of_ble_eq_true rfl) dX10_holds_5 (fun H locs hP hS => ?_)
  refine W.eq (g2 := F0 m 8 ls []) rfl ?_
  refine lv_aload_n hx hb dX10_holds_8 rfl (lv_at hl 0 rfl) ?_
  refine lv_iload_n hx hb dX10_holds_9 rfl (lv_at hl 1 rfl) ?_
  refine lv_bipush (v := (10 : Int32)) hx hb dX10_holds_10 (by decide +kernel) ?_
  obtain ⟨r2, μ2, h1, h⟩ := ob2_some h
  refine x_callV C0 (rest := []) (q := (RX10, TX10, 22)) (c_X10_of l g x1 (10 : Int32) μ1 h1) q4_235 q4_232 q4_234 r2_9 q1_11 hd_X10_of ⟨rfl, rfl⟩ ⟨Nat.le_of_ble_eq_true rfl, Nat.le_of_ble_eq_true rfl⟩ cm_0 (by decide) rfl hP hS hl.1 rfl rfl (Nat.le_of_ble_eq_true rfl) dX10_holds_12 (fun H locs hP hS => ?_)
  refine W.eq (g2 := F0 m 15 ls [.int r2]) rfl ?_
  refine lv_istore (lv' := [(5, .int r2), (0, .ref (g.2.2.1 + 0)), (1, .int x1), (2, .int x2), (3, .int x3), (4, .int x4)]) hx hb dX10_holds_15 hl (by decide) rfl (fun ls hl => ?_)
  refine lv_aload_n hx hb dX10_holds_17 rfl (lv_at hl 1 rfl) ?_
  refine lv_iload_n hx hb dX10_holds_18 rfl (lv_at hl 2 rfl) ?_
  refine lv_iconst (v := (5 : Int32)) hx hb dX10_holds_19 rfl ?_
  refine lv_iload hx hb dX10_holds_20 (lv_at hl 5 rfl) ?_
  obtain ⟨μ3, h1, h⟩ := ob_some h
  refine x_callV C0 (rest := []) (q := (RX10, TX10, 22)) (c_X10_set l g x1 (5 : Int32) x4 μ2 h1) q4_219 q4_216 q4_218 r2_6 q1_11 hd_X10_set ⟨rfl, rfl⟩ ⟨Nat.le_of_ble_eq_true rfl, Nat.le_of_ble_eq_true rfl⟩ cm_0 (by decide) rfl hP hS hl.1 rfl rfl (Nat.le_of_ble_eq_true rfl) dX10_holds_22 (fun H locs hP hS => ?_)
  refine W.eq (g2 := F0 m 25 ls []) rfl ?_
  refine lv_iconst (v := (0 : Int32)) hx hb dX10_holds_25 rfl ?_
  refine lv_istore (lv' := [(6, .int (0 : Int32)), (5, .int r2), (0, .ref (g.2.2.1 + 0)), (1, .int x1), (2, .int x2), (3, .int x3), (4, .int x4)]) hx hb dX10_holds_26 hl (by decide) rfl (fun ls hl => ?_)
  exact w_X10_holds_28 C0  FU x1 x2 x3 r2 (0 : Int32) μ3 _ _ _ hP hS (lv_sub hl [2, 3, 4, 5, 1, 0] rfl) h
def X10_isHolding (x1 : Int32) (x2 : Int32) (x3 : Int32) (x4 : Int32) (μ : Mem) : Option (Int32 × Mem) :=
  ob2 (X10_isMeter x1 μ) fun r1 μ1 => (if r1 = (0 : Int32) then some ((0 : Int32), μ1) else ob2 (X10_in x2 (0 : Int32) (3 : Int32) μ1) fun r3 μ3 => (if r3 = (0 : Int32) then some ((0 : Int32), μ3) else ob2 (X10_in x3 (1 : Int32) (7 : Int32) μ3) fun r5 μ5 => (if r5 = (0 : Int32) then some ((0 : Int32), μ5) else ob2 (X10_in x4 (0 : Int32) (200 : Int32) μ5) fun r7 μ7 => (if r7 = (0 : Int32) then some ((0 : Int32), μ7) else (if (9000 : Int32) < ((μ7 1 0) + ((24 : Int32) * x3)) then some ((0 : Int32), μ7) else some ((1 : Int32), μ7))))))
set_option maxRecDepth 100000 in
set_option maxHeartbeats 4000000 in
theorem c_X10_isHolding (l : Launch) (g : Gx) (x1 : Int32) (x2 : Int32) (x3 : Int32) (x4 : Int32) (μ : Mem) {r : Int32} {ν : Mem} (h : X10_isHolding x1 x2 x3 x4 μ = some (r, ν)) : Ct Lm g l yX10_isHolding cX10_isHolding 5 (some .boolean) { frames := 2, cells := 0, slots := 0, locals := 43 } [.ref (g.2.2.1 + 0), .int x1, .int x2, .int x3, .int x4] μ (some (.int r)) ν := by
  refine x_met (lv := [(0, .ref (g.2.2.1 + 0)), (1, .int x1), (2, .int x2), (3, .int x3), (4, .int x4)]) rfl (Nat.le_of_ble_eq_true rfl) rfl ?_
  intro p e s m below meth c C0 hP ls hl
  generalize ([.ref (g.2.2.1 + 0), .int x1, .int x2, .int x3, .int x4] : List Value).toArray = args at C0 ⊢
  have C0 : Cx Lm g p s m args meth c cX10_isHolding 5 (some .boolean) RX10 := C0
  have hS : va_S (Ax Lm g) s.heap s.heap [] := va_S.rf
  obtain ⟨hx, hb, hr, hml, hown, hts, hlocks, hK⟩ := id C0
  unfold X10_isHolding at h
  skip
  refine lv_aload_n hx hb dX10_isHolding_0 rfl (lv_at hl 0 rfl) ?_
  refine lv_iload_n hx hb dX10_isHolding_1 rfl (lv_at hl 1 rfl) ?_
  obtain ⟨r1, μ1, h1, h⟩ := ob2_some h
  refine x_callV C0 (rest := []) (q := (RX10, TX10, 22)) (c_X10_isMeter l g x1 μ h1) q4_231 q4_228 q4_230 r2_8 q1_11 hd_X10_isMeter ⟨rfl, rfl⟩ ⟨Nat.le_of_ble_eq_true rfl, Nat.le_of_ble_eq_true rfl⟩ cm_0 (by decide) rfl hP hS hl.1 rfl rfl (Nat.le_of_ble_eq_true rfl) dX10_isHolding_2 (fun H locs hP hS => ?_)
  refine W.eq (g2 := F0 m 5 ls [.int r1]) rfl ?_
  refine lv_if_eq (tgt := 60) hx hb dX10_isHolding_5 (by decide) (fun c2 => ?_) (fun c2 => ?_)
  · rw [if_pos c2] at h
    refine lv_iconst (v := (0 : Int32)) hx hb dX10_isHolding_60 rfl ?_
    obtain ⟨rfl, rfl⟩ := some2 h
    exact x_zret C0 hP hS (by decide) dX10_isHolding_61
  · rw [if_neg c2] at h
    refine lv_iload_n hx hb dX10_isHolding_8 rfl (lv_at hl 2 rfl) ?_
    refine lv_iconst (v := (0 : Int32)) hx hb dX10_isHolding_9 rfl ?_
    refine lv_iconst (v := (3 : Int32)) hx hb dX10_isHolding_10 rfl ?_
    obtain ⟨r3, μ3, h1, h⟩ := ob2_some h
    refine x_callS C0 (rest := []) (c_X10_in l g x2 (0 : Int32) (3 : Int32) μ1 h1) q4_207 q4_205 q4_206 q1_11 hd_X10_in ⟨rfl, rfl⟩ ⟨Nat.le_of_ble_eq_true rfl, Nat.le_of_ble_eq_true rfl⟩ hP hS hl.1 rfl rfl (Nat.le_of_ble_eq_true rfl) dX10_isHolding_11 (fun H locs hP hS => ?_)
    refine W.eq (g2 := F0 m 14 ls [.int r3]) rfl ?_
    refine lv_if_eq (tgt := 60) hx hb dX10_isHolding_14 (by decide) (fun c4 => ?_) (fun c4 => ?_)
    · rw [if_pos c4] at h
      refine lv_iconst (v := (0 : Int32)) hx hb dX10_isHolding_60 rfl ?_
      obtain ⟨rfl, rfl⟩ := some2 h
      exact x_zret C0 hP hS (by decide) dX10_isHolding_61
    · rw [if_neg c4] at h
      refine lv_iload_n hx hb dX10_isHolding_17 rfl (lv_at hl 3 rfl) ?_
      refine lv_iconst (v := (1 : Int32)) hx hb dX10_isHolding_18 rfl ?_
      refine lv_bipush (v := (7 : Int32)) hx hb dX10_isHolding_19 (by decide +kernel) ?_
      obtain ⟨r5, μ5, h1, h⟩ := ob2_some h
      refine x_callS C0 (rest := []) (c_X10_in l g x3 (1 : Int32) (7 : Int32) μ3 h1) q4_207 q4_205 q4_206 q1_11 hd_X10_in ⟨rfl, rfl⟩ ⟨Nat.le_of_ble_eq_true rfl, Nat.le_of_ble_eq_true rfl⟩ hP hS hl.1 rfl rfl (Nat.le_of_ble_eq_true rfl) dX10_isHolding_21 (fun H locs hP hS => ?_)
      refine W.eq (g2 := F0 m 24 ls [.int r5]) rfl ?_
      refine lv_if_eq (tgt := 60) hx hb dX10_isHolding_24 (by decide) (fun c6 => ?_) (fun c6 => ?_)
      · rw [if_pos c6] at h
        refine lv_iconst (v := (0 : Int32)) hx hb dX10_isHolding_60 rfl ?_
        obtain ⟨rfl, rfl⟩ := some2 h
        exact x_zret C0 hP hS (by decide) dX10_isHolding_61
      · rw [if_neg c6] at h
        refine lv_iload hx hb dX10_isHolding_27 (lv_at hl 4 rfl) ?_
        refine lv_iconst (v := (0 : Int32)) hx hb dX10_isHolding_29 rfl ?_
        refine lv_sipush (v := (200 : Int32)) hx hb dX10_isHolding_30 (by decide +kernel) ?_
        obtain ⟨r7, μ7, h1, h⟩ := ob2_some h
        refine x_callS C0 (rest := []) (c_X10_in l g x4 (0 : Int32) (200 : Int32) μ5 h1) q4_207 q4_205 q4_206 q1_11 hd_X10_in ⟨rfl, rfl⟩ ⟨Nat.le_of_ble_eq_true rfl, Nat.le_of_ble_eq_true rfl⟩ hP hS hl.1 rfl rfl (Nat.le_of_ble_eq_true rfl) dX10_isHolding_33 (fun H locs hP hS => ?_)
        refine W.eq (g2 := F0 m 36 ls [.int r7]) rfl ?_
        refine lv_if_eq (tgt := 60) hx hb dX10_isHolding_36 (by decide) (fun c8 => ?_) (fun c8 => ?_)
        · rw [if_pos c8] at h
          refine lv_iconst (v := (0 : Int32)) hx hb dX10_isHolding_60 rfl ?_
          obtain ⟨rfl, rfl⟩ := some2 h
          exact x_zret C0 hP hS (by decide) dX10_isHolding_61
        · rw [if_neg c8] at h
          refine lv_aload_n hx hb dX10_isHolding_39 rfl (lv_at hl 0 rfl) ?_
          refine x_get C0 hP inu10 (k := 0) cm_0 (by decide) rfl 0 (by decide) q4_134 rfl (v := .ref (g.2.2.1 + 1)) rfl dX10_isHolding_40 ?_
          refine lv_iconst (v := (0 : Int32)) hx hb dX10_isHolding_43 rfl ?_
          refine x_iald C0 hP (k := 1) cm_1 (j := 0) (by decide) rfl dX10_isHolding_44 ?_
          refine lv_bipush (v := (24 : Int32)) hx hb dX10_isHolding_45 (by decide +kernel) ?_
          refine lv_iload_n hx hb dX10_isHolding_47 rfl (lv_at hl 3 rfl) ?_
          refine lv_imul hx hb dX10_isHolding_48 ?_
          refine lv_iadd hx hb dX10_isHolding_49 ?_
          refine lv_sipush (v := (9000 : Int32)) hx hb dX10_isHolding_50 (by decide +kernel) ?_
          refine lv_icmp_gt (tgt := 60) hx hb dX10_isHolding_53 (by decide) (fun c9 => ?_) (fun c9 => ?_)
          · rw [if_pos c9] at h
            refine lv_iconst (v := (0 : Int32)) hx hb dX10_isHolding_60 rfl ?_
            obtain ⟨rfl, rfl⟩ := some2 h
            exact x_zret C0 hP hS (by decide) dX10_isHolding_61
          · rw [if_neg c9] at h
            refine lv_iconst (v := (1 : Int32)) hx hb dX10_isHolding_56 rfl ?_
            refine lv_goto (tgt := 61) hx hb dX10_isHolding_57 (by decide) ?_
            obtain ⟨rfl, rfl⟩ := some2 h
            exact x_zret C0 hP hS (by decide) dX10_isHolding_61
def X10_hold (x1 : Int32) (x2 : Int32) (x3 : Int32) (x4 : Int32) (μ : Mem) : Option (Int32 × Mem) :=
  ob2 (X10_isHolding x1 x2 x3 x4 μ) fun r1 μ1 => (if r1 = (0 : Int32) then ob2 (X10_finding (1 : Int32) μ1) fun r7 μ7 => some (r7, μ7) else gd (inB x2 4) ((if (μ1 8 x2.toNatClampNeg) = (0 : Int32) then ob2 (X10_finding (2 : Int32) μ1) fun r6 μ6 => some (r6, μ6) else ob2 (X10_holds x1 x2 x3 x4 μ1) fun r5 μ5 => some (r5, μ5))))
set_option maxRecDepth 100000 in
set_option maxHeartbeats 4000000 in
theorem c_X10_hold (l : Launch) (g : Gx) (x1 : Int32) (x2 : Int32) (x3 : Int32) (x4 : Int32) (μ : Mem) {r : Int32} {ν : Mem} (h : X10_hold x1 x2 x3 x4 μ = some (r, ν)) : Ct Lm g l yX10_hold cX10_hold 5 (some .int) { frames := 71, cells := 0, slots := 0, locals := 1619 } [.ref (g.2.2.1 + 0), .int x1, .int x2, .int x3, .int x4] μ (some (.int r)) ν := by
  refine x_met (lv := [(0, .ref (g.2.2.1 + 0)), (1, .int x1), (2, .int x2), (3, .int x3), (4, .int x4)]) rfl (Nat.le_of_ble_eq_true rfl) rfl ?_
  intro p e s m below meth c C0 hP ls hl
  generalize ([.ref (g.2.2.1 + 0), .int x1, .int x2, .int x3, .int x4] : List Value).toArray = args at C0 ⊢
  have C0 : Cx Lm g p s m args meth c cX10_hold 5 (some .int) RX10 := C0
  have hS : va_S (Ax Lm g) s.heap s.heap [] := va_S.rf
  obtain ⟨hx, hb, hr, hml, hown, hts, hlocks, hK⟩ := id C0
  unfold X10_hold at h
  skip
  refine lv_aload_n hx hb dX10_hold_0 rfl (lv_at hl 0 rfl) ?_
  refine lv_iload_n hx hb dX10_hold_1 rfl (lv_at hl 1 rfl) ?_
  refine lv_iload_n hx hb dX10_hold_2 rfl (lv_at hl 2 rfl) ?_
  refine lv_iload_n hx hb dX10_hold_3 rfl (lv_at hl 3 rfl) ?_
  refine lv_iload hx hb dX10_hold_4 (lv_at hl 4 rfl) ?_
  obtain ⟨r1, μ1, h1, h⟩ := ob2_some h
  refine x_callV C0 (rest := []) (q := (RX10, TX10, 22)) (c_X10_isHolding l g x1 x2 x3 x4 μ h1) q5_171 q5_168 q5_170 r3_15 q1_11 hd_X10_isHolding ⟨rfl, rfl⟩ ⟨Nat.le_of_ble_eq_true rfl, Nat.le_of_ble_eq_true rfl⟩ cm_0 (by decide) rfl hP hS hl.1 rfl rfl (Nat.le_of_ble_eq_true rfl) dX10_hold_6 (fun H locs hP hS => ?_)
  refine W.eq (g2 := F0 m 9 ls [.int r1]) rfl ?_
  refine lv_if_ne (tgt := 18) hx hb dX10_hold_9 (by decide) (fun c2 => ?_) (fun c2 => ?_)
  · rw [if_neg c2] at h
    refine lv_aload_n hx hb dX10_hold_18 rfl (lv_at hl 0 rfl) ?_
    refine x_get C0 hP inu10 (k := 0) cm_0 (by decide) rfl 18 (by decide) q4_152 rfl (v := .ref (g.2.2.1 + 8)) rfl dX10_hold_19 ?_
    refine lv_iload_n hx hb dX10_hold_22 rfl (lv_at hl 2 rfl) ?_
    obtain ⟨z3, h⟩ := gd_some h
    refine x_iald C0 hP (k := 8) cm_8 (j := x2.toNatClampNeg) z3 rfl dX10_hold_23 ?_
    refine lv_if_ne (tgt := 35) hx hb dX10_hold_24 (by decide) (fun c4 => ?_) (fun c4 => ?_)
    · rw [if_neg c4] at h
      refine lv_aload_n hx hb dX10_hold_35 rfl (lv_at hl 0 rfl) ?_
      refine lv_iload_n hx hb dX10_hold_36 rfl (lv_at hl 1 rfl) ?_
      refine lv_iload_n hx hb dX10_hold_37 rfl (lv_at hl 2 rfl) ?_
      refine lv_iload_n hx hb dX10_hold_38 rfl (lv_at hl 3 rfl) ?_
      refine lv_iload hx hb dX10_hold_39 (lv_at hl 4 rfl) ?_
      obtain ⟨r5, μ5, h1, h⟩ := ob2_some h
      refine x_callV C0 (rest := []) (q := (RX10, TX10, 22)) (c_X10_holds l g x1 x2 x3 x4 μ1 h1) q5_175 q5_172 q5_174 r4_0 q1_11 hd_X10_holds ⟨rfl, rfl⟩ ⟨Nat.le_of_ble_eq_true rfl, Nat.le_of_ble_eq_true rfl⟩ cm_0 (by decide) rfl hP hS hl.1 rfl rfl (Nat.le_of_ble_eq_true rfl) dX10_hold_41 (fun H locs hP hS => ?_)
      refine W.eq (g2 := F0 m 44 ls [.int r5]) rfl ?_
      obtain ⟨rfl, rfl⟩ := some2 h
      exact x_iret C0 hP hS dX10_hold_44
    · rw [if_pos c4] at h
      refine lv_aload_n hx hb dX10_hold_27 rfl (lv_at hl 0 rfl) ?_
      refine lv_iconst (v := (2 : Int32)) hx hb dX10_hold_28 rfl ?_
      obtain ⟨r6, μ6, h1, h⟩ := ob2_some h
      refine x_callV C0 (rest := []) (q := (RX10, TX10, 22)) (c_X10_finding l g (2 : Int32) μ1 h1) q4_214 q4_211 q4_213 r2_5 q1_11 hd_X10_finding ⟨rfl, rfl⟩ ⟨Nat.le_of_ble_eq_true rfl, Nat.le_of_ble_eq_true rfl⟩ cm_0 (by decide) rfl hP hS hl.1 rfl rfl (Nat.le_of_ble_eq_true rfl) dX10_hold_29 (fun H locs hP hS => ?_)
      refine W.eq (g2 := F0 m 32 ls [.int r6]) rfl ?_
      refine lv_goto (tgt := 44) hx hb dX10_hold_32 (by decide) ?_
      obtain ⟨rfl, rfl⟩ := some2 h
      exact x_iret C0 hP hS dX10_hold_44
  · rw [if_pos c2] at h
    refine lv_aload_n hx hb dX10_hold_12 rfl (lv_at hl 0 rfl) ?_
    refine lv_iconst (v := (1 : Int32)) hx hb dX10_hold_13 rfl ?_
    obtain ⟨r7, μ7, h1, h⟩ := ob2_some h
    refine x_callV C0 (rest := []) (q := (RX10, TX10, 22)) (c_X10_finding l g (1 : Int32) μ1 h1) q4_214 q4_211 q4_213 r2_5 q1_11 hd_X10_finding ⟨rfl, rfl⟩ ⟨Nat.le_of_ble_eq_true rfl, Nat.le_of_ble_eq_true rfl⟩ cm_0 (by decide) rfl hP hS hl.1 rfl rfl (Nat.le_of_ble_eq_true rfl) dX10_hold_14 (fun H locs hP hS => ?_)
    refine W.eq (g2 := F0 m 17 ls [.int r7]) rfl ?_
    obtain ⟨rfl, rfl⟩ := some2 h
    exact x_iret C0 hP hS dX10_hold_17
