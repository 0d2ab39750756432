def X10_single_234 (S : Mem → Option (Int32 × Mem))  (x2 : Int32) (μ : Mem) : Option (Int32 × Mem) :=
  lt (st μ 0 9 ((μ 0 9) - (1 : Int32))) fun μ13 => some (x2, μ13)
set_option maxRecDepth 100000 in
set_option maxHeartbeats 4000000 in
theorem w_X10_single_234 {g : Gx} {p : Program} {l : Launch} {e : Env} {s : State} {m : MethodId} {args : Array Value} {below : List Frame} {meth : Method} {c : Code} (C0 : Cx Lm g p s m args meth c cX10_single 4 (some .int) RX10) {r : Int32} {ν : Mem} (S : Mem → Option (Int32 × Mem)) {F Lo : Nat} (hS0 : ∀  (μ : Mem) (r : Int32) (ν : Mem), S  μ = some (r, ν) → Ct Lm g l yX10_single cX10_single 4 (some .int) { frames := F, cells := 0, slots := 0, locals := Lo } [.ref (g.2.2.1 + 0)] μ (some (.int r)) ν)  (x2 : Int32) (μ : Mem) (H : Heap) (locs : List Loc) (ls : Array Slot) (hP : Px Lm g μ H) (hS : va_S (Ax Lm g) s.heap H locs) (hl : lv_has ls 4 [(0, .ref (g.2.2.1 + 0)), (2, .int x2)]) (h : X10_single_234 S  x2 μ = some (r, ν)) : W p l e { frames := F + 6, cells := 0, slots := 0, locals := Lo + 136 } s m args below meth c H locs 0 0 (MQ below (Qx Lm g (some (.int r)) ν) args s 0 0 (Ax Lm g)) (F0 m 234 ls []) := by
  obtain ⟨hx, hb, hr, hml, hown, hts, hlocks, hK⟩ := id C0
  unfold X10_single_234 at h
  refine lv_aload_n hx hb dX10_single_234 rfl (lv_at hl 0 rfl) ?_
  refine lv_dup hx hb dX10_single_235 rfl ?_
  refine x_get C0 hP inu10 (k := 0) cm_0 (by decide) rfl 9 (by decide) q4_143 rfl (v := .int (μ 0 9)) rfl dX10_single_236 ?_
  refine lv_iconst (v := (1 : Int32)) hx hb dX10_single_239 rfl ?_
  refine lv_isub hx hb dX10_single_240 ?_
  obtain ⟨μ13, e13, h⟩ := lt_some h
  refine x_put C0 hP hS inu10 tyX10 tyX10_ok nmX10 (k := 0) cm_0 (by decide) rfl 9 (by decide) q4_143 rfl rfl (v := .int ((μ 0 9) - (1 : Int32))) (x := ((μ 0 9) - (1 : Int32))) rfl rfl (Nat.le_of_ble_eq_true rfl) (os_10_9 _ _ _ _) dX10_single_241 (fun H locs hP hS => ?_)
  rw [← e13] at hP
  refine lv_iload_n hx hb dX10_single_244 rfl (lv_at hl 1 rfl) ?_
  obtain ⟨rfl, rfl⟩ := some2 h
  exact x_iret C0 hP hS dX10_single_245
def X10_single_213 (S : Mem → Option (Int32 × Mem))  (x1 : Int32) (t0 : Int32) (μ : Mem) : Option (Int32 × Mem) :=
  (if x1 = (40 : Int32) then ob2 (X10_eats (41 : Int32) μ) fun r14 μ14 => (if r14 = (0 : Int32) then lt (st μ14 0 10 (1 : Int32)) fun μ16 => X10_single_234 S t0 μ16 else X10_single_234 S t0 μ14) else X10_single_234 S t0 μ)
set_option maxRecDepth 100000 in
set_option maxHeartbeats 4000000 in
theorem w_X10_single_213 {g : Gx} {p : Program} {l : Launch} {e : Env} {s : State} {m : MethodId} {args : Array Value} {below : List Frame} {meth : Method} {c : Code} (C0 : Cx Lm g p s m args meth c cX10_single 4 (some .int) RX10) {r : Int32} {ν : Mem} (S : Mem → Option (Int32 × Mem)) {F Lo : Nat} (hS0 : ∀  (μ : Mem) (r : Int32) (ν : Mem), S  μ = some (r, ν) → Ct Lm g l yX10_single cX10_single 4 (some .int) { frames := F, cells := 0, slots := 0, locals := Lo } [.ref (g.2.2.1 + 0)] μ (some (.int r)) ν)  (x1 : Int32) (t0 : Int32) (μ : Mem) (H : Heap) (locs : List Loc) (ls : Array Slot) (hP : Px Lm g μ H) (hS : va_S (Ax Lm g) s.heap H locs) (hl : lv_has ls 4 [(0, .ref (g.2.2.1 + 0)), (1, .int x1)]) (h : X10_single_213 S  x1 t0 μ = some (r, ν)) : W p l e { frames := F + 6, cells := 0, slots := 0, locals := Lo + 136 } s m args below meth c H locs 0 0 (MQ below (Qx Lm g (some (.int r)) ν) args s 0 0 (Ax Lm g)) (F0 m 213 ls [.int t0]) := by
  obtain ⟨hx, hb, hr, hml, hown, hts, hlocks, hK⟩ := id C0
  unfold X10_single_213 at h
  refine lv_istore_n (lv' := [(2, .int t0), (0, .ref (g.2.2.1 + 0)), (1, .int x1)]) hx hb dX10_single_213 rfl hl (by decide) rfl (fun ls hl => ?_)
  refine lv_iload_n hx hb dX10_single_214 rfl (lv_at hl 2 rfl) ?_
  refine lv_bipush (v := (40 : Int32)) hx hb dX10_single_215 (by decide +kernel) ?_
  refine lv_icmp_ne (tgt := 234) hx hb dX10_single_217 (by decide) (fun c12 => ?_) (fun c12 => ?_)
  · rw [if_neg c12] at h
    exact w_X10_single_234 C0 S hS0  t0 μ _ _ _ hP hS (lv_sub hl [1, 0] rfl) h
  · rw [if_pos c12] at h
    refine lv_aload_n hx hb dX10_single_220 rfl (lv_at hl 1 rfl) ?_
    refine lv_bipush (v := (41 : Int32)) hx hb dX10_single_221 (by decide +kernel) ?_
    obtain ⟨r14, μ14, h1, h⟩ := ob2_some h
    refine x_callV C0 (rest := []) (q := (RX10, TX10, 22)) (c_X10_eats l g (41 : Int32) μ h1) q5_76 q5_73 q5_75 r3_7 q1_11 hd_X10_eats ⟨rfl, rfl⟩ ⟨by dsimp only; omega, by dsimp only; omega⟩ cm_0 (by decide) rfl hP hS hl.1 rfl rfl (Nat.le_of_ble_eq_true rfl) dX10_single_223 (fun H locs hP hS => ?_)
    refine W.eq (g2 := F0 m 226 ls [.int r14]) rfl ?_
    refine lv_if_ne (tgt := 234) hx hb dX10_single_226 (by decide) (fun c15 => ?_) (fun c15 => ?_)
    · rw [if_neg c15] at h
      exact w_X10_single_234 C0 S hS0  t0 μ14 _ _ _ hP hS (lv_sub hl [1, 0] rfl) h
    · rw [if_pos c15] at h
      refine lv_aload_n hx hb dX10_single_229 rfl (lv_at hl 1 rfl) ?_
      refine lv_iconst (v := (1 : Int32)) hx hb dX10_single_230 rfl ?_
      obtain ⟨μ16, e16, h⟩ := lt_some h
      refine x_put C0 hP hS inu10 tyX10 tyX10_ok nmX10 (k := 0) cm_0 (by decide) rfl 10 (by decide) q4_144 rfl rfl (v := .int (1 : Int32)) (x := (1 : Int32)) rfl rfl (Nat.le_of_ble_eq_true rfl) (os_10_10 _ _ _ _) dX10_single_231 (fun H locs hP hS => ?_)
      rw [← e16] at hP
      exact w_X10_single_234 C0 S hS0  t0 μ16 _ _ _ hP hS (lv_sub hl [1, 0] rfl) h
def X10_single_161 (S : Mem → Option (Int32 × Mem))   (μ : Mem) : Option (Int32 × Mem) :=
  lt (st μ 0 10 (1 : Int32)) fun μ18 => some ((0 : Int32), μ18)
set_option maxRecDepth 100000 in
set_option maxHeartbeats 4000000 in
theorem w_X10_single_161 {g : Gx} {p : Program} {l : Launch} {e : Env} {s : State} {m : MethodId} {args : Array Value} {below : List Frame} {meth : Method} {c : Code} (C0 : Cx Lm g p s m args meth c cX10_single 4 (some .int) RX10) {r : Int32} {ν : Mem} (S : Mem → Option (Int32 × Mem)) {F Lo : Nat} (hS0 : ∀  (μ : Mem) (r : Int32) (ν : Mem), S  μ = some (r, ν) → Ct Lm g l yX10_single cX10_single 4 (some .int) { frames := F, cells := 0, slots := 0, locals := Lo } [.ref (g.2.2.1 + 0)] μ (some (.int r)) ν)   (μ : Mem) (H : Heap) (locs : List Loc) (ls : Array Slot) (hP : Px Lm g μ H) (hS : va_S (Ax Lm g) s.heap H locs) (hl : lv_has ls 4 [(0, .ref (g.2.2.1 + 0))]) (h : X10_single_161 S   μ = some (r, ν)) : W p l e { frames := F + 6, cells := 0, slots := 0, locals := Lo + 136 } s m args below meth c H locs 0 0 (MQ below (Qx Lm g (some (.int r)) ν) args s 0 0 (Ax Lm g)) (F0 m 161 ls []) := by
  obtain ⟨hx, hb, hr, hml, hown, hts, hlocks, hK⟩ := id C0
  unfold X10_single_161 at h
  refine lv_aload_n hx hb dX10_single_161 rfl (lv_at hl 0 rfl) ?_
  refine lv_iconst (v := (1 : Int32)) hx hb dX10_single_162 rfl ?_
  obtain ⟨μ18, e18, h⟩ := lt_some h
  refine x_put C0 hP hS inu10 tyX10 tyX10_ok nmX10 (k := 0) cm_0 (by decide) rfl 10 (by decide) q4_144 rfl rfl (v := .int (1 : Int32)) (x := (1 : Int32)) rfl rfl (Nat.le_of_ble_eq_true rfl) (os_10_10 _ _ _ _) dX10_single_163 (fun H locs hP hS => ?_)
  rw [← e18] at hP
  refine lv_iconst (v := (0 : Int32)) hx hb dX10_single_166 rfl ?_
  obtain ⟨rfl, rfl⟩ := some2 h
  exact x_iret C0 hP hS dX10_single_167
def X10_single_153 (S : Mem → Option (Int32 × Mem))  (x1 : Int32) (μ : Mem) : Option (Int32 × Mem) :=
  (if (μ 0 9) = (5 : Int32) then X10_single_161 S μ else lt (st μ 0 8 ((μ 0 8) + (1 : Int32))) fun μ7 => lt (st μ7 0 9 ((μ7 0 9) + (1 : Int32))) fun μ8 => (if x1 = (40 : Int32) then ob2 (X10_either S  μ8) fun r17 μ17 => X10_single_213 S x1 r17 μ17 else ob2 (S  μ8) fun r10 μ10 => (if r10 = (0 : Int32) then X10_single_213 S x1 (1 : Int32) μ10 else X10_single_213 S x1 (0 : Int32) μ10)))
set_option maxRecDepth 100000 in
set_option maxHeartbeats 4000000 in
theorem w_X10_single_153 {g : Gx} {p : Program} {l : Launch} {e : Env} {s : State} {m : MethodId} {args : Array Value} {below : List Frame} {meth : Method} {c : Code} (C0 : Cx Lm g p s m args meth c cX10_single 4 (some .int) RX10) {r : Int32} {ν : Mem} (S : Mem → Option (Int32 × Mem)) {F Lo : Nat} (hS0 : ∀  (μ : Mem) (r : Int32) (ν : Mem), S  μ = some (r, ν) → Ct Lm g l yX10_single cX10_single 4 (some .int) { frames := F, cells := 0, slots := 0, locals := Lo } [.ref (g.2.2.1 + 0)] μ (some (.int r)) ν)  (x1 : Int32) (μ : Mem) (H : Heap) (locs : List Loc) (ls : Array Slot) (hP : Px Lm g μ H) (hS : va_S (Ax Lm g) s.heap H locs) (hl : lv_has ls 4 [(0, .ref (g.2.2.1 + 0)), (1, .int x1)]) (h : X10_single_153 S  x1 μ = some (r, ν)) : W p l e { frames := F + 6, cells := 0, slots := 0, locals := Lo + 136 } s m args below meth c H locs 0 0 (MQ below (Qx Lm g (some (.int r)) ν) args s 0 0 (Ax Lm g)) (F0 m 153 ls []) := by
  obtain ⟨hx, hb, hr, hml, hown, hts, hlocks, hK⟩ := id C0
  unfold X10_single_153 at h
  refine lv_aload_n hx hb dX10_single_153 rfl (lv_at hl 0 rfl) ?_
  refine x_get C0 hP inu10 (k := 0) cm_0 (by decide) rfl 9 (by decide) q4_143 rfl (v := .int (μ 0 9)) rfl dX10_single_154 ?_
  refine lv_iconst (v := (5 : Int32)) hx hb dX10_single_157 rfl ?_
  refine lv_icmp_ne (tgt := 168) hx hb dX10_single_158 (by decide) (fun c6 => ?_) (fun c6 => ?_)
  · rw [if_neg c6] at h
    refine lv_aload_n hx hb dX10_single_168 rfl (lv_at hl 0 rfl) ?_
    refine lv_dup hx hb dX10_single_169 rfl ?_
    refine x_get C0 hP inu10 (k := 0) cm_0 (by decide) rfl 8 (by decide) q4_142 rfl (v := .int (μ 0 8)) rfl dX10_single_170 ?_
    refine lv_iconst (v := (1 : Int32)) hx hb dX10_single_173 rfl ?_
    refine lv_iadd hx hb dX10_single_174 ?_
    obtain ⟨μ7, e7, h⟩ := lt_some h
    refine x_put C0 hP hS inu10 tyX10 tyX10_ok nmX10 (k := 0) cm_0 (by decide) rfl 8 (by decide) q4_142 rfl rfl (v := .int ((μ 0 8) + (1 : Int32))) (x := ((μ 0 8) + (1 : Int32))) rfl rfl (Nat.le_of_ble_eq_true rfl) (os_10_8 _ _ _ _) dX10_single_175 (fun H locs hP hS => ?_)
    rw [← e7] at hP
    refine lv_aload_n hx hb dX10_single_178 rfl (lv_at hl 0 rfl) ?_
    refine lv_dup hx hb dX10_single_179 rfl ?_
    refine x_get C0 hP inu10 (k := 0) cm_0 (by decide) rfl 9 (by decide) q4_143 rfl (v := .int (μ7 0 9)) rfl dX10_single_180 ?_
    refine lv_iconst (v := (1 : Int32)) hx hb dX10_single_183 rfl ?_
    refine lv_iadd hx hb dX10_single_184 ?_
    obtain ⟨μ8, e8, h⟩ := lt_some h
    refine x_put C0 hP hS inu10 tyX10 tyX10_ok nmX10 (k := 0) cm_0 (by decide) rfl 9 (by decide) q4_143 rfl rfl (v := .int ((μ7 0 9) + (1 : Int32))) (x := ((μ7 0 9) + (1 : Int32))) rfl rfl (Nat.le_of_ble_eq_true rfl) (os_10_9 _ _ _ _) dX10_single_185 (fun H locs hP hS => ?_)
    rw [← e8] at hP
    refine lv_iload_n hx hb dX10_single_188 rfl (lv_at hl 1 rfl) ?_
    refine lv_bipush (v := (40 : Int32)) hx hb dX10_single_189 (by decide +kernel) ?_
    refine lv_icmp_ne (tgt := 201) hx hb dX10_single_191 (by decide) (fun c9 => ?_) (fun c9 => ?_)
    · rw [if_neg c9] at h
      refine lv_aload_n hx hb dX10_single_201 rfl (lv_at hl 0 rfl) ?_
      obtain ⟨r10, μ10, h1, h⟩ := ob2_some h
      refine x_callV C0 (rest := []) (q := (RX10, TX10, 22)) (hS0 μ8 _ _ h1) q5_68 q5_65 q5_67 r3_5 q1_11 hd_X10_single ⟨rfl, rfl⟩ ⟨by dsimp only; omega, by dsimp only; omega⟩ cm_0 (by decide) rfl hP hS hl.1 rfl rfl (Nat.le_of_ble_eq_true rfl) dX10_single_202 (fun H locs hP hS => ?_)
      refine W.eq (g2 := F0 m 205 ls [.int r10]) rfl ?_
      refine lv_if_ne (tgt := 212) hx hb dX10_single_205 (by decide) (fun c11 => ?_) (fun c11 => ?_)
      · rw [if_neg c11] at h
        refine lv_iconst (v := (0 : Int32)) hx hb dX10_single_212 rfl ?_
        exact w_X10_single_213 C0 S hS0  x1 (0 : Int32) μ10 _ _ _ hP hS (lv_sub hl [0, 1] rfl) h
      · rw [if_pos c11] at h
        refine lv_iconst (v := (1 : Int32)) hx hb dX10_single_208 rfl ?_
        refine lv_goto (tgt := 213) hx hb dX10_single_209 (by decide) ?_
        exact w_X10_single_213 C0 S hS0  x1 (1 : Int32) μ10 _ _ _ hP hS (lv_sub hl [0, 1] rfl) h
    · rw [if_pos c9] at h
      refine lv_aload_n hx hb dX10_single_194 rfl (lv_at hl 0 rfl) ?_
      obtain ⟨r17, μ17, h1, h⟩ := ob2_some h
      refine x_callV C0 (rest := []) (q := (RX10, TX10, 22)) (c_X10_either l g S hS0 μ8 h1) q5_48 q5_45 q5_47 r3_0 q1_11 hd_X10_either ⟨rfl, rfl⟩ ⟨by dsimp only; omega, by dsimp only; omega⟩ cm_0 (by decide) rfl hP hS hl.1 rfl rfl (Nat.le_of_ble_eq_true rfl) dX10_single_195 (fun H locs hP hS => ?_)
      refine W.eq (g2 := F0 m 198 ls [.int r17]) rfl ?_
      refine lv_goto (tgt := 213) hx hb dX10_single_198 (by decide) ?_
      exact w_X10_single_213 C0 S hS0  x1 r17 μ17 _ _ _ hP hS (lv_sub hl [0, 1] rfl) h
  · rw [if_pos c6] at h
    exact w_X10_single_161 C0 S hS0   μ _ _ _ hP hS (lv_sub hl [0] rfl) h
def X10_single_102 (S : Mem → Option (Int32 × Mem))  : Nat → Int32 → Int32 → Mem → Option (Int32 × Mem)
  | 0, _, _, _ => none
  | n + 1, x1, x2, μ => (if (7 : Int32) ≤ x2 then (if x1 = (33 : Int32) then X10_single_153 S x1 μ else (if x1 = (40 : Int32) then X10_single_153 S x1 μ else X10_single_161 S μ)) else gd (inB x2 7) ((if x1 = (μ 6 x2.toNatClampNeg) then lt (st μ 0 8 ((μ 0 8) + (1 : Int32))) fun μ22 => gd (inB x2 7) (some ((μ22 5 x2.toNatClampNeg), μ22)) else (X10_single_102 S n) x1 (x2 + (1 : Int32)) μ)))
set_option maxRecDepth 100000 in
set_option maxHeartbeats 4000000 in
theorem w_X10_single_102 {g : Gx} {p : Program} {l : Launch} {e : Env} {s : State} {m : MethodId} {args : Array Value} {below : List Frame} {meth : Method} {c : Code} (C0 : Cx Lm g p s m args meth c cX10_single 4 (some .int) RX10) {r : Int32} {ν : Mem} (S : Mem → Option (Int32 × Mem)) {F Lo : Nat} (hS0 : ∀  (μ : Mem) (r : Int32) (ν : Mem), S  μ = some (r, ν) → Ct Lm g l yX10_single cX10_single 4 (some .int) { frames := F, cells := 0, slots := 0, locals := Lo } [.ref (g.2.2.1 + 0)] μ (some (.int r)) ν)  (n : Nat) : ∀ (x1 : Int32) (x2 : Int32) (μ : Mem) (H : Heap) (locs : List Loc) (ls : Array Slot), Px Lm g μ H → va_S (Ax Lm g) s.heap H locs → lv_has ls 4 [(0, .ref (g.2.2.1 + 0)), (1, .int x1), (2, .int x2)] → X10_single_102 S  n x1 x2 μ = some (r, ν) → W p l e { frames := F + 6, cells := 0, slots := 0, locals := Lo + 136 } s m args below meth c H locs 0 0 (MQ below (Qx Lm g (some (.int r)) ν) args s 0 0 (Ax Lm g)) (F0 m 102 ls []) := by
  obtain ⟨hx, hb, hr, hml, hown, hts, hlocks, hK⟩ := id C0
  induction n with
  | zero =>
    intro x1 x2 μ H locs ls hP hS hl h
    have h : (none : Option (Int32 × Mem)) = some (r, ν) := h
    cases h
  | succ n ih =>
    intro x1 x2 μ H locs ls hP hS hl h
    rw [X10_single_102.eq_2] at h
    refine lv_iload_n hx hb dX10_single_102 rfl (lv_at hl 2 rfl) ?_
    refine lv_bipush (v := (7 : Int32)) hx hb dX10_single_103 (by decide +kernel) ?_
    refine lv_icmp_ge (tgt := 141) hx hb dX10_single_105 (by decide) (fun c4 => ?_) (fun c4 => ?_)
    · rw [if_pos c4] at h
      refine lv_iload_n hx hb dX10_single_141 rfl (lv_at hl 1 rfl) ?_
      refine lv_bipush (v := (33 : Int32)) hx hb dX10_single_142 (by decide +kernel) ?_
      refine lv_icmp_eq (tgt := 153) hx hb dX10_single_144 (by decide) (fun c5 => ?_) (fun c5 => ?_)
      · rw [if_pos c5] at h
        exact w_X10_single_153 C0 S hS0  x1 μ _ _ _ hP hS (lv_sub hl [0, 1] rfl) h
      · rw [if_neg c5] at h
        refine lv_iload_n hx hb dX10_single_147 rfl (lv_at hl 1 rfl) ?_
        refine lv_bipush (v := (40 : Int32)) hx hb dX10_single_148 (by decide +kernel) ?_
        refine lv_icmp_ne (tgt := 161) hx hb dX10_single_150 (by decide) (fun c19 => ?_) (fun c19 => ?_)
        · rw [if_neg c19] at h
          exact w_X10_single_161 C0 S hS0   μ _ _ _ hP hS (lv_sub hl [0] rfl) h
        · rw [if_pos c19] at h
          exact w_X10_single_153 C0 S hS0  x1 μ _ _ _ hP hS (lv_sub hl [0, 1] rfl) h
    · rw [if_neg c4] at h
      refine lv_iload_n hx hb dX10_single_108 rfl (lv_at hl 1 rfl) ?_
      refine lv_aload_n hx hb dX10_single_109 rfl (lv_at hl 0 rfl) ?_
      refine x_get C0 hP inu10 (k := 0) cm_0 (by decide) rfl 12 (by decide) q4_146 rfl (v := .ref (g.2.2.1 + 6)) rfl dX10_single_110 ?_
      refine lv_iload_n hx hb dX10_single_113 rfl (lv_at hl 2 rfl) ?_
      obtain ⟨z20, h⟩ := gd_some h
      refine x_iald C0 hP (k := 6) cm_6 (j := x2.toNatClampNeg) z20 rfl dX10_single_114 ?_
      refine lv_icmp_ne (tgt := 135) hx hb dX10_single_115 (by decide) (fun c21 => ?_) (fun c21 => ?_)
      · rw [if_neg c21] at h
        refine lv_iinc (v := (x2 + (1 : Int32))) (lv' := [(2, .int (x2 + (1 : Int32))), (0, .ref (g.2.2.1 + 0)), (1, .int x1)]) hx hb dX10_single_135 hl (k := 2) rfl rfl (by decide) rfl (fun ls hl => ?_)
        refine lv_goto (tgt := 102) hx hb dX10_single_138 (by decide) ?_
        exact ih x1 (x2 + (1 : Int32)) μ _ _ _ hP hS (lv_sub hl [1, 2, 0] rfl) h
      · rw [if_pos c21] at h
        refine lv_aload_n hx hb dX10_single_118 rfl (lv_at hl 0 rfl) ?_
        refine lv_dup hx hb dX10_single_119 rfl ?_
        refine x_get C0 hP inu10 (k := 0) cm_0 (by decide) rfl 8 (by decide) q4_142 rfl (v := .int (μ 0 8)) rfl dX10_single_120 ?_
        refine lv_iconst (v := (1 : Int32)) hx hb dX10_single_123 rfl ?_
        refine lv_iadd hx hb dX10_single_124 ?_
        obtain ⟨μ22, e22, h⟩ := lt_some h
        refine x_put C0 hP hS inu10 tyX10 tyX10_ok nmX10 (k := 0) cm_0 (by decide) rfl 8 (by decide) q4_142 rfl rfl (v := .int ((μ 0 8) + (1 : Int32))) (x := ((μ 0 8) + (1 : Int32))) rfl rfl (Nat.le_of_ble_eq_true rfl) (os_10_8 _ _ _ _) dX10_single_125 (fun H locs hP hS => ?_)
        rw [← e22] at hP
        refine lv_aload_n hx hb dX10_single_128 rfl (lv_at hl 0 rfl) ?_
        refine x_get C0 hP inu10 (k := 0) cm_0 (by decide) rfl 11 (by decide) q4_145 rfl (v := .ref (g.2.2.1 + 5)) rfl dX10_single_129 ?_
        refine lv_iload_n hx hb dX10_single_132 rfl (lv_at hl 2 rfl) ?_
        obtain ⟨z23, h⟩ := gd_some h
        refine x_iald C0 hP (k := 5) cm_5 (j := x2.toNatClampNeg) z23 rfl dX10_single_133 ?_
        obtain ⟨rfl, rfl⟩ := some2 h
        exact x_iret C0 hP hS dX10_single_134
def X10_single_95 (S : Mem → Option (Int32 × Mem))  (x2 : Int32) (t1 : Int32) (μ : Mem) : Option (Int32 × Mem) :=
  gd (t1 = 0 ∨ t1 = 1) (lt (st μ 0 10 t1) fun μ27 => some (x2, μ27))
set_option maxRecDepth 100000 in
set_option maxHeartbeats 4000000 in
theorem w_X10_single_95 {g : Gx} {p : Program} {l : Launch} {e : Env} {s : State} {m : MethodId} {args : Array Value} {below : List Frame} {meth : Method} {c : Code} (C0 : Cx Lm g p s m args meth c cX10_single 4 (some .int) RX10) {r : Int32} {ν : Mem} (S : Mem → Option (Int32 × Mem)) {F Lo : Nat} (hS0 : ∀  (μ : Mem) (r : Int32) (ν : Mem), S  μ = some (r, ν) → Ct Lm g l yX10_single cX10_single 4 (some .int) { frames := F, cells := 0, slots := 0, locals := Lo } [.ref (g.2.2.1 + 0)] μ (some (.int r)) ν)  (x2 : Int32) (t1 : Int32) (μ : Mem) (H : Heap) (locs : List Loc) (ls : Array Slot) (hP : Px Lm g μ H) (hS : va_S (Ax Lm g) s.heap H locs) (hl : lv_has ls 4 [(2, .int x2)]) (h : X10_single_95 S  x2 t1 μ = some (r, ν)) : W p l e { frames := F + 6, cells := 0, slots := 0, locals := Lo + 136 } s m args below meth c H locs 0 0 (MQ below (Qx Lm g (some (.int r)) ν) args s 0 0 (Ax Lm g)) (F0 m 95 ls [.int t1, .ref (g.2.2.1 + 0)]) := by
  obtain ⟨hx, hb, hr, hml, hown, hts, hlocks, hK⟩ := id C0
  unfold X10_single_95 at h
  obtain ⟨z26, h⟩ := gd_some h
  obtain ⟨μ27, e27, h⟩ := lt_some h
  refine x_put C0 hP hS inu10 tyX10 tyX10_ok nmX10 (k := 0) cm_0 (by decide) rfl 10 (by decide) q4_144 rfl rfl (v := .int t1) (x := t1) (x_bool z26).1 (x_bool z26).2 (Nat.le_of_ble_eq_true rfl) (os_10_10 _ _ _ _) dX10_single_95 (fun H locs hP hS => ?_)
  rw [← e27] at hP
  refine lv_iload_n hx hb dX10_single_98 rfl (lv_at hl 0 rfl) ?_
  obtain ⟨rfl, rfl⟩ := some2 h
  exact x_iret C0 hP hS dX10_single_99
def X10_single_90 (S : Mem → Option (Int32 × Mem))  (x2 : Int32) (μ : Mem) : Option (Int32 × Mem) :=
  X10_single_95 S x2 (1 : Int32) μ
set_option maxRecDepth 100000 in
set_option maxHeartbeats 4000000 in
theorem w_X10_single_90 {g : Gx} {p : Program} {l : Launch} {e : Env} {s : State} {m : MethodId} {args : Array Value} {below : List Frame} {meth : Method} {c : Code} (C0 : Cx Lm g p s m args meth c cX10_single 4 (some .int) RX10) {r : Int32} {ν : Mem} (S : Mem → Option (Int32 × Mem)) {F Lo : Nat} (hS0 : ∀  (μ : Mem) (r : Int32) (ν : Mem), S  μ = some (r, ν) → Ct Lm g l yX10_single cX10_single 4 (some .int) { frames := F, cells := 0, slots := 0, locals := Lo } [.ref (g.2.2.1 + 0)] μ (some (.int r)) ν)  (x2 : Int32) (μ : Mem) (H : Heap) (locs : List Loc) (ls : Array Slot) (hP : Px Lm g μ H) (hS : va_S (Ax Lm g) s.heap H locs) (hl : lv_has ls 4 [(2, .int x2)]) (h : X10_single_90 S  x2 μ = some (r, ν)) : W p l e { frames := F + 6, cells := 0, slots := 0, locals := Lo + 136 } s m args below meth c H locs 0 0 (MQ below (Qx Lm g (some (.int r)) ν) args s 0 0 (Ax Lm g)) (F0 m 90 ls [.ref (g.2.2.1 + 0)]) := by
  obtain ⟨hx, hb, hr, hml, hown, hts, hlocks, hK⟩ := id C0
  unfold X10_single_90 at h
  refine lv_iconst (v := (1 : Int32)) hx hb dX10_single_90 rfl ?_
  refine lv_goto (tgt := 95) hx hb dX10_single_91 (by decide) ?_
  exact w_X10_single_95 C0 S hS0  x2 (1 : Int32) μ _ _ _ hP hS (lv_sub hl [0] rfl) h
def X10_single_68 (S : Mem → Option (Int32 × Mem))  (x2 : Int32) (μ : Mem) : Option (Int32 × Mem) :=
  (if (μ 0 10) = (0 : Int32) then ob2 (X10_byteAt  μ) fun r28 μ28 => ob2 (X10_in r28 (48 : Int32) (57 : Int32) μ28) fun r29 μ29 => (if r29 = (0 : Int32) then X10_single_95 S x2 (0 : Int32) μ29 else X10_single_90 S x2 μ29) else X10_single_90 S x2 μ)
set_option maxRecDepth 100000 in
set_option maxHeartbeats 4000000 in
theorem w_X10_single_68 {g : Gx} {p : Program} {l : Launch} {e : Env} {s : State} {m : MethodId} {args : Array Value} {below : List Frame} {meth : Method} {c : Code} (C0 : Cx Lm g p s m args meth c cX10_single 4 (some .int) RX10) {r : Int32} {ν : Mem} (S : Mem → Option (Int32 × Mem)) {F Lo : Nat} (hS0 : ∀  (μ : Mem) (r : Int32) (ν : Mem), S  μ = some (r, ν) → Ct Lm g l yX10_single cX10_single 4 (some .int) { frames := F, cells := 0, slots := 0, locals := Lo } [.ref (g.2.2.1 + 0)] μ (some (.int r)) ν)  (x2 : Int32) (μ : Mem) (H : Heap) (locs : List Loc) (ls : Array Slot) (hP : Px Lm g μ H) (hS : va_S (Ax Lm g) s.heap H locs) (hl : lv_has ls 4 [(0, .ref (g.2.2.1 + 0)), (2, .int x2)]) (h : X10_single_68 S  x2 μ = some (r, ν)) : W p l e { frames := F + 6, cells := 0, slots := 0, locals := Lo + 136 } s m args below meth c H locs 0 0 (MQ below (Qx Lm g (some (.int r)) ν) args s 0 0 (Ax Lm g)) (F0 m 68 ls []) := by
  obtain ⟨hx, hb, hr, hml, hown, hts, hlocks, hK⟩ := id C0
  unfold X10_single_68 at h
  refine lv_aload_n hx hb dX10_single_68 rfl (lv_at hl 0 rfl) ?_
  refine lv_aload_n hx hb dX10_single_69 rfl (lv_at hl 0 rfl) ?_
  refine x_get C0 hP inu10 (k := 0) cm_0 (by decide) rfl 10 (by decide) q4_144 rfl (v := .int (μ 0 10)) rfl dX10_single_70 ?_
  refine lv_if_ne (tgt := 90) hx hb dX10_single_73 (by decide) (fun c25 => ?_) (fun c25 => ?_)
  · rw [if_neg c25] at h
    exact w_X10_single_90 C0 S hS0  x2 μ _ _ _ hP hS (lv_sub hl [1] rfl) h
  · rw [if_pos c25] at h
    refine lv_aload_n hx hb dX10_single_76 rfl (lv_at hl 0 rfl) ?_
    obtain ⟨r28, μ28, h1, h⟩ := ob2_some h
    refine x_callV C0 (rest := [.ref (g.2.2.1 + 0)]) (q := (RX10, TX10, 22)) (c_X10_byteAt l g μ h1) q5_72 q5_69 q5_71 r3_6 q1_11 hd_X10_byteAt ⟨rfl, rfl⟩ ⟨by dsimp only; omega, by dsimp only; omega⟩ cm_0 (by decide) rfl hP hS hl.1 rfl rfl (Nat.le_of_ble_eq_true rfl) dX10_single_77 (fun H locs hP hS => ?_)
    refine W.eq (g2 := F0 m 80 ls [.int r28, .ref (g.2.2.1 + 0)]) rfl ?_
    refine lv_bipush (v := (48 : Int32)) hx hb dX10_single_80 (by decide +kernel) ?_
    refine lv_bipush (v := (57 : Int32)) hx hb dX10_single_82 (by decide +kernel) ?_
    obtain ⟨r29, μ29, h1, h⟩ := ob2_some h
    refine x_callS C0 (rest := [.ref (g.2.2.1 + 0)]) (c_X10_in l g r28 (48 : Int32) (57 : Int32) μ28 h1) q4_207 q4_205 q4_206 q1_11 hd_X10_in ⟨rfl, rfl⟩ ⟨by dsimp only; omega, by dsimp only; omega⟩ hP hS hl.1 rfl rfl (Nat.le_of_ble_eq_true rfl) dX10_single_84 (fun H locs hP hS => ?_)
    refine W.eq (g2 := F0 m 87 ls [.int r29, .ref (g.2.2.1 + 0)]) rfl ?_
    refine lv_if_eq (tgt := 94) hx hb dX10_single_87 (by decide) (fun c30 => ?_) (fun c30 => ?_)
    · rw [if_pos c30] at h
      refine lv_iconst (v := (0 : Int32)) hx hb dX10_single_94 rfl ?_
      exact w_X10_single_95 C0 S hS0  x2 (0 : Int32) μ29 _ _ _ hP hS (lv_sub hl [1] rfl) h
    · rw [if_neg c30] at h
      exact w_X10_single_90 C0 S hS0  x2 μ29 _ _ _ hP hS (lv_sub hl [1] rfl) h
def X10_single_20 (S : Mem → Option (Int32 × Mem))  : Nat → Int32 → Int32 → Mem → Option (Int32 × Mem)
  | 0, _, _, _ => none
  | n + 1, x2, x3, μ => (if (4 : Int32) ≤ x3 then X10_single_68 S x2 μ else ob2 (X10_byteAt  μ) fun r31 μ31 => ob2 (X10_in r31 (48 : Int32) (57 : Int32) μ31) fun r32 μ32 => (if r32 = (0 : Int32) then X10_single_68 S x2 μ32 else ob2 (X10_byteAt  μ32) fun r34 μ34 => lt (st μ34 0 8 ((μ34 0 8) + (1 : Int32))) fun μ35 => (X10_single_20 S n) ((((10 : Int32) * x2) + r34) - (48 : Int32)) (x3 + (1 : Int32)) μ35))
set_option maxRecDepth 100000 in
set_option maxHeartbeats 4000000 in
theorem w_X10_single_20 {g : Gx} {p : Program} {l : Launch} {e : Env} {s : State} {m : MethodId} {args : Array Value} {below : List Frame} {meth : Method} {c : Code} (C0 : Cx Lm g p s m args meth c cX10_single 4 (some .int) RX10) {r : Int32} {ν : Mem} (S : Mem → Option (Int32 × Mem)) {F Lo : Nat} (hS0 : ∀  (μ : Mem) (r : Int32) (ν : Mem), S  μ = some (r, ν) → Ct Lm g l yX10_single cX10_single 4 (some .int) { frames := F, cells := 0, slots := 0, locals := Lo } [.ref (g.2.2.1 + 0)] μ (some (.int r)) ν)  (n : Nat) : ∀ (x2 : Int32) (x3 : Int32) (μ : Mem) (H : Heap) (locs : List Loc) (ls : Array Slot), Px Lm g μ H → va_S (Ax Lm g) s.heap H locs → lv_has ls 4 [(0, .ref (g.2.2.1 + 0)), (2, .int x2), (3, .int x3)] → X10_single_20 S  n x2 x3 μ = some (r, ν) → W p l e { frames := F + 6, cells := 0, slots := 0, locals := Lo + 136 } s m args below meth c H locs 0 0 (MQ below (Qx Lm g (some (.int r)) ν) args s 0 0 (Ax Lm g)) (F0 m 20 ls []) := by
  obtain ⟨hx, hb, hr, hml, hown, hts, hlocks, hK⟩ := id C0
  induction n with
  | zero =>
    intro x2 x3 μ H locs ls hP hS hl h
    have h : (none : Option (Int32 × Mem)) = some (r, ν) := h
    cases h
  | succ n ih =>
    intro x2 x3 μ H locs ls hP hS hl h
    rw [X10_single_20.eq_2] at h
    refine lv_iload_n hx hb dX10_single_20 rfl (lv_at hl 2 rfl) ?_
    refine lv_iconst (v := (4 : Int32)) hx hb dX10_single_21 rfl ?_
    refine lv_icmp_ge (tgt := 68) hx hb dX10_single_22 (by decide) (fun c24 => ?_) (fun c24 => ?_)
    · rw [if_pos c24] at h
      exact w_X10_single_68 C0 S hS0  x2 μ _ _ _ hP hS (lv_sub hl [0, 1] rfl) h
    · rw [if_neg c24] at h
      refine lv_aload_n hx hb dX10_single_25 rfl (lv_at hl 0 rfl) ?_
      obtain ⟨r31, μ31, h1, h⟩ := ob2_some h
      refine x_callV C0 (rest := []) (q := (RX10, TX10, 22)) (c_X10_byteAt l g μ h1) q5_72 q5_69 q5_71 r3_6 q1_11 hd_X10_byteAt ⟨rfl, rfl⟩ ⟨by dsimp only; omega, by dsimp only; omega⟩ cm_0 (by decide) rfl hP hS hl.1 rfl rfl (Nat.le_of_ble_eq_true rfl) dX10_single_26 (fun H locs hP hS => ?_)
      refine W.eq (g2 := F0 m 29 ls [.int r31]) rfl ?_
      refine lv_bipush (v := (48 : Int32)) hx hb dX10_single_29 (by decide +kernel) ?_
      refine lv_bipush (v := (57 : Int32)) hx hb dX10_single_31 (by decide +kernel) ?_
      obtain ⟨r32, μ32, h1, h⟩ := ob2_some h
      refine x_callS C0 (rest := []) (c_X10_in l g r31 (48 : Int32) (57 : Int32) μ31 h1) q4_207 q4_205 q4_206 q1_11 hd_X10_in ⟨rfl, rfl⟩ ⟨by dsimp only; omega, by dsimp only; omega⟩ hP hS hl.1 rfl rfl (Nat.le_of_ble_eq_true rfl) dX10_single_33 (fun H locs hP hS => ?_)
      refine W.eq (g2 := F0 m 36 ls [.int r32]) rfl ?_
      refine lv_if_eq (tgt := 68) hx hb dX10_single_36 (by decide) (fun c33 => ?_) (fun c33 => ?_)
      · rw [if_pos c33] at h
        exact w_X10_single_68 C0 S hS0  x2 μ32 _ _ _ hP hS (lv_sub hl [0, 1] rfl) h
      · rw [if_neg c33] at h
        refine lv_bipush (v := (10 : Int32)) hx hb dX10_single_39 (by decide +kernel) ?_
        refine lv_iload_n hx hb dX10_single_41 rfl (lv_at hl 1 rfl) ?_
        refine lv_imul hx hb dX10_single_42 ?_
        refine lv_aload_n hx hb dX10_single_43 rfl (lv_at hl 0 rfl) ?_
        obtain ⟨r34, μ34, h1, h⟩ := ob2_some h
        refine x_callV C0 (rest := [.int ((10 : Int32) * x2)]) (q := (RX10, TX10, 22)) (c_X10_byteAt l g μ32 h1) q5_72 q5_69 q5_71 r3_6 q1_11 hd_X10_byteAt ⟨rfl, rfl⟩ ⟨by dsimp only; omega, by dsimp only; omega⟩ cm_0 (by decide) rfl hP hS hl.1 rfl rfl (Nat.le_of_ble_eq_true rfl) dX10_single_44 (fun H locs hP hS => ?_)
        refine W.eq (g2 := F0 m 47 ls [.int r34, .int ((10 : Int32) * x2)]) rfl ?_
        refine lv_iadd hx hb dX10_single_47 ?_
        refine lv_bipush (v := (48 : Int32)) hx hb dX10_single_48 (by decide +kernel) ?_
        refine lv_isub hx hb dX10_single_50 ?_
        refine lv_istore_n (lv' := [(2, .int ((((10 : Int32) * x2) + r34) - (48 : Int32))), (0, .ref (g.2.2.1 + 0)), (3, .int x3)]) hx hb dX10_single_51 rfl hl (by decide) rfl (fun ls hl => ?_)
        refine lv_aload_n hx hb dX10_single_52 rfl (lv_at hl 1 rfl) ?_
        refine lv_dup hx hb dX10_single_53 rfl ?_
        refine x_get C0 hP inu10 (k := 0) cm_0 (by decide) rfl 8 (by decide) q4_142 rfl (v := .int (μ34 0 8)) rfl dX10_single_54 ?_
        refine lv_iconst (v := (1 : Int32)) hx hb dX10_single_57 rfl ?_
        refine lv_iadd hx hb dX10_single_58 ?_
        obtain ⟨μ35, e35, h⟩ := lt_some h
        refine x_put C0 hP hS inu10 tyX10 tyX10_ok nmX10 (k := 0) cm_0 (by decide) rfl 8 (by decide) q4_142 rfl rfl (v := .int ((μ34 0 8) + (1 : Int32))) (x := ((μ34 0 8) + (1 : Int32))) rfl rfl (Nat.le_of_ble_eq_true rfl) (os_10_8 _ _ _ _) dX10_single_59 (fun H locs hP hS => ?_)
        rw [← e35] at hP
        refine lv_iinc (v := (x3 + (1 : Int32))) (lv' := [(3, .int (x3 + (1 : Int32))), (2, .int ((((10 : Int32) * x2) + r34) - (48 : Int32))), (0, .ref (g.2.2.1 + 0))]) hx hb dX10_single_62 hl (k := 2) rfl rfl (by decide) rfl (fun ls hl => ?_)
        refine lv_goto (tgt := 20) hx hb dX10_single_65 (by decide) ?_
        exact ih ((((10 : Int32) * x2) + r34) - (48 : Int32)) (x3 + (1 : Int32)) μ35 _ _ _ hP hS (lv_sub hl [2, 1, 0] rfl) h
def X10_single_body (S : Mem → Option (Int32 × Mem))  (μ : Mem) : Option (Int32 × Mem) :=
  ob2 (X10_byteAt  μ) fun r1 μ1 => ob2 (X10_in r1 (48 : Int32) (57 : Int32) μ1) fun r2 μ2 => (if r2 = (0 : Int32) then X10_single_102 S FU r1 (0 : Int32) μ2 else X10_single_20 S FU (0 : Int32) (0 : Int32) μ2)
set_option maxRecDepth 100000 in
set_option maxHeartbeats 4000000 in
theorem c_X10_single_body (l : Launch) (g : Gx) (S : Mem → Option (Int32 × Mem)) {F Lo : Nat} (hS0 : ∀  (μ : Mem) (r : Int32) (ν : Mem), S  μ = some (r, ν) → Ct Lm g l yX10_single cX10_single 4 (some .int) { frames := F, cells := 0, slots := 0, locals := Lo } [.ref (g.2.2.1 + 0)] μ (some (.int r)) ν)  (μ : Mem) {r : Int32} {ν : Mem} (h : X10_single_body S  μ = some (r, ν)) : Ct Lm g l yX10_single cX10_single 4 (some .int) { frames := F + 6, cells := 0, slots := 0, locals := Lo + 136 } [.ref (g.2.2.1 + 0)] μ (some (.int r)) ν := by
  refine x_met (lv := [(0, .ref (g.2.2.1 + 0))]) rfl (Nat.le_of_ble_eq_true rfl) rfl ?_
  intro p e s m below meth c C0 hP ls hl
  generalize ([.ref (g.2.2.1 + 0)] : List Value).toArray = args at C0 ⊢
  have C0 : Cx Lm g p s m args meth c cX10_single 4 (some .int) RX10 := C0
  have hS : va_S (Ax Lm g) s.heap s.heap [] := va_S.rf
  obtain ⟨hx, hb, hr, hml, hown, hts, hlocks, hK⟩ := id C0
  unfold X10_single_body at h
  skip
  refine lv_aload_n hx hb dX10_single_0 rfl (lv_at hl 0 rfl) ?_
  obtain ⟨r1, μ1, h1, h⟩ := ob2_some h
  refine x_callV C0 (rest := []) (q := (RX10, TX10, 22)) (c_X10_byteAt l g μ h1) q5_72 q5_69 q5_71 r3_6 q1_11 hd_X10_byteAt ⟨rfl, rfl⟩ ⟨by dsimp only; omega, by dsimp only; omega⟩ cm_0 (by decide) rfl hP hS hl.1 rfl rfl (Nat.le_of_ble_eq_true rfl) dX10_single_1 (fun H locs hP hS => ?_)
  refine W.eq (g2 := F0 m 4 ls [.int r1]) rfl ?_
  refine lv_istore_n (lv' := [(1, .int r1), (0, .ref (g.2.2.1 + 0))]) hx hb dX10_single_4 rfl hl (by decide) rfl (fun ls hl => ?_)
  refine lv_iload_n hx hb dX10_single_5 rfl (lv_at hl 0 rfl) ?_
  refine lv_bipush (v := (48 : Int32)) hx hb dX10_single_6 (by decide +kernel) ?_
  refine lv_bipush (v := (57 : Int32)) hx hb dX10_single_8 (by decide +kernel) ?_
  obtain ⟨r2, μ2, h1, h⟩ := ob2_some h
  refine x_callS C0 (rest := []) (c_X10_in l g r1 (48 : Int32) (57 : Int32) μ1 h1) q4_207 q4_205 q4_206 q1_11 hd_X10_in ⟨rfl, rfl⟩ ⟨by dsimp only; omega, by dsimp only; omega⟩ hP hS hl.1 rfl rfl (Nat.le_of_ble_eq_true rfl) dX10_single_10 (fun H locs hP hS => ?_)
  refine W.eq (g2 := F0 m 13 ls [.int r2]) rfl ?_
  refine lv_if_eq (tgt := 100) hx hb dX10_single_13 (by decide) (fun c3 => ?_) (fun c3 => ?_)
  · rw [if_pos c3] at h
    refine lv_iconst (v := (0 : Int32)) hx hb dX10_single_100 rfl ?_
    refine lv_istore_n (lv' := [(2, .int (0 : Int32)), (1, .int r1), (0, .ref (g.2.2.1 + 0))]) hx hb dX10_single_101 rfl hl (by decide) rfl (fun ls hl => ?_)
    exact w_X10_single_102 C0 S hS0  FU r1 (0 : Int32) μ2 _ _ _ hP hS (lv_sub hl [2, 1, 0] rfl) h
  · rw [if_neg c3] at h
    refine lv_iconst (v := (0 : Int32)) hx hb dX10_single_16 rfl ?_
    refine lv_istore_n (lv' := [(2, .int (0 : Int32)), (1, .int r1), (0, .ref (g.2.2.1 + 0))]) hx hb dX10_single_17 rfl hl (by decide) rfl (fun ls hl => ?_)
    refine lv_iconst (v := (0 : Int32)) hx hb dX10_single_18 rfl ?_
    refine lv_istore_n (lv' := [(3, .int (0 : Int32)), (2, .int (0 : Int32)), (1, .int r1), (0, .ref (g.2.2.1 + 0))]) hx hb dX10_single_19 rfl hl (by decide) rfl (fun ls hl => ?_)
    exact w_X10_single_20 C0 S hS0  FU (0 : Int32) (0 : Int32) μ2 _ _ _ hP hS (lv_sub hl [3, 1, 0] rfl) h
def X10_single : Nat → Mem → Option (Int32 × Mem)
  | 0, _ => none
  | n + 1, μ => X10_single_body (X10_single n)  μ
theorem c_X10_single (l : Launch) (g : Gx) (n : Nat) : ∀  (μ : Mem) (r : Int32) (ν : Mem), X10_single n  μ = some (r, ν) → Ct Lm g l yX10_single cX10_single 4 (some .int) { frames := 6 * n, cells := 0, slots := 0, locals := 136 * n } [.ref (g.2.2.1 + 0)] μ (some (.int r)) ν := by
  induction n with
  | zero =>
    intro  μ r ν h
    have h : (none : Option (Int32 × Mem)) = some (r, ν) := h
    cases h
  | succ n ih =>
    intro  μ r ν h
    rw [X10_single.eq_2] at h
    exact c_X10_single_body l g (X10_single n) ih  μ h
def X10_reads_54  (x3 : Int32) (t1 : Int32) (μ : Mem) : Option (Int32 × Mem) :=
  gd (t1 = 0 ∨ t1 = 1) (lt (st μ 0 10 t1) fun μ9 => some (x3, μ9))
set_option maxRecDepth 100000 in
set_option maxHeartbeats 4000000 in
theorem w_X10_reads_54 {g : Gx} {p : Program} {l : Launch} {e : Env} {s : State} {m : MethodId} {args : Array Value} {below : List Frame} {meth : Method} {c : Code} (C0 : Cx Lm g p s m args meth c cX10_reads 4 (some .int) RX10) {r : Int32} {ν : Mem}  (x3 : Int32) (t1 : Int32) (μ : Mem) (H : Heap) (locs : List Loc) (ls : Array Slot) (hP : Px Lm g μ H) (hS : va_S (Ax Lm g) s.heap H locs) (hl : lv_has ls 4 [(3, .int x3)]) (h : X10_reads_54  x3 t1 μ = some (r, ν)) : W p l e { frames := 66, cells := 0, slots := 0, locals := 1496 } s m args below meth c H locs 0 0 (MQ below (Qx Lm g (some (.int r)) ν) args s 0 0 (Ax Lm g)) (F0 m 54 ls [.int t1, .ref (g.2.2.1 + 0)]) := by
  obtain ⟨hx, hb, hr, hml, hown, hts, hlocks, hK⟩ := id C0
  unfold X10_reads_54 at h
  obtain ⟨z8, h⟩ := gd_some h
  obtain ⟨μ9, e9, h⟩ := lt_some h
  refine x_put C0 hP hS inu10 tyX10 tyX10_ok nmX10 (k := 0) cm_0 (by decide) rfl 10 (by decide) q4_144 rfl rfl (v := .int t1) (x := t1) (x_bool z8).1 (x_bool z8).2 (Nat.le_of_ble_eq_true rfl) (os_10_10 _ _ _ _) dX10_reads_54 (fun H locs hP hS => ?_)
  rw [← e9] at hP
  refine lv_iload_n hx hb dX10_reads_57 rfl (lv_at hl 0 rfl) ?_
  obtain ⟨rfl, rfl⟩ := some2 h
  exact x_iret C0 hP hS dX10_reads_58
def X10_reads_49  (x3 : Int32) (μ : Mem) : Option (Int32 × Mem) :=
  X10_reads_54 x3 (1 : Int32) μ
set_option maxRecDepth 100000 in
set_option maxHeartbeats 4000000 in
theorem w_X10_reads_49 {g : Gx} {p : Program} {l : Launch} {e : Env} {s : State} {m : MethodId} {args : Array Value} {below : List Frame} {meth : Method} {c : Code} (C0 : Cx Lm g p s m args meth c cX10_reads 4 (some .int) RX10) {r : Int32} {ν : Mem}  (x3 : Int32) (μ : Mem) (H : Heap) (locs : List Loc) (ls : Array Slot) (hP : Px Lm g μ H) (hS : va_S (Ax Lm g) s.heap H locs) (hl : lv_has ls 4 [(3, .int x3)]) (h : X10_reads_49  x3 μ = some (r, ν)) : W p l e { frames := 66, cells := 0, slots := 0, locals := 1496 } s m args below meth c H locs 0 0 (MQ below (Qx Lm g (some (.int r)) ν) args s 0 0 (Ax Lm g)) (F0 m 49 ls [.ref (g.2.2.1 + 0)]) := by
  obtain ⟨hx, hb, hr, hml, hown, hts, hlocks, hK⟩ := id C0
  unfold X10_reads_49 at h
  refine lv_iconst (v := (1 : Int32)) hx hb dX10_reads_49 rfl ?_
  refine lv_goto (tgt := 54) hx hb dX10_reads_50 (by decide) ?_
  exact w_X10_reads_54 C0  x3 (1 : Int32) μ _ _ _ hP hS (lv_sub hl [0] rfl) h
def X10_reads (x1 : Int32) (x2 : Int32) (μ : Mem) : Option (Int32 × Mem) :=
  lt (st μ 0 6 x1) fun μ1 => lt (st μ1 0 7 x2) fun μ2 => lt (st μ2 0 8 (0 : Int32)) fun μ3 => lt (st μ3 0 9 (0 : Int32)) fun μ4 => lt (st μ4 0 10 (0 : Int32)) fun μ5 => ob2 (X10_either (X10_single 10)  μ5) fun r6 μ6 => (if (μ6 0 10) = (0 : Int32) then (if (μ6 0 7) ≤ (μ6 0 8) then X10_reads_54 r6 (0 : Int32) μ6 else X10_reads_49 r6 μ6) else X10_reads_49 r6 μ6)
set_option maxRecDepth 100000 in
set_option maxHeartbeats 4000000 in
theorem c_X10_reads (l : Launch) (g : Gx) (x1 : Int32) (x2 : Int32) (μ : Mem) {r : Int32} {ν : Mem} (h : X10_reads x1 x2 μ = some (r, ν)) : Ct Lm g l yX10_reads cX10_reads 4 (some .int) { frames := 66, cells := 0, slots := 0, locals := 1496 } [.ref (g.2.2.1 + 0), .int x1, .int x2] μ (some (.int r)) ν := by
  refine x_met (lv := [(0, .ref (g.2.2.1 + 0)), (1, .int x1), (2, .int x2)]) rfl (Nat.le_of_ble_eq_true rfl) rfl ?_
  intro p e s m below meth c C0 hP ls hl
  generalize ([.ref (g.2.2.1 + 0), .int x1, .int x2] : List Value).toArray = args at C0 ⊢
  have C0 : Cx Lm g p s m args meth c cX10_reads 4 (some .int) RX10 := C0
  have hS : va_S (Ax Lm g) s.heap s.heap [] := va_S.rf
  obtain ⟨hx, hb, hr, hml, hown, hts, hlocks, hK⟩ := id C0
  unfold X10_reads at h
  skip
  refine lv_aload_n hx hb dX10_reads_0 rfl (lv_at hl 0 rfl) ?_
  refine lv_iload_n hx hb dX10_reads_1 rfl (lv_at hl 1 rfl) ?_
  obtain ⟨μ1, e1, h⟩ := lt_some h
  refine x_put C0 hP hS inu10 tyX10 tyX10_ok nmX10 (k := 0) cm_0 (by decide) rfl 6 (by decide) q4_140 rfl rfl (v := .int x1) (x := x1) rfl rfl (Nat.le_of_ble_eq_true rfl) (os_10_6 _ _ _ _) dX10_reads_2 (fun H locs hP hS => ?_)
  rw [← e1] at hP
  refine lv_aload_n hx hb dX10_reads_5 rfl (lv_at hl 0 rfl) ?_
  refine lv_iload_n hx hb dX10_reads_6 rfl (lv_at hl 2 rfl) ?_
  obtain ⟨μ2, e2, h⟩ := lt_some h
  refine x_put C0 hP hS inu10 tyX10 tyX10_ok nmX10 (k := 0) cm_0 (by decide) rfl 7 (by decide) q4_141 rfl rfl (v := .int x2) (x := x2) rfl rfl (Nat.le_of_ble_eq_true rfl) (os_10_7 _ _ _ _) dX10_reads_7 (fun H locs hP hS => ?_)
  rw [← e2] at hP
  refine lv_aload_n hx hb dX10_reads_10 rfl (lv_at hl 0 rfl) ?_
  refine lv_iconst (v := (0 : Int32)) hx hb dX10_reads_11 rfl ?_
  obtain ⟨μ3, e3, h⟩ := lt_some h
  refine x_put C0 hP hS inu10 tyX10 tyX10_ok nmX10 (k := 0) cm_0 (by decide) rfl 8 (by decide) q4_142 rfl rfl (v := .int (0 : Int32)) (x := (0 : Int32)) rfl rfl (Nat.le_of_ble_eq_true rfl) (os_10_8 _ _ _ _) dX10_reads_12 (fun H locs hP hS => ?_)
  rw [← e3] at hP
  refine lv_aload_n hx hb dX10_reads_15 rfl (lv_at hl 0 rfl) ?_
  refine lv_iconst (v := (0 : Int32)) hx hb dX10_reads_16 rfl ?_
  obtain ⟨μ4, e4, h⟩ := lt_some h
  refine x_put C0 hP hS inu10 tyX10 tyX10_ok nmX10 (k := 0) cm_0 (by decide) rfl 9 (by decide) q4_143 rfl rfl (v := .int (0 : Int32)) (x := (0 : Int32)) rfl rfl (Nat.le_of_ble_eq_true rfl) (os_10_9 _ _ _ _) dX10_reads_17 (fun H locs hP hS => ?_)
  rw [← e4] at hP
  refine lv_aload_n hx hb dX10_reads_20 rfl (lv_at hl 0 rfl) ?_
  refine lv_iconst (v := (0 : Int32)) hx hb dX10_reads_21 rfl ?_
  obtain ⟨μ5, e5, h⟩ := lt_some h
  refine x_put C0 hP hS inu10 tyX10 tyX10_ok nmX10 (k := 0) cm_0 (by decide) rfl 10 (by decide) q4_144 rfl rfl (v := .int (0 : Int32)) (x := (0 : Int32)) rfl rfl (Nat.le_of_ble_eq_true rfl) (os_10_10 _ _ _ _) dX10_reads_22 (fun H locs hP hS => ?_)
  rw [← e5] at hP
  refine lv_aload_n hx hb dX10_reads_25 rfl (lv_at hl 0 rfl) ?_
  obtain ⟨r6, μ6, h1, h⟩ := ob2_some h
  refine x_callV C0 (rest := []) (q := (RX10, TX10, 22)) (c_X10_either l g (X10_single 10) (c_X10_single l g 10) μ5 h1) q5_48 q5_45 q5_47 r3_0 q1_11 hd_X10_either ⟨rfl, rfl⟩ ⟨Nat.le_of_ble_eq_true rfl, Nat.le_of_ble_eq_true rfl⟩ cm_0 (by decide) rfl hP hS hl.1 rfl rfl (Nat.le_of_ble_eq_true rfl) dX10_reads_26 (fun H locs hP hS => ?_)
  refine W.eq (g2 := F0 m 29 ls [.int r6]) rfl ?_
  refine lv_istore_n (lv' := [(3, .int r6), (0, .ref (g.2.2.1 + 0)), (1, .int x1), (2, .int x2)]) hx hb dX10_reads_29 rfl hl (by decide) rfl (fun ls hl => ?_)
  refine lv_aload_n hx hb dX10_reads_30 rfl (lv_at hl 1 rfl) ?_
  refine lv_aload_n hx hb dX10_reads_31 rfl (lv_at hl 1 rfl) ?_
  refine x_get C0 hP inu10 (k := 0) cm_0 (by decide) rfl 10 (by decide) q4_144 rfl (v := .int (μ6 0 10)) rfl dX10_reads_32 ?_
  refine lv_if_ne (tgt := 49) hx hb dX10_reads_35 (by decide) (fun c7 => ?_) (fun c7 => ?_)
  · rw [if_neg c7] at h
    exact w_X10_reads_49 C0  r6 μ6 _ _ _ hP hS (lv_sub hl [0] rfl) h
  · rw [if_pos c7] at h
    refine lv_aload_n hx hb dX10_reads_38 rfl (lv_at hl 1 rfl) ?_
    refine x_get C0 hP inu10 (k := 0) cm_0 (by decide) rfl 8 (by decide) q4_142 rfl (v := .int (μ6 0 8)) rfl dX10_reads_39 ?_
    refine lv_aload_n hx hb dX10_reads_42 rfl (lv_at hl 1 rfl) ?_
    refine x_get C0 hP inu10 (k := 0) cm_0 (by decide) rfl 7 (by decide) q4_141 rfl (v := .int (μ6 0 7)) rfl dX10_reads_43 ?_
    refine lv_icmp_ge (tgt := 53) hx hb dX10_reads_46 (by decide) (fun c10 => ?_) (fun c10 => ?_)
    · rw [if_pos c10] at h
      refine lv_iconst (v := (0 : Int32)) hx hb dX10_reads_53 rfl ?_
      exact w_X10_reads_54 C0  r6 (0 : Int32) μ6 _ _ _ hP hS (lv_sub hl [0] rfl) h
    · rw [if_neg c10] at h
      exact w_X10_reads_49 C0  r6 μ6 _ _ _ hP hS (lv_sub hl [0] rfl) h
def X10_saysOf (x1 : Int32) (x2 : Int32) (x3 : Int32) (x4 : Int32) (μ : Mem) : Option (Int32 × Mem) :=
  lt (st μ 5 0 (x3 - x3 / (24 : Int32) * (24 : Int32))) fun μ1 => lt (st μ1 5 1 ((x3 / (24 : Int32)) - (x3 / (24 : Int32)) / (7 : Int32) * (7 : Int32))) fun μ2 => ob2 (X10_of x2 (9 : Int32) μ2) fun r3 μ3 => lt (st μ3 5 2 r3) fun μ4 => ob2 (X10_of x2 (0 : Int32) μ4) fun r5 μ5 => lt (st μ5 5 3 r5) fun μ6 => ob2 (X10_of x2 (4 : Int32) μ6) fun r7 μ7 => lt (st μ7 5 4 r7) fun μ8 => ob2 (X10_of x2 (3 : Int32) μ8) fun r9 μ9 => lt (st μ9 5 5 r9) fun μ10 => lt (st μ10 5 6 x4) fun μ11 => gd (inB ((392 : Int32) + x1) 1944) (ob2 (X10_reads ((404 : Int32) + ((60 : Int32) * x1)) (μ11 1 ((392 : Int32) + x1).toNatClampNeg) μ11) fun r13 μ13 => some (r13, μ13))
set_option maxRecDepth 100000 in
set_option maxHeartbeats 4000000 in
theorem c_X10_saysOf (l : Launch) (g : Gx) (x1 : Int32) (x2 : Int32) (x3 : Int32) (x4 : Int32) (μ : Mem) {r : Int32} {ν : Mem} (h : X10_saysOf x1 x2 x3 x4 μ = some (r, ν)) : Ct Lm g l yX10_saysOf cX10_saysOf 5 (some .int) { frames := 67, cells := 0, slots := 0, locals := 1519 } [.ref (g.2.2.1 + 0), .int x1, .int x2, .int x3, .int x4] μ (some (.int r)) ν := by
  refine x_met (lv := [(0, .ref (g.2.2.1 + 0)), (1, .int x1), (2, .int x2), (3, .int x3), (4, .int x4)]) rfl (Nat.le_of_ble_eq_true rfl) rfl ?_
  intro p e s m below meth c C0 hP ls hl
  generalize ([.ref (g.2.2.1 + 0), .int x1, .int x2, .int x3, .int x4] : List Value).toArray = args at C0 ⊢
  have C0 : Cx Lm g p s m args meth c cX10_saysOf 5 (some .int) RX10 := C0
  have hS : va_S (Ax Lm g) s.heap s.heap [] := va_S.rf
  obtain ⟨hx, hb, hr, hml, hown, hts, hlocks, hK⟩ := id C0
  unfold X10_saysOf at h
  skip
  refine lv_aload_n hx hb dX10_saysOf_0 rfl (lv_at hl 0 rfl) ?_
  refine x_get C0 hP inu10 (k := 0) cm_0 (by decide) rfl 11 (by decide) q4_145 rfl (v := .ref (g.2.2.1 + 5)) rfl dX10_saysOf_1 ?_
  refine lv_iconst (v := (0 : Int32)) hx hb dX10_saysOf_4 rfl ?_
  refine lv_iload_n hx hb dX10_saysOf_5 rfl (lv_at hl 3 rfl) ?_
  refine lv_bipush (v := (24 : Int32)) hx hb dX10_saysOf_6 (by decide +kernel) ?_
  refine lv_irem hx hb dX10_saysOf_8 (by decide) ?_
  obtain ⟨μ1, e1, h⟩ := lt_some h
  refine x_iast C0 hP hS (k := 5) cm_5 (j := 0) (by decide) rfl dX10_saysOf_9 (fun H locs hP hS => ?_)
  rw [← e1] at hP
  refine lv_aload_n hx hb dX10_saysOf_10 rfl (lv_at hl 0 rfl) ?_
  refine x_get C0 hP inu10 (k := 0) cm_0 (by decide) rfl 11 (by decide) q4_145 rfl (v := .ref (g.2.2.1 + 5)) rfl dX10_saysOf_11 ?_
  refine lv_iconst (v := (1 : Int32)) hx hb dX10_saysOf_14 rfl ?_
  refine lv_iload_n hx hb dX10_saysOf_15 rfl (lv_at hl 3 rfl) ?_
  refine lv_bipush (v := (24 : Int32)) hx hb dX10_saysOf_16 (by decide +kernel) ?_
  refine lv_idiv hx hb dX10_saysOf_18 (by decide) ?_
  refine lv_bipush (v := (7 : Int32)) hx hb dX10_saysOf_19 (by decide +kernel) ?_
  refine lv_irem hx hb dX10_saysOf_21 (by decide) ?_
  obtain ⟨μ2, e2, h⟩ := lt_some h
  refine x_iast C0 hP hS (k := 5) cm_5 (j := 1) (by decide) rfl dX10_saysOf_22 (fun H locs hP hS => ?_)
  rw [← e2] at hP
  refine lv_aload_n hx hb dX10_saysOf_23 rfl (lv_at hl 0 rfl) ?_
  refine x_get C0 hP inu10 (k := 0) cm_0 (by decide) rfl 11 (by decide) q4_145 rfl (v := .ref (g.2.2.1 + 5)) rfl dX10_saysOf_24 ?_
  refine lv_iconst (v := (2 : Int32)) hx hb dX10_saysOf_27 rfl ?_
  refine lv_aload_n hx hb dX10_saysOf_28 rfl (lv_at hl 0 rfl) ?_
  refine lv_iload_n hx hb dX10_saysOf_29 rfl (lv_at hl 2 rfl) ?_
  refine lv_bipush (v := (9 : Int32)) hx hb dX10_saysOf_30 (by decide +kernel) ?_
  obtain ⟨r3, μ3, h1, h⟩ := ob2_some h
  refine x_callV C0 (rest := [.int (2 : Int32), .ref (g.2.2.1 + 5)]) (q := (RX10, TX10, 22)) (c_X10_of l g x2 (9 : Int32) μ2 h1) q4_235 q4_232 q4_234 r2_9 q1_11 hd_X10_of ⟨rfl, rfl⟩ ⟨Nat.le_of_ble_eq_true rfl, Nat.le_of_ble_eq_true rfl⟩ cm_0 (by decide) rfl hP hS hl.1 rfl rfl (Nat.le_of_ble_eq_true rfl) dX10_saysOf_32 (fun H locs hP hS => ?_)
  refine W.eq (g2 := F0 m 35 ls [.int r3, .int (2 : Int32), .ref (g.2.2.1 + 5)]) rfl ?_
  obtain ⟨μ4, e4, h⟩ := lt_some h
  refine x_iast C0 hP hS (k := 5) cm_5 (j := 2) (by decide) rfl dX10_saysOf_35 (fun H locs hP hS => ?_)
  rw [← e4] at hP
  refine lv_aload_n hx hb dX10_saysOf_36 rfl (lv_at hl 0 rfl) ?_
  refine x_get C0 hP inu10 (k := 0) cm_0 (by decide) rfl 11 (by decide) q4_145 rfl (v := .ref (g.2.2.1 + 5)) rfl dX10_saysOf_37 ?_
  refine lv_iconst (v := (3 : Int32)) hx hb dX10_saysOf_40 rfl ?_
  refine lv_aload_n hx hb dX10_saysOf_41 rfl (lv_at hl 0 rfl) ?_
  refine lv_iload_n hx hb dX10_saysOf_42 rfl (lv_at hl 2 rfl) ?_
  refine lv_iconst (v := (0 : Int32)) hx hb dX10_saysOf_43 rfl ?_
  obtain ⟨r5, μ5, h1, h⟩ := ob2_some h
  refine x_callV C0 (rest := [.int (3 : Int32), .ref (g.2.2.1 + 5)]) (q := (RX10, TX10, 22)) (c_X10_of l g x2 (0 : Int32) μ4 h1) q4_235 q4_232 q4_234 r2_9 q1_11 hd_X10_of ⟨rfl, rfl⟩ ⟨Nat.le_of_ble_eq_true rfl, Nat.le_of_ble_eq_true rfl⟩ cm_0 (by decide) rfl hP hS hl.1 rfl rfl (Nat.le_of_ble_eq_true rfl) dX10_saysOf_44 (fun H locs hP hS => ?_)
  refine W.eq (g2 := F0 m 47 ls [.int r5, .int (3 : Int32), .ref (g.2.2.1 + 5)]) rfl ?_
  obtain ⟨μ6, e6, h⟩ := lt_some h
  refine x_iast C0 hP hS (k := 5) cm_5 (j := 3) (by decide) rfl dX10_saysOf_47 (fun H locs hP hS => ?_)
  rw [← e6] at hP
  refine lv_aload_n hx hb dX10_saysOf_48 rfl (lv_at hl 0 rfl) ?_
  refine x_get C0 hP inu10 (k := 0) cm_0 (by decide) rfl 11 (by decide) q4_145 rfl (v := .ref (g.2.2.1 + 5)) rfl dX10_saysOf_49 ?_
  refine lv_iconst (v := (4 : Int32)) hx hb dX10_saysOf_52 rfl ?_
  refine lv_aload_n hx hb dX10_saysOf_53 rfl (lv_at hl 0 rfl) ?_
  refine lv_iload_n hx hb dX10_saysOf_54 rfl (lv_at hl 2 rfl) ?_
  refine lv_iconst (v := (4 : Int32)) hx hb dX10_saysOf_55 rfl ?_
  obtain ⟨r7, μ7, h1, h⟩ := ob2_some h
  refine x_callV C0 (rest := [.int (4 : Int32), .ref (g.2.2.1 + 5)]) (q := (RX10, TX10, 22)) (c_X10_of l g x2 (4 : Int32) μ6 h1) q4_235 q4_232 q4_234 r2_9 q1_11 hd_X10_of ⟨rfl, rfl⟩ ⟨Nat.le_of_ble_eq_true rfl, Nat.le_of_ble_eq_true rfl⟩ cm_0 (by decide) rfl hP hS hl.1 rfl rfl (Nat.le_of_ble_eq_true rfl) dX10_saysOf_56 (fun H locs hP hS => ?_)
  refine W.eq (g2 := F0 m 59 ls [.int r7, .int (4 : Int32), .ref (g.2.2.1 + 5)]) rfl ?_
  obtain ⟨μ8, e8, h⟩ := lt_some h
  refine x_iast C0 hP hS (k := 5) cm_5 (j := 4) (by decide) rfl dX10_saysOf_59 (fun H locs hP hS => ?_)
  rw [← e8] at hP
  refine lv_aload_n hx hb dX10_saysOf_60 rfl (lv_at hl 0 rfl) ?_
  refine x_get C0 hP inu10 (k := 0) cm_0 (by decide) rfl 11 (by decide) q4_145 rfl (v := .ref (g.2.2.1 + 5)) rfl dX10_saysOf_61 ?_
  refine lv_iconst (v := (5 : Int32)) hx hb dX10_saysOf_64 rfl ?_
  refine lv_aload_n hx hb dX10_saysOf_65 rfl (lv_at hl 0 rfl) ?_
  refine lv_iload_n hx hb dX10_saysOf_66 rfl (lv_at hl 2 rfl) ?_
  refine lv_iconst (v := (3 : Int32)) hx hb dX10_saysOf_67 rfl ?_
  obtain ⟨r9, μ9, h1, h⟩ := ob2_some h
  refine x_callV C0 (rest := [.int (5 : Int32), .ref (g.2.2.1 + 5)]) (q := (RX10, TX10, 22)) (c_X10_of l g x2 (3 : Int32) μ8 h1) q4_235 q4_232 q4_234 r2_9 q1_11 hd_X10_of ⟨rfl, rfl⟩ ⟨Nat.le_of_ble_eq_true rfl, Nat.le_of_ble_eq_true rfl⟩ cm_0 (by decide) rfl hP hS hl.1 rfl rfl (Nat.le_of_ble_eq_true rfl) dX10_saysOf_68 (fun H locs hP hS => ?_)
  refine W.eq (g2 := F0 m 71 ls [.int r9, .int (5 : Int32), .ref (g.2.2.1 + 5)]) rfl ?_
  obtain ⟨μ10, e10, h⟩ := lt_some h
  refine x_iast C0 hP hS (k := 5) cm_5 (j := 5) (by decide) rfl dX10_saysOf_71 (fun H locs hP hS => ?_)
  rw [← e10] at hP
  refine lv_aload_n hx hb dX10_saysOf_72 rfl (lv_at hl 0 rfl) ?_
  refine x_get C0 hP inu10 (k := 0) cm_0 (by decide) rfl 11 (by decide) q4_145 rfl (v := .ref (g.2.2.1 + 5)) rfl dX10_saysOf_73 ?_
  refine lv_bipush (v := (6 : Int32)) hx hb dX10_saysOf_76 (by decide +kernel) ?_
  refine lv_iload hx hb dX10_saysOf_78 (lv_at hl 4 rfl) ?_
  obtain ⟨μ11, e11, h⟩ := lt_some h
  refine x_iast C0 hP hS (k := 5) cm_5 (j := 6) (by decide) rfl dX10_saysOf_80 (fun H locs hP hS => ?_)
  rw [← e11] at hP
  refine lv_aload_n hx hb dX10_saysOf_81 rfl (lv_at hl 0 rfl) ?_
  refine lv_sipush (v := (404 : Int32)) hx hb dX10_saysOf_82 (by decide +kernel) ?_
  refine lv_bipush (v := (60 : Int32)) hx hb dX10_saysOf_85 (by decide +kernel) ?_
  refine lv_iload_n hx hb dX10_saysOf_87 rfl (lv_at hl 1 rfl) ?_
  refine lv_imul hx hb dX10_saysOf_88 ?_
  refine lv_iadd hx hb dX10_saysOf_89 ?_
  refine lv_aload_n hx hb dX10_saysOf_90 rfl (lv_at hl 0 rfl) ?_
  refine x_get C0 hP inu10 (k := 0) cm_0 (by decide) rfl 0 (by decide) q4_134 rfl (v := .ref (g.2.2.1 + 1)) rfl dX10_saysOf_91 ?_
  refine lv_sipush (v := (392 : Int32)) hx hb dX10_saysOf_94 (by decide +kernel) ?_
  refine lv_iload_n hx hb dX10_saysOf_97 rfl (lv_at hl 1 rfl) ?_
  refine lv_iadd hx hb dX10_saysOf_98 ?_
  obtain ⟨z12, h⟩ := gd_some h
  refine x_iald C0 hP (k := 1) cm_1 (j := ((392 : Int32) + x1).toNatClampNeg) z12 rfl dX10_saysOf_99 ?_
  obtain ⟨r13, μ13, h1, h⟩ := ob2_some h
  refine x_callV C0 (rest := []) (q := (RX10, TX10, 22)) (c_X10_reads l g ((404 : Int32) + ((60 : Int32) * x1)) (μ11 1 ((392 : Int32) + x1).toNatClampNeg) μ11 h1) q5_44 q5_41 q5_43 r2_15 q1_11 hd_X10_reads ⟨rfl, rfl⟩ ⟨Nat.le_of_ble_eq_true rfl, Nat.le_of_ble_eq_true rfl⟩ cm_0 (by decide) rfl hP hS hl.1 rfl rfl (Nat.le_of_ble_eq_true rfl) dX10_saysOf_100 (fun H locs hP hS => ?_)
  refine W.eq (g2 := F0 m 103 ls [.int r13]) rfl ?_
  obtain ⟨rfl, rfl⟩ := some2 h
  exact x_iret C0 hP hS dX10_saysOf_103
def X10_forceIn_52 (K5 : Int32 → Int32 → Int32 → Int32 → Mem → Option (Int32 × Mem)) (x1 : Int32) (x2 : Int32) (x4 : Int32) (t0 : Int32) (μ : Mem) : Option (Int32 × Mem) :=
  K5 x1 x2 t0 (x4 + (1 : Int32)) μ
set_option maxRecDepth 100000 in
set_option maxHeartbeats 4000000 in
theorem w_X10_forceIn_52 {g : Gx} {p : Program} {l : Launch} {e : Env} {s : State} {m : MethodId} {args : Array Value} {below : List Frame} {meth : Method} {c : Code} (C0 : Cx Lm g p s m args meth c cX10_forceIn 5 (some .int) RX10) {r : Int32} {ν : Mem} (K5 : Int32 → Int32 → Int32 → Int32 → Mem → Option (Int32 × Mem)) (hK5 : ∀ (x1 : Int32) (x2 : Int32) (x3 : Int32) (x4 : Int32) (μ : Mem) (H : Heap) (locs : List Loc) (ls : Array Slot), Px Lm g μ H → va_S (Ax Lm g) s.heap H locs → lv_has ls 5 [(0, .ref (g.2.2.1 + 0)), (1, .int x1), (2, .int x2), (3, .int x3), (4, .int x4)] → K5 x1 x2 x3 x4 μ = some (r, ν) → W p l e { frames := 0, cells := 0, slots := 0, locals := 0 } s m args below meth c H locs 0 0 (MQ below (Qx Lm g (some (.int r)) ν) args s 0 0 (Ax Lm g)) (F0 m 5 ls [])) (x1 : Int32) (x2 : Int32) (x4 : Int32) (t0 : Int32) (μ : Mem) (H : Heap) (locs : List Loc) (ls : Array Slot) (hP : Px Lm g μ H) (hS : va_S (Ax Lm g) s.heap H locs) (hl : lv_has ls 5 [(0, .ref (g.2.2.1 + 0)), (1, .int x1), (2, .int x2), (4, .int x4)]) (h : X10_forceIn_52 K5 x1 x2 x4 t0 μ = some (r, ν)) : W p l e { frames := 0, cells := 0, slots := 0, locals := 0 } s m args below meth c H locs 0 0 (MQ below (Qx Lm g (some (.int r)) ν) args s 0 0 (Ax Lm g)) (F0 m 52 ls [.int t0]) := by
  obtain ⟨hx, hb, hr, hml, hown, hts, hlocks, hK⟩ := id C0
  unfold X10_forceIn_52 at h
  refine lv_istore_n (lv' := [(3, .int t0), (0, .ref (g.2.2.1 + 0)), (1, .int x1), (2, .int x2), (4, .int x4)]) hx hb dX10_forceIn_52 rfl hl (by decide) rfl (fun ls hl => ?_)
  refine lv_iinc (v := (x4 + (1 : Int32))) (lv' := [(4, .int (x4 + (1 : Int32))), (3, .int t0), (0, .ref (g.2.2.1 + 0)), (1, .int x1), (2, .int x2)]) hx hb dX10_forceIn_53 hl (k := 4) rfl rfl (by decide) rfl (fun ls hl => ?_)
  refine lv_goto (tgt := 5) hx hb dX10_forceIn_56 (by decide) ?_
  exact hK5 x1 x2 t0 (x4 + (1 : Int32)) μ _ _ _ hP hS (lv_sub hl [2, 3, 4, 1, 0] rfl) h
def X10_forceIn_51 (K5 : Int32 → Int32 → Int32 → Int32 → Mem → Option (Int32 × Mem)) (x1 : Int32) (x2 : Int32) (x3 : Int32) (x4 : Int32) (μ : Mem) : Option (Int32 × Mem) :=
  X10_forceIn_52 K5 x1 x2 x4 x3 μ
set_option maxRecDepth 100000 in
set_option maxHeartbeats 4000000 in
theorem w_X10_forceIn_51 {g : Gx} {p : Program} {l : Launch} {e : Env} {s : State} {m : MethodId} {args : Array Value} {below : List Frame} {meth : Method} {c : Code} (C0 : Cx Lm g p s m args meth c cX10_forceIn 5 (some .int) RX10) {r : Int32} {ν : Mem} (K5 : Int32 → Int32 → Int32 → Int32 → Mem → Option (Int32 × Mem)) (hK5 : ∀ (x1 : Int32) (x2 : Int32) (x3 : Int32) (x4 : Int32) (μ : Mem) (H : Heap) (locs : List Loc) (ls : Array Slot), Px Lm g μ H → va_S (Ax Lm g) s.heap H locs → lv_has ls 5 [(0, .ref (g.2.2.1 + 0)), (1, .int x1), (2, .int x2), (3, .int x3), (4, .int x4)] → K5 x1 x2 x3 x4 μ = some (r, ν) → W p l e { frames := 0, cells := 0, slots := 0, locals := 0 } s m args below meth c H locs 0 0 (MQ below (Qx Lm g (some (.int r)) ν) args s 0 0 (Ax Lm g)) (F0 m 5 ls [])) (x1 : Int32) (x2 : Int32) (x3 : Int32) (x4 : Int32) (μ : Mem) (H : Heap) (locs : List Loc) (ls : Array Slot) (hP : Px Lm g μ H) (hS : va_S (Ax Lm g) s.heap H locs) (hl : lv_has ls 5 [(0, .ref (g.2.2.1 + 0)), (1, .int x1), (2, .int x2), (3, .int x3), (4, .int x4)]) (h : X10_forceIn_51 K5 x1 x2 x3 x4 μ = some (r, ν)) : W p l e { frames := 0, cells := 0, slots := 0, locals := 0 } s m args below meth c H locs 0 0 (MQ below (Qx Lm g (some (.int r)) ν) args s 0 0 (Ax Lm g)) (F0 m 51 ls []) := by
  obtain ⟨hx, hb, hr, hml, hown, hts, hlocks, hK⟩ := id C0
  unfold X10_forceIn_51 at h
  refine lv_iload_n hx hb dX10_forceIn_51 rfl (lv_at hl 3 rfl) ?_
  exact w_X10_forceIn_52 C0 K5 hK5 x1 x2 x4 x3 μ _ _ _ hP hS (lv_sub hl [0, 1, 2, 4] rfl) h
def X10_forceIn_5  : Nat → Int32 → Int32 → Int32 → Int32 → Mem → Option (Int32 × Mem)
  | 0, _, _, _, _, _ => none
  | n + 1, x1, x2, x3, x4, μ => (if (μ 1 3) ≤ x4 then some (x3, μ) else gd (inB ((368 : Int32) + x4) 1944) ((if (μ 1 ((368 : Int32) + x4).toNatClampNeg) = x1 then gd (inB ((380 : Int32) + x4) 1944) ((if x2 < (μ 1 ((380 : Int32) + x4).toNatClampNeg) then X10_forceIn_51 (X10_forceIn_5 n) x1 x2 x3 x4 μ else X10_forceIn_52 (X10_forceIn_5 n) x1 x2 x4 x4 μ)) else X10_forceIn_51 (X10_forceIn_5 n) x1 x2 x3 x4 μ)))
set_option maxRecDepth 100000 in
set_option maxHeartbeats 4000000 in
theorem w_X10_forceIn_5 {g : Gx} {p : Program} {l : Launch} {e : Env} {s : State} {m : MethodId} {args : Array Value} {below : List Frame} {meth : Method} {c : Code} (C0 : Cx Lm g p s m args meth c cX10_forceIn 5 (some .int) RX10) {r : Int32} {ν : Mem}  (n : Nat) : ∀ (x1 : Int32) (x2 : Int32) (x3 : Int32) (x4 : Int32) (μ : Mem) (H : Heap) (locs : List Loc) (ls : Array Slot), Px Lm g μ H → va_S (Ax Lm g) s.heap H locs → lv_has ls 5 [(0, .ref (g.2.2.1 + 0)), (1, .int x1), (2, .int x2), (3, .int x3), (4, .int x4)] → X10_forceIn_5  n x1 x2 x3 x4 μ = some (r, ν) → W p l e { frames := 0, cells := 0, slots := 0, locals := 0 } s m args below meth c H locs 0 0 (MQ below (Qx Lm g (some (.int r)) ν) args s 0 0 (Ax Lm g)) (F0 m 5 ls []) := by
  obtain ⟨hx, hb, hr, hml, hown, hts, hlocks, hK⟩ := id C0
  induction n with
  | zero =>
    intro x1 x2 x3 x4 μ H locs ls hP hS hl h
    have h : (none : Option (Int32 × Mem)) = some (r, ν) := h
    cases h
  | succ n ih =>
    intro x1 x2 x3 x4 μ H locs ls hP hS hl h
    rw [X10_forceIn_5.eq_2] at h
    refine lv_iload hx hb dX10_forceIn_5 (lv_at hl 4 rfl) ?_
    refine lv_aload_n hx hb dX10_forceIn_7 rfl (lv_at hl 0 rfl) ?_
    refine x_get C0 hP inu10 (k := 0) cm_0 (by decide) rfl 0 (by decide) q4_134 rfl (v := .ref (g.2.2.1 + 1)) rfl dX10_forceIn_8 ?_
    refine lv_iconst (v := (3 : Int32)) hx hb dX10_forceIn_11 rfl ?_
    refine x_iald C0 hP (k := 1) cm_1 (j := 3) (by decide) rfl dX10_forceIn_12 ?_
    refine lv_icmp_ge (tgt := 59) hx hb dX10_forceIn_13 (by decide) (fun c1 => ?_) (fun c1 => ?_)
    · rw [if_pos c1] at h
      refine lv_iload_n hx hb dX10_forceIn_59 rfl (lv_at hl 3 rfl) ?_
      obtain ⟨rfl, rfl⟩ := some2 h
      exact x_iret C0 hP hS dX10_forceIn_60
    · rw [if_neg c1] at h
      refine lv_aload_n hx hb dX10_forceIn_16 rfl (lv_at hl 0 rfl) ?_
      refine x_get C0 hP inu10 (k := 0) cm_0 (by decide) rfl 0 (by decide) q4_134 rfl (v := .ref (g.2.2.1 + 1)) rfl dX10_forceIn_17 ?_
      refine lv_sipush (v := (368 : Int32)) hx hb dX10_forceIn_20 (by decide +kernel) ?_
      refine lv_iload hx hb dX10_forceIn_23 (lv_at hl 4 rfl) ?_
      refine lv_iadd hx hb dX10_forceIn_25 ?_
      obtain ⟨z2, h⟩ := gd_some h
      refine x_iald C0 hP (k := 1) cm_1 (j := ((368 : Int32) + x4).toNatClampNeg) z2 rfl dX10_forceIn_26 ?_
      refine lv_iload_n hx hb dX10_forceIn_27 rfl (lv_at hl 1 rfl) ?_
      refine lv_icmp_ne (tgt := 51) hx hb dX10_forceIn_28 (by decide) (fun c3 => ?_) (fun c3 => ?_)
      · rw [if_neg c3] at h
        exact w_X10_forceIn_51 C0 (X10_forceIn_5  n) ih x1 x2 x3 x4 μ _ _ _ hP hS (lv_sub hl [0, 1, 2, 3, 4] rfl) h
      · rw [if_pos c3] at h
        refine lv_aload_n hx hb dX10_forceIn_31 rfl (lv_at hl 0 rfl) ?_
        refine x_get C0 hP inu10 (k := 0) cm_0 (by decide) rfl 0 (by decide) q4_134 rfl (v := .ref (g.2.2.1 + 1)) rfl dX10_forceIn_32 ?_
        refine lv_sipush (v := (380 : Int32)) hx hb dX10_forceIn_35 (by decide +kernel) ?_
        refine lv_iload hx hb dX10_forceIn_38 (lv_at hl 4 rfl) ?_
        refine lv_iadd hx hb dX10_forceIn_40 ?_
        obtain ⟨z4, h⟩ := gd_some h
        refine x_iald C0 hP (k := 1) cm_1 (j := ((380 : Int32) + x4).toNatClampNeg) z4 rfl dX10_forceIn_41 ?_
        refine lv_iload_n hx hb dX10_forceIn_42 rfl (lv_at hl 2 rfl) ?_
        refine lv_icmp_gt (tgt := 51) hx hb dX10_forceIn_43 (by decide) (fun c5 => ?_) (fun c5 => ?_)
        · rw [if_pos c5] at h
          exact w_X10_forceIn_51 C0 (X10_forceIn_5  n) ih x1 x2 x3 x4 μ _ _ _ hP hS (lv_sub hl [0, 1, 2, 3, 4] rfl) h
        · rw [if_neg c5] at h
          refine lv_iload hx hb dX10_forceIn_46 (lv_at hl 4 rfl) ?_
          refine lv_goto (tgt := 52) hx hb dX10_forceIn_48 (by decide) ?_
          exact w_X10_forceIn_52 C0 (X10_forceIn_5  n) ih x1 x2 x4 x4 μ _ _ _ hP hS (lv_sub hl [0, 1, 2, 4] rfl) h
def X10_forceIn (x1 : Int32) (x2 : Int32) (μ : Mem) : Option (Int32 × Mem) :=
  X10_forceIn_5 FU x1 x2 (-1 : Int32) (0 : Int32) μ
set_option maxRecDepth 100000 in
set_option maxHeartbeats 4000000 in
theorem c_X10_forceIn (l : Launch) (g : Gx) (x1 : Int32) (x2 : Int32) (μ : Mem) {r : Int32} {ν : Mem} (h : X10_forceIn x1 x2 μ = some (r, ν)) : Ct Lm g l yX10_forceIn cX10_forceIn 5 (some .int) { frames := 0, cells := 0, slots := 0, locals := 0 } [.ref (g.2.2.1 + 0), .int x1, .int x2] μ (some (.int r)) ν := by
  refine x_met (lv := [(0, .ref (g.2.2.1 + 0)), (1, .int x1), (2, .int x2)]) rfl (Nat.le_of_ble_eq_true rfl) rfl ?_
  intro p e s m below meth c C0 hP ls hl
  generalize ([.ref (g.2.2.1 + 0), .int x1, .int x2] : List Value).toArray = args at C0 ⊢
  have C0 : Cx Lm g p s m args meth c cX10_forceIn 5 (some .int) RX10 := C0
  have hS : va_S (Ax Lm g) s.heap s.heap [] := va_S.rf
  obtain ⟨hx, hb, hr, hml, hown, hts, hlocks, hK⟩ := id C0
  unfold X10_forceIn at h
  skip
  refine lv_iconst (v := (-1 : Int32)) hx hb dX10_forceIn_0 rfl ?_
  refine lv_istore_n (lv' := [(3, .int (-1 : Int32)), (0, .ref (g.2.2.1 + 0)), (1, .int x1), (2, .int x2)]) hx hb dX10_forceIn_1 rfl hl (by decide) rfl (fun ls hl => ?_)
  refine lv_iconst (v := (0 : Int32)) hx hb dX10_forceIn_2 rfl ?_
  refine lv_istore (lv' := [(4, .int (0 : Int32)), (3, .int (-1 : Int32)), (0, .ref (g.2.2.1 + 0)), (1, .int x1), (2, .int x2)]) hx hb dX10_forceIn_3 hl (by decide) rfl (fun ls hl => ?_)
  exact w_X10_forceIn_5 C0  FU x1 x2 (-1 : Int32) (0 : Int32) μ _ _ _ hP hS (lv_sub hl [2, 3, 4, 1, 0] rfl) h
def X10_rateBy (x1 : Int32) (x2 : Int32) (μ : Mem) : Option (Int32 × Mem) :=
  (if (0 : Int32) ≤ x1 then ob2 (X10_saysOf x1 x2 (μ 1 0) (0 : Int32) μ) fun r2 μ2 => ob2 (X10_within r2 (0 : Int32) (99 : Int32) μ2) fun r3 μ3 => some (r3, μ3) else some ((20 : Int32), μ))
set_option maxRecDepth 100000 in
set_option maxHeartbeats 4000000 in
theorem c_X10_rateBy (l : Launch) (g : Gx) (x1 : Int32) (x2 : Int32) (μ : Mem) {r : Int32} {ν : Mem} (h : X10_rateBy x1 x2 μ = some (r, ν)) : Ct Lm g l yX10_rateBy cX10_rateBy 3 (some .int) { frames := 68, cells := 0, slots := 0, locals := 1543 } [.ref (g.2.2.1 + 0), .int x1, .int x2] μ (some (.int r)) ν := by
  refine x_met (lv := [(0, .ref (g.2.2.1 + 0)), (1, .int x1), (2, .int x2)]) rfl (Nat.le_of_ble_eq_true rfl) rfl ?_
  intro p e s m below meth c C0 hP ls hl
  generalize ([.ref (g.2.2.1 + 0), .int x1, .int x2] : List Value).toArray = args at C0 ⊢
  have C0 : Cx Lm g p s m args meth c cX10_rateBy 3 (some .int) RX10 := C0
  have hS : va_S (Ax Lm g) s.heap s.heap [] := va_S.rf
  obtain ⟨hx, hb, hr, hml, hown, hts, hlocks, hK⟩ := id C0
  unfold X10_rateBy at h
  skip
  refine lv_iload_n hx hb dX10_rateBy_0 rfl (lv_at hl 1 rfl) ?_
  refine lv_if_ge (tgt := 9) hx hb dX10_rateBy_1 (by decide) (fun c1 => ?_) (fun c1 => ?_)
  · rw [if_pos c1] at h
    refine lv_aload_n hx hb dX10_rateBy_9 rfl (lv_at hl 0 rfl) ?_
    refine lv_iload_n hx hb dX10_rateBy_10 rfl (lv_at hl 1 rfl) ?_
    refine lv_iload_n hx hb dX10_rateBy_11 rfl (lv_at hl 2 rfl) ?_
    refine lv_aload_n hx hb dX10_rateBy_12 rfl (lv_at hl 0 rfl) ?_
    refine x_get C0 hP inu10 (k := 0) cm_0 (by decide) rfl 0 (by decide) q4_134 rfl (v := .ref (g.2.2.1 + 1)) rfl dX10_rateBy_13 ?_
    refine lv_iconst (v := (0 : Int32)) hx hb dX10_rateBy_16 rfl ?_
    refine x_iald C0 hP (k := 1) cm_1 (j := 0) (by decide) rfl dX10_rateBy_17 ?_
    refine lv_iconst (v := (0 : Int32)) hx hb dX10_rateBy_18 rfl ?_
    obtain ⟨r2, μ2, h1, h⟩ := ob2_some h
    refine x_callV C0 (rest := []) (q := (RX10, TX10, 22)) (c_X10_saysOf l g x1 x2 (μ 1 0) (0 : Int32) μ h1) q5_40 q5_37 q5_39 r2_14 q1_11 hd_X10_saysOf ⟨rfl, rfl⟩ ⟨Nat.le_of_ble_eq_true rfl, Nat.le_of_ble_eq_true rfl⟩ cm_0 (by decide) rfl hP hS hl.1 rfl rfl (Nat.le_of_ble_eq_true rfl) dX10_rateBy_19 (fun H locs hP hS => ?_)
    refine W.eq (g2 := F0 m 22 ls [.int r2]) rfl ?_
    refine lv_iconst (v := (0 : Int32)) hx hb dX10_rateBy_22 rfl ?_
    refine lv_bipush (v := (99 : Int32)) hx hb dX10_rateBy_23 (by decide +kernel) ?_
    obtain ⟨r3, μ3, h1, h⟩ := ob2_some h
    refine x_callS C0 (rest := []) (c_X10_within l g r2 (0 : Int32) (99 : Int32) μ2 h1) q5_111 q5_109 q5_110 q1_11 hd_X10_within ⟨rfl, rfl⟩ ⟨Nat.le_of_ble_eq_true rfl, Nat.le_of_ble_eq_true rfl⟩ hP hS hl.1 rfl rfl (Nat.le_of_ble_eq_true rfl) dX10_rateBy_25 (fun H locs hP hS => ?_)
    refine W.eq (g2 := F0 m 28 ls [.int r3]) rfl ?_
    obtain ⟨rfl, rfl⟩ := some2 h
    exact x_iret C0 hP hS dX10_rateBy_28
  · rw [if_neg c1] at h
    refine lv_bipush (v := (20 : Int32)) hx hb dX10_rateBy_4 (by decide +kernel) ?_
    refine lv_goto (tgt := 28) hx hb dX10_rateBy_6 (by decide) ?_
    obtain ⟨rfl, rfl⟩ := some2 h
    exact x_iret C0 hP hS dX10_rateBy_28
def X10_loadedOf (x1 : Int32) (μ : Mem) : Option (Int32 × Mem) :=
  ob2 (X10_isSmart x1 μ) fun r1 μ1 => (if r1 = (0 : Int32) then ob2 (X10_of x1 (12 : Int32) μ1) fun r3 μ3 => some (r3, μ3) else ob2 (X10_forceIn (0 : Int32) (μ1 1 0) μ1) fun r4 μ4 => some (r4, μ4))
set_option maxRecDepth 100000 in
set_option maxHeartbeats 4000000 in
theorem c_X10_loadedOf (l : Launch) (g : Gx) (x1 : Int32) (μ : Mem) {r : Int32} {ν : Mem} (h : X10_loadedOf x1 μ = some (r, ν)) : Ct Lm g l yX10_loadedOf cX10_loadedOf 2 (some .int) { frames := 2, cells := 0, slots := 0, locals := 43 } [.ref (g.2.2.1 + 0), .int x1] μ (some (.int r)) ν := by
  refine x_met (lv := [(0, .ref (g.2.2.1 + 0)), (1, .int x1)]) rfl (Nat.le_of_ble_eq_true rfl) rfl ?_
  intro p e s m below meth c C0 hP ls hl
  generalize ([.ref (g.2.2.1 + 0), .int x1] : List Value).toArray = args at C0 ⊢
  have C0 : Cx Lm g p s m args meth c cX10_loadedOf 2 (some .int) RX10 := C0
  have hS : va_S (Ax Lm g) s.heap s.heap [] := va_S.rf
  obtain ⟨hx, hb, hr, hml, hown, hts, hlocks, hK⟩ := id C0
  unfold X10_loadedOf at h
  skip
  refine lv_aload_n hx hb dX10_loadedOf_0 rfl (lv_at hl 0 rfl) ?_
  refine lv_iload_n hx hb dX10_loadedOf_1 rfl (lv_at hl 1 rfl) ?_
  obtain ⟨r1, μ1, h1, h⟩ := ob2_some h
  refine x_callV C0 (rest := []) (q := (RX10, TX10, 22)) (c_X10_isSmart l g x1 μ h1) q5_7 q5_4 q5_6 r2_11 q1_11 hd_X10_isSmart ⟨rfl, rfl⟩ ⟨Nat.le_of_ble_eq_true rfl, Nat.le_of_ble_eq_true rfl⟩ cm_0 (by decide) rfl hP hS hl.1 rfl rfl (Nat.le_of_ble_eq_true rfl) dX10_loadedOf_2 (fun H locs hP hS => ?_)
  refine W.eq (g2 := F0 m 5 ls [.int r1]) rfl ?_
  refine lv_if_eq (tgt := 22) hx hb dX10_loadedOf_5 (by decide) (fun c2 => ?_) (fun c2 => ?_)
  · rw [if_pos c2] at h
    refine lv_aload_n hx hb dX10_loadedOf_22 rfl (lv_at hl 0 rfl) ?_
    refine lv_iload_n hx hb dX10_loadedOf_23 rfl (lv_at hl 1 rfl) ?_
    refine lv_bipush (v := (12 : Int32)) hx hb dX10_loadedOf_24 (by decide +kernel) ?_
    obtain ⟨r3, μ3, h1, h⟩ := ob2_some h
    refine x_callV C0 (rest := []) (q := (RX10, TX10, 22)) (c_X10_of l g x1 (12 : Int32) μ1 h1) q4_235 q4_232 q4_234 r2_9 q1_11 hd_X10_of ⟨rfl, rfl⟩ ⟨Nat.le_of_ble_eq_true rfl, Nat.le_of_ble_eq_true rfl⟩ cm_0 (by decide) rfl hP hS hl.1 rfl rfl (Nat.le_of_ble_eq_true rfl) dX10_loadedOf_26 (fun H locs hP hS => ?_)
    refine W.eq (g2 := F0 m 29 ls [.int r3]) rfl ?_
    obtain ⟨rfl, rfl⟩ := some2 h
    exact x_iret C0 hP hS dX10_loadedOf_29
  · rw [if_neg c2] at h
    refine lv_aload_n hx hb dX10_loadedOf_8 rfl (lv_at hl 0 rfl) ?_
    refine lv_iconst (v := (0 : Int32)) hx hb dX10_loadedOf_9 rfl ?_
    refine lv_aload_n hx hb dX10_loadedOf_10 rfl (lv_at hl 0 rfl) ?_
    refine x_get C0 hP inu10 (k := 0) cm_0 (by decide) rfl 0 (by decide) q4_134 rfl (v := .ref (g.2.2.1 + 1)) rfl dX10_loadedOf_11 ?_
    refine lv_iconst (v := (0 : Int32)) hx hb dX10_loadedOf_14 rfl ?_
    refine x_iald C0 hP (k := 1) cm_1 (j := 0) (by decide) rfl dX10_loadedOf_15 ?_
    obtain ⟨r4, μ4, h1, h⟩ := ob2_some h
    refine x_callV C0 (rest := []) (q := (RX10, TX10, 22)) (c_X10_forceIn l g (0 : Int32) (μ1 1 0) μ1 h1) q4_223 q4_220 q4_222 r2_7 q1_11 hd_X10_forceIn ⟨rfl, rfl⟩ ⟨Nat.le_of_ble_eq_true rfl, Nat.le_of_ble_eq_true rfl⟩ cm_0 (by decide) rfl hP hS hl.1 rfl rfl (Nat.le_of_ble_eq_true rfl) dX10_loadedOf_16 (fun H locs hP hS => ?_)
    refine W.eq (g2 := F0 m 19 ls [.int r4]) rfl ?_
    refine lv_goto (tgt := 29) hx hb dX10_loadedOf_19 (by decide) ?_
    obtain ⟨rfl, rfl⟩ := some2 h
    exact x_iret C0 hP hS dX10_loadedOf_29
def X10_standingOf (x1 : Int32) (μ : Mem) : Option (Int32 × Mem) :=
  ob2 (X10_forceIn (1 : Int32) (μ 1 0) μ) fun r1 μ1 => (if (0 : Int32) ≤ r1 then ob2 (X10_saysOf r1 x1 (μ1 1 0) (0 : Int32) μ1) fun r3 μ3 => ob2 (X10_within r3 (0 : Int32) (999 : Int32) μ3) fun r4 μ4 => some (r4, μ4) else some ((30 : Int32), μ1))
set_option maxRecDepth 100000 in
set_option maxHeartbeats 4000000 in
theorem c_X10_standingOf (l : Launch) (g : Gx) (x1 : Int32) (μ : Mem) {r : Int32} {ν : Mem} (h : X10_standingOf x1 μ = some (r, ν)) : Ct Lm g l yX10_standingOf cX10_standingOf 3 (some .int) { frames := 68, cells := 0, slots := 0, locals := 1543 } [.ref (g.2.2.1 + 0), .int x1] μ (some (.int r)) ν := by
  refine x_met (lv := [(0, .ref (g.2.2.1 + 0)), (1, .int x1)]) rfl (Nat.le_of_ble_eq_true rfl) rfl ?_
  intro p e s m below meth c C0 hP ls hl
  generalize ([.ref (g.2.2.1 + 0), .int x1] : List Value).toArray = args at C0 ⊢
  have C0 : Cx Lm g p s m args meth c cX10_standingOf 3 (some .int) RX10 := C0
  have hS : va_S (Ax Lm g) s.heap s.heap [] := va_S.rf
  obtain ⟨hx, hb, hr, hml, hown, hts, hlocks, hK⟩ := id C0
  unfold X10_standingOf at h
  skip
  refine lv_aload_n hx hb dX10_standingOf_0 rfl (lv_at hl 0 rfl) ?_
  refine lv_iconst (v := (1 : Int32)) hx hb dX10_standingOf_1 rfl ?_
  refine lv_aload_n hx hb dX10_standingOf_2 rfl (lv_at hl 0 rfl) ?_
  refine x_get C0 hP inu10 (k := 0) cm_0 (by decide) rfl 0 (by decide) q4_134 rfl (v := .ref (g.2.2.1 + 1)) rfl dX10_standingOf_3 ?_
  refine lv_iconst (v := (0 : Int32)) hx hb dX10_standingOf_6 rfl ?_
  refine x_iald C0 hP (k := 1) cm_1 (j := 0) (by decide) rfl dX10_standingOf_7 ?_
  obtain ⟨r1, μ1, h1, h⟩ := ob2_some h
  refine x_callV C0 (rest := []) (q := (RX10, TX10, 22)) (c_X10_forceIn l g (1 : Int32) (μ 1 0) μ h1) q4_223 q4_220 q4_222 r2_7 q1_11 hd_X10_forceIn ⟨rfl, rfl⟩ ⟨Nat.le_of_ble_eq_true rfl, Nat.le_of_ble_eq_true rfl⟩ cm_0 (by decide) rfl hP hS hl.1 rfl rfl (Nat.le_of_ble_eq_true rfl) dX10_standingOf_8 (fun H locs hP hS => ?_)
  refine W.eq (g2 := F0 m 11 ls [.int r1]) rfl ?_
  refine lv_istore_n (lv' := [(2, .int r1), (0, .ref (g.2.2.1 + 0)), (1, .int x1)]) hx hb dX10_standingOf_11 rfl hl (by decide) rfl (fun ls hl => ?_)
  refine lv_iload_n hx hb dX10_standingOf_12 rfl (lv_at hl 0 rfl) ?_
  refine lv_if_ge (tgt := 21) hx hb dX10_standingOf_13 (by decide) (fun c2 => ?_) (fun c2 => ?_)
  · rw [if_pos c2] at h
    refine lv_aload_n hx hb dX10_standingOf_21 rfl (lv_at hl 1 rfl) ?_
    refine lv_iload_n hx hb dX10_standingOf_22 rfl (lv_at hl 0 rfl) ?_
    refine lv_iload_n hx hb dX10_standingOf_23 rfl (lv_at hl 2 rfl) ?_
    refine lv_aload_n hx hb dX10_standingOf_24 rfl (lv_at hl 1 rfl) ?_
    refine x_get C0 hP inu10 (k := 0) cm_0 (by decide) rfl 0 (by decide) q4_134 rfl (v := .ref (g.2.2.1 + 1)) rfl dX10_standingOf_25 ?_
    refine lv_iconst (v := (0 : Int32)) hx hb dX10_standingOf_28 rfl ?_
    refine x_iald C0 hP (k := 1) cm_1 (j := 0) (by decide) rfl dX10_standingOf_29 ?_
    refine lv_iconst (v := (0 : Int32)) hx hb dX10_standingOf_30 rfl ?_
    obtain ⟨r3, μ3, h1, h⟩ := ob2_some h
    refine x_callV C0 (rest := []) (q := (RX10, TX10, 22)) (c_X10_saysOf l g r1 x1 (μ1 1 0) (0 : Int32) μ1 h1) q5_40 q5_37 q5_39 r2_14 q1_11 hd_X10_saysOf ⟨rfl, rfl⟩ ⟨Nat.le_of_ble_eq_true rfl, Nat.le_of_ble_eq_true rfl⟩ cm_0 (by decide) rfl hP hS hl.1 rfl rfl (Nat.le_of_ble_eq_true rfl) dX10_standingOf_31 (fun H locs hP hS => ?_)
    refine W.eq (g2 := F0 m 34 ls [.int r3]) rfl ?_
    refine lv_iconst (v := (0 : Int32)) hx hb dX10_standingOf_34 rfl ?_
    refine lv_sipush (v := (999 : Int32)) hx hb dX10_standingOf_35 (by decide +kernel) ?_
    obtain ⟨r4, μ4, h1, h⟩ := ob2_some h
    refine x_callS C0 (rest := []) (c_X10_within l g r3 (0 : Int32) (999 : Int32) μ3 h1) q5_111 q5_109 q5_110 q1_11 hd_X10_within ⟨rfl, rfl⟩ ⟨Nat.le_of_ble_eq_true rfl, Nat.le_of_ble_eq_true rfl⟩ hP hS hl.1 rfl rfl (Nat.le_of_ble_eq_true rfl) dX10_standingOf_38 (fun H locs hP hS => ?_)
    refine W.eq (g2 := F0 m 41 ls [.int r4]) rfl ?_
    obtain ⟨rfl, rfl⟩ := some2 h
    exact x_iret C0 hP hS dX10_standingOf_41
  · rw [if_neg c2] at h
    refine lv_bipush (v := (30 : Int32)) hx hb dX10_standingOf_16 (by decide +kernel) ?_
    refine lv_goto (tgt := 41) hx hb dX10_standingOf_18 (by decide) ?_
    obtain ⟨rfl, rfl⟩ := some2 h
    exact x_iret C0 hP hS dX10_standingOf_41
def X10_isPlace (x0 : Int32) (μ : Mem) : Option (Int32 × Mem) :=
  (if x0 < (0 : Int32) then some ((0 : Int32), μ) else (if (30 : Int32) < (x0 / (100 : Int32)) then some ((0 : Int32), μ) else (if (30 : Int32) < (x0 - x0 / (100 : Int32) * (100 : Int32)) then some ((0 : Int32), μ) else some ((1 : Int32), μ))))
set_option maxRecDepth 100000 in
set_option maxHeartbeats 4000000 in
theorem c_X10_isPlace (l : Launch) (g : Gx) (x0 : Int32) (μ : Mem) {r : Int32} {ν : Mem} (h : X10_isPlace x0 μ = some (r, ν)) : Ct Lm g l yX10_isPlace cX10_isPlace 1 (some .boolean) { frames := 0, cells := 0, slots := 0, locals := 0 } [.int x0] μ (some (.int r)) ν := by
  refine x_met (lv := [(0, .int x0)]) rfl (Nat.le_of_ble_eq_true rfl) rfl ?_
  intro p e s m below meth c C0 hP ls hl
  generalize ([.int x0] : List Value).toArray = args at C0 ⊢
  have C0 : Cx Lm g p s m args meth c cX10_isPlace 1 (some .boolean) RX10 := C0
  have hS : va_S (Ax Lm g) s.heap s.heap [] := va_S.rf
  obtain ⟨hx, hb, hr, hml, hown, hts, hlocks, hK⟩ := id C0
  unfold X10_isPlace at h
  skip
  refine lv_iload_n hx hb dX10_isPlace_0 rfl (lv_at hl 0 rfl) ?_
  refine lv_if_lt (tgt := 26) hx hb dX10_isPlace_1 (by decide) (fun c1 => ?_) (fun c1 => ?_)
  · rw [if_pos c1] at h
    refine lv_iconst (v := (0 : Int32)) hx hb dX10_isPlace_26 rfl ?_
    obtain ⟨rfl, rfl⟩ := some2 h
    exact x_zret C0 hP hS (by decide) dX10_isPlace_27
  · rw [if_neg c1] at h
    refine lv_iload_n hx hb dX10_isPlace_4 rfl (lv_at hl 0 rfl) ?_
    refine lv_bipush (v := (100 : Int32)) hx hb dX10_isPlace_5 (by decide +kernel) ?_
    refine lv_idiv hx hb dX10_isPlace_7 (by decide) ?_
    refine lv_bipush (v := (30 : Int32)) hx hb dX10_isPlace_8 (by decide +kernel) ?_
    refine lv_icmp_gt (tgt := 26) hx hb dX10_isPlace_10 (by decide) (fun c2 => ?_) (fun c2 => ?_)
    · rw [if_pos c2] at h
      refine lv_iconst (v := (0 : Int32)) hx hb dX10_isPlace_26 rfl ?_
      obtain ⟨rfl, rfl⟩ := some2 h
      exact x_zret C0 hP hS (by decide) dX10_isPlace_27
    · rw [if_neg c2] at h
      refine lv_iload_n hx hb dX10_isPlace_13 rfl (lv_at hl 0 rfl) ?_
      refine lv_bipush (v := (100 : Int32)) hx hb dX10_isPlace_14 (by decide +kernel) ?_
      refine lv_irem hx hb dX10_isPlace_16 (by decide) ?_
      refine lv_bipush (v := (30 : Int32)) hx hb dX10_isPlace_17 (by decide +kernel) ?_
      refine lv_icmp_gt (tgt := 26) hx hb dX10_isPlace_19 (by decide) (fun c3 => ?_) (fun c3 => ?_)
      · rw [if_pos c3] at h
        refine lv_iconst (v := (0 : Int32)) hx hb dX10_isPlace_26 rfl ?_
        obtain ⟨rfl, rfl⟩ := some2 h
        exact x_zret C0 hP hS (by decide) dX10_isPlace_27
      · rw [if_neg c3] at h
        refine lv_iconst (v := (1 : Int32)) hx hb dX10_isPlace_22 rfl ?_
        refine lv_goto (tgt := 27) hx hb dX10_isPlace_23 (by decide) ?_
        obtain ⟨rfl, rfl⟩ := some2 h
        exact x_zret C0 hP hS (by decide) dX10_isPlace_27
