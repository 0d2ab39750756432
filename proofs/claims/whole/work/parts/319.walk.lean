def X10_tell_24  (x1 : Int32) (μ : Mem) : Option (Int32 × Mem) :=
  ob (X10_begins (21 : Int32) μ) fun μ2 => ob2 (X10_meterTell (x1 + (1 : Int32)) μ2) fun r3 μ3 => some (r3, μ3)
set_option maxRecDepth 100000 in
set_option maxHeartbeats 4000000 in
theorem w_X10_tell_24 {g : Gx} {p : Program} {l : Launch} {e : Env} {s : State} {m : MethodId} {args : Array Value} {below : List Frame} {meth : Method} {c : Code} (C0 : Cx Lm g p s m args meth c cX10_tell 3 (some .int) RX10) {r : Int32} {ν : Mem}  (x1 : Int32) (μ : Mem) (H : Heap) (locs : List Loc) (ls : Array Slot) (hP : Px Lm g μ H) (hS : va_S (Ax Lm g) s.heap H locs) (hl : lv_has ls 3 [(0, .ref (g.2.2.1 + 0)), (1, .int x1)]) (h : X10_tell_24  x1 μ = some (r, ν)) : W p l e { frames := 8, cells := 0, slots := 0, locals := 171 } s m args below meth c H locs 0 0 (MQ below (Qx Lm g (some (.int r)) ν) args s 0 0 (Ax Lm g)) (F0 m 24 ls []) := by
  obtain ⟨hx, hb, hr, hml, hown, hts, hlocks, hK⟩ := id C0
  unfold X10_tell_24 at h
  refine lv_aload_n hx hb dX10_tell_24 rfl (lv_at hl 0 rfl) ?_
  refine lv_bipush (v := (21 : Int32)) hx hb dX10_tell_25 (by decide +kernel) ?_
  obtain ⟨μ2, h1, h⟩ := ob_some h
  refine x_callV C0 (rest := []) (q := (RX10, TX10, 22)) (c_X10_begins l g (21 : Int32) μ h1) q5_218 q5_215 q5_217 r4_6 q1_11 hd_X10_begins ⟨rfl, rfl⟩ ⟨Nat.le_of_ble_eq_true rfl, Nat.le_of_ble_eq_true rfl⟩ cm_0 (by decide) rfl hP hS hl.1 rfl rfl (Nat.le_of_ble_eq_true rfl) dX10_tell_27 (fun H locs hP hS => ?_)
  refine W.eq (g2 := F0 m 30 ls []) rfl ?_
  refine lv_aload_n hx hb dX10_tell_30 rfl (lv_at hl 0 rfl) ?_
  refine lv_iload_n hx hb dX10_tell_31 rfl (lv_at hl 1 rfl) ?_
  refine lv_iconst (v := (1 : Int32)) hx hb dX10_tell_32 rfl ?_
  refine lv_iadd hx hb dX10_tell_33 ?_
  obtain ⟨r3, μ3, h1, h⟩ := ob2_some h
  refine x_callV C0 (rest := []) (q := (RX10, TX10, 22)) (c_X10_meterTell l g (x1 + (1 : Int32)) μ2 h1) q6_14 q6_11 q6_13 r4_15 q1_11 hd_X10_meterTell ⟨rfl, rfl⟩ ⟨Nat.le_of_ble_eq_true rfl, Nat.le_of_ble_eq_true rfl⟩ cm_0 (by decide) rfl hP hS hl.1 rfl rfl (Nat.le_of_ble_eq_true rfl) dX10_tell_34 (fun H locs hP hS => ?_)
  refine W.eq (g2 := F0 m 37 ls [.int r3]) rfl ?_
  obtain ⟨rfl, rfl⟩ := some2 h
  exact x_iret C0 hP hS dX10_tell_37
def X10_tell (x1 : Int32) (μ : Mem) : Option (Int32 × Mem) :=
  (if (μ 0 17) = (1 : Int32) then X10_tell_24 x1 μ else (if (μ 0 17) = (3 : Int32) then X10_tell_24 x1 μ else (if (μ 0 17) = (5 : Int32) then X10_tell_24 x1 μ else (if (μ 0 17) = (4 : Int32) then ob (X10_begins (50 : Int32) μ) fun μ8 => ob2 (X10_click x1 μ8) fun r9 μ9 => ob2 (X10_meterTell x1 μ9) fun r10 μ10 => some ((r9 - r10), μ10) else ob2 (X10_meterTell x1 μ) fun r7 μ7 => some (r7, μ7)))))
set_option maxRecDepth 100000 in
set_option maxHeartbeats 4000000 in
theorem c_X10_tell (l : Launch) (g : Gx) (x1 : Int32) (μ : Mem) {r : Int32} {ν : Mem} (h : X10_tell x1 μ = some (r, ν)) : Ct Lm g l yX10_tell cX10_tell 3 (some .int) { frames := 8, cells := 0, slots := 0, locals := 171 } [.ref (g.2.2.1 + 0), .int x1] μ (some (.int r)) ν := by
  refine x_met (lv := [(0, .ref (g.2.2.1 + 0)), (1, .int x1)]) rfl (Nat.le_of_ble_eq_true rfl) rfl ?_
  intro p e s m below meth c C0 hP ls hl
  generalize ([.ref (g.2.2.1 + 0), .int x1] : List Value).toArray = args at C0 ⊢
  have C0 : Cx Lm g p s m args meth c cX10_tell 3 (some .int) RX10 := C0
  have hS : va_S (Ax Lm g) s.heap s.heap [] := va_S.rf
  obtain ⟨hx, hb, hr, hml, hown, hts, hlocks, hK⟩ := id C0
  unfold X10_tell at h
  skip
  refine lv_aload_n hx hb dX10_tell_0 rfl (lv_at hl 0 rfl) ?_
  refine x_get C0 hP inu10 (k := 0) cm_0 (by decide) rfl 17 (by decide) q4_151 rfl (v := .int (μ 0 17)) rfl dX10_tell_1 ?_
  refine lv_iconst (v := (1 : Int32)) hx hb dX10_tell_4 rfl ?_
  refine lv_icmp_eq (tgt := 24) hx hb dX10_tell_5 (by decide) (fun c1 => ?_) (fun c1 => ?_)
  · rw [if_pos c1] at h
    exact w_X10_tell_24 C0  x1 μ _ _ _ hP hS (lv_sub hl [0, 1] rfl) h
  · rw [if_neg c1] at h
    refine lv_aload_n hx hb dX10_tell_8 rfl (lv_at hl 0 rfl) ?_
    refine x_get C0 hP inu10 (k := 0) cm_0 (by decide) rfl 17 (by decide) q4_151 rfl (v := .int (μ 0 17)) rfl dX10_tell_9 ?_
    refine lv_iconst (v := (3 : Int32)) hx hb dX10_tell_12 rfl ?_
    refine lv_icmp_eq (tgt := 24) hx hb dX10_tell_13 (by decide) (fun c4 => ?_) (fun c4 => ?_)
    · rw [if_pos c4] at h
      exact w_X10_tell_24 C0  x1 μ _ _ _ hP hS (lv_sub hl [0, 1] rfl) h
    · rw [if_neg c4] at h
      refine lv_aload_n hx hb dX10_tell_16 rfl (lv_at hl 0 rfl) ?_
      refine x_get C0 hP inu10 (k := 0) cm_0 (by decide) rfl 17 (by decide) q4_151 rfl (v := .int (μ 0 17)) rfl dX10_tell_17 ?_
      refine lv_iconst (v := (5 : Int32)) hx hb dX10_tell_20 rfl ?_
      refine lv_icmp_ne (tgt := 38) hx hb dX10_tell_21 (by decide) (fun c5 => ?_) (fun c5 => ?_)
      · rw [if_neg c5] at h
        refine lv_aload_n hx hb dX10_tell_38 rfl (lv_at hl 0 rfl) ?_
        refine x_get C0 hP inu10 (k := 0) cm_0 (by decide) rfl 17 (by decide) q4_151 rfl (v := .int (μ 0 17)) rfl dX10_tell_39 ?_
        refine lv_iconst (v := (4 : Int32)) hx hb dX10_tell_42 rfl ?_
        refine lv_icmp_ne (tgt := 66) hx hb dX10_tell_43 (by decide) (fun c6 => ?_) (fun c6 => ?_)
        · rw [if_neg c6] at h
          refine lv_aload_n hx hb dX10_tell_66 rfl (lv_at hl 0 rfl) ?_
          refine lv_iload_n hx hb dX10_tell_67 rfl (lv_at hl 1 rfl) ?_
          obtain ⟨r7, μ7, h1, h⟩ := ob2_some h
          refine x_callV C0 (rest := []) (q := (RX10, TX10, 22)) (c_X10_meterTell l g x1 μ h1) q6_14 q6_11 q6_13 r4_15 q1_11 hd_X10_meterTell ⟨rfl, rfl⟩ ⟨Nat.le_of_ble_eq_true rfl, Nat.le_of_ble_eq_true rfl⟩ cm_0 (by decide) rfl hP hS hl.1 rfl rfl (Nat.le_of_ble_eq_true rfl) dX10_tell_68 (fun H locs hP hS => ?_)
          refine W.eq (g2 := F0 m 71 ls [.int r7]) rfl ?_
          obtain ⟨rfl, rfl⟩ := some2 h
          exact x_iret C0 hP hS dX10_tell_71
        · rw [if_pos c6] at h
          refine lv_aload_n hx hb dX10_tell_46 rfl (lv_at hl 0 rfl) ?_
          refine lv_bipush (v := (50 : Int32)) hx hb dX10_tell_47 (by decide +kernel) ?_
          obtain ⟨μ8, h1, h⟩ := ob_some h
          refine x_callV C0 (rest := []) (q := (RX10, TX10, 22)) (c_X10_begins l g (50 : Int32) μ h1) q5_218 q5_215 q5_217 r4_6 q1_11 hd_X10_begins ⟨rfl, rfl⟩ ⟨Nat.le_of_ble_eq_true rfl, Nat.le_of_ble_eq_true rfl⟩ cm_0 (by decide) rfl hP hS hl.1 rfl rfl (Nat.le_of_ble_eq_true rfl) dX10_tell_49 (fun H locs hP hS => ?_)
          refine W.eq (g2 := F0 m 52 ls []) rfl ?_
          refine lv_aload_n hx hb dX10_tell_52 rfl (lv_at hl 0 rfl) ?_
          refine lv_iload_n hx hb dX10_tell_53 rfl (lv_at hl 1 rfl) ?_
          obtain ⟨r9, μ9, h1, h⟩ := ob2_some h
          refine x_callV C0 (rest := []) (q := (RX10, TX10, 22)) (c_X10_click l g x1 μ8 h1) q6_2 q5_239 q6_1 r4_12 q1_11 hd_X10_click ⟨rfl, rfl⟩ ⟨Nat.le_of_ble_eq_true rfl, Nat.le_of_ble_eq_true rfl⟩ cm_0 (by decide) rfl hP hS hl.1 rfl rfl (Nat.le_of_ble_eq_true rfl) dX10_tell_54 (fun H locs hP hS => ?_)
          refine W.eq (g2 := F0 m 57 ls [.int r9]) rfl ?_
          refine lv_istore_n (lv' := [(2, .int r9), (0, .ref (g.2.2.1 + 0)), (1, .int x1)]) hx hb dX10_tell_57 rfl hl (by decide) rfl (fun ls hl => ?_)
          refine lv_iload_n hx hb dX10_tell_58 rfl (lv_at hl 0 rfl) ?_
          refine lv_aload_n hx hb dX10_tell_59 rfl (lv_at hl 1 rfl) ?_
          refine lv_iload_n hx hb dX10_tell_60 rfl (lv_at hl 2 rfl) ?_
          obtain ⟨r10, μ10, h1, h⟩ := ob2_some h
          refine x_callV C0 (rest := [.int r9]) (q := (RX10, TX10, 22)) (c_X10_meterTell l g x1 μ9 h1) q6_14 q6_11 q6_13 r4_15 q1_11 hd_X10_meterTell ⟨rfl, rfl⟩ ⟨Nat.le_of_ble_eq_true rfl, Nat.le_of_ble_eq_true rfl⟩ cm_0 (by decide) rfl hP hS hl.1 rfl rfl (Nat.le_of_ble_eq_true rfl) dX10_tell_61 (fun H locs hP hS => ?_)
          refine W.eq (g2 := F0 m 64 ls [.int r10, .int r9]) rfl ?_
          refine lv_isub hx hb dX10_tell_64 ?_
          obtain ⟨rfl, rfl⟩ := some2 h
          exact x_iret C0 hP hS dX10_tell_65
      · rw [if_pos c5] at h
        exact w_X10_tell_24 C0  x1 μ _ _ _ hP hS (lv_sub hl [0, 1] rfl) h
def X10_voice_17   (μ : Mem) : Option (Int32 × Mem) :=
  ob2 (X10_finding (1 : Int32) μ) fun r3 μ3 => some (r3, μ3)
set_option maxRecDepth 100000 in
set_option maxHeartbeats 4000000 in
theorem w_X10_voice_17 {g : Gx} {p : Program} {l : Launch} {e : Env} {s : State} {m : MethodId} {args : Array Value} {below : List Frame} {meth : Method} {c : Code} (C0 : Cx Lm g p s m args meth c cX10_voice 4 (some .int) RX10) {r : Int32} {ν : Mem}   (μ : Mem) (H : Heap) (locs : List Loc) (ls : Array Slot) (hP : Px Lm g μ H) (hS : va_S (Ax Lm g) s.heap H locs) (hl : lv_has ls 4 [(0, .ref (g.2.2.1 + 0))]) (h : X10_voice_17   μ = some (r, ν)) : W p l e { frames := 9, cells := 0, slots := 0, locals := 193 } s m args below meth c H locs 0 0 (MQ below (Qx Lm g (some (.int r)) ν) args s 0 0 (Ax Lm g)) (F0 m 17 ls []) := by
  obtain ⟨hx, hb, hr, hml, hown, hts, hlocks, hK⟩ := id C0
  unfold X10_voice_17 at h
  refine lv_aload_n hx hb dX10_voice_17 rfl (lv_at hl 0 rfl) ?_
  refine lv_iconst (v := (1 : Int32)) hx hb dX10_voice_18 rfl ?_
  obtain ⟨r3, μ3, h1, h⟩ := ob2_some h
  refine x_callV C0 (rest := []) (q := (RX10, TX10, 22)) (c_X10_finding l g (1 : Int32) μ h1) q4_214 q4_211 q4_213 r2_5 q1_11 hd_X10_finding ⟨rfl, rfl⟩ ⟨Nat.le_of_ble_eq_true rfl, Nat.le_of_ble_eq_true rfl⟩ cm_0 (by decide) rfl hP hS hl.1 rfl rfl (Nat.le_of_ble_eq_true rfl) dX10_voice_19 (fun H locs hP hS => ?_)
  refine W.eq (g2 := F0 m 22 ls [.int r3]) rfl ?_
  obtain ⟨rfl, rfl⟩ := some2 h
  exact x_iret C0 hP hS dX10_voice_22
def X10_voice (x1 : Int32) (x2 : Int32) (x3 : Int32) (μ : Mem) : Option (Int32 × Mem) :=
  ob2 (X10_isMeter x1 μ) fun r1 μ1 => (if r1 = (0 : Int32) then X10_voice_17 μ1 else ob2 (X10_in x2 (0 : Int32) (3 : Int32) μ1) fun r4 μ4 => (if r4 = (0 : Int32) then X10_voice_17 μ4 else lt (st μ4 0 14 (0 : Int32)) fun μ6 => lt (st μ6 0 15 x1) fun μ7 => ob2 (X10_of x1 (1 : Int32) μ7) fun r8 μ8 => ob2 (X10_of x1 (2 : Int32) μ8) fun r9 μ9 => lt (st μ9 0 16 (r8 + r9)) fun μ10 => ob2 (X10_of x1 (0 : Int32) μ10) fun r11 μ11 => lt (st μ11 0 17 r11) fun μ12 => (if x2 = (0 : Int32) then ob2 (X10_tick x3 μ12) fun r19 μ19 => some (r19, μ19) else (if x2 = (1 : Int32) then ob2 (X10_hum x3 μ12) fun r18 μ18 => some (r18, μ18) else (if x2 = (2 : Int32) then ob2 (X10_click x3 μ12) fun r17 μ17 => some (r17, μ17) else ob2 (X10_tell x3 μ12) fun r16 μ16 => some (r16, μ16))))))
set_option maxRecDepth 100000 in
set_option maxHeartbeats 4000000 in
theorem c_X10_voice (l : Launch) (g : Gx) (x1 : Int32) (x2 : Int32) (x3 : Int32) (μ : Mem) {r : Int32} {ν : Mem} (h : X10_voice x1 x2 x3 μ = some (r, ν)) : Ct Lm g l yX10_voice cX10_voice 4 (some .int) { frames := 9, cells := 0, slots := 0, locals := 193 } [.ref (g.2.2.1 + 0), .int x1, .int x2, .int x3] μ (some (.int r)) ν := by
  refine x_met (lv := [(0, .ref (g.2.2.1 + 0)), (1, .int x1), (2, .int x2), (3, .int x3)]) rfl (Nat.le_of_ble_eq_true rfl) rfl ?_
  intro p e s m below meth c C0 hP ls hl
  generalize ([.ref (g.2.2.1 + 0), .int x1, .int x2, .int x3] : List Value).toArray = args at C0 ⊢
  have C0 : Cx Lm g p s m args meth c cX10_voice 4 (some .int) RX10 := C0
  have hS : va_S (Ax Lm g) s.heap s.heap [] := va_S.rf
  obtain ⟨hx, hb, hr, hml, hown, hts, hlocks, hK⟩ := id C0
  unfold X10_voice at h
  skip
  refine lv_aload_n hx hb dX10_voice_0 rfl (lv_at hl 0 rfl) ?_
  refine lv_iload_n hx hb dX10_voice_1 rfl (lv_at hl 1 rfl) ?_
  obtain ⟨r1, μ1, h1, h⟩ := ob2_some h
  refine x_callV C0 (rest := []) (q := (RX10, TX10, 22)) (c_X10_isMeter l g x1 μ h1) q4_231 q4_228 q4_230 r2_8 q1_11 hd_X10_isMeter ⟨rfl, rfl⟩ ⟨Nat.le_of_ble_eq_true rfl, Nat.le_of_ble_eq_true rfl⟩ cm_0 (by decide) rfl hP hS hl.1 rfl rfl (Nat.le_of_ble_eq_true rfl) dX10_voice_2 (fun H locs hP hS => ?_)
  refine W.eq (g2 := F0 m 5 ls [.int r1]) rfl ?_
  refine lv_if_eq (tgt := 17) hx hb dX10_voice_5 (by decide) (fun c2 => ?_) (fun c2 => ?_)
  · rw [if_pos c2] at h
    exact w_X10_voice_17 C0   μ1 _ _ _ hP hS (lv_sub hl [0] rfl) h
  · rw [if_neg c2] at h
    refine lv_iload_n hx hb dX10_voice_8 rfl (lv_at hl 2 rfl) ?_
    refine lv_iconst (v := (0 : Int32)) hx hb dX10_voice_9 rfl ?_
    refine lv_iconst (v := (3 : Int32)) hx hb dX10_voice_10 rfl ?_
    obtain ⟨r4, μ4, h1, h⟩ := ob2_some h
    refine x_callS C0 (rest := []) (c_X10_in l g x2 (0 : Int32) (3 : Int32) μ1 h1) q4_207 q4_205 q4_206 q1_11 hd_X10_in ⟨rfl, rfl⟩ ⟨Nat.le_of_ble_eq_true rfl, Nat.le_of_ble_eq_true rfl⟩ hP hS hl.1 rfl rfl (Nat.le_of_ble_eq_true rfl) dX10_voice_11 (fun H locs hP hS => ?_)
    refine W.eq (g2 := F0 m 14 ls [.int r4]) rfl ?_
    refine lv_if_ne (tgt := 23) hx hb dX10_voice_14 (by decide) (fun c5 => ?_) (fun c5 => ?_)
    · rw [if_neg c5] at h
      refine lv_aload_n hx hb dX10_voice_23 rfl (lv_at hl 0 rfl) ?_
      refine lv_iconst (v := (0 : Int32)) hx hb dX10_voice_24 rfl ?_
      obtain ⟨μ6, e6, h⟩ := lt_some h
      refine x_put C0 hP hS inu10 tyX10 tyX10_ok nmX10 (k := 0) cm_0 (by decide) rfl 14 (by decide) q4_148 rfl rfl (v := .int (0 : Int32)) (x := (0 : Int32)) rfl rfl (Nat.le_of_ble_eq_true rfl) (os_10_14 _ _ _ _) dX10_voice_25 (fun H locs hP hS => ?_)
      rw [← e6] at hP
      refine lv_aload_n hx hb dX10_voice_28 rfl (lv_at hl 0 rfl) ?_
      refine lv_iload_n hx hb dX10_voice_29 rfl (lv_at hl 1 rfl) ?_
      obtain ⟨μ7, e7, h⟩ := lt_some h
      refine x_put C0 hP hS inu10 tyX10 tyX10_ok nmX10 (k := 0) cm_0 (by decide) rfl 15 (by decide) q4_149 rfl rfl (v := .int x1) (x := x1) rfl rfl (Nat.le_of_ble_eq_true rfl) (os_10_15 _ _ _ _) dX10_voice_30 (fun H locs hP hS => ?_)
      rw [← e7] at hP
      refine lv_aload_n hx hb dX10_voice_33 rfl (lv_at hl 0 rfl) ?_
      refine lv_aload_n hx hb dX10_voice_34 rfl (lv_at hl 0 rfl) ?_
      refine lv_iload_n hx hb dX10_voice_35 rfl (lv_at hl 1 rfl) ?_
      refine lv_iconst (v := (1 : Int32)) hx hb dX10_voice_36 rfl ?_
      obtain ⟨r8, μ8, h1, h⟩ := ob2_some h
      refine x_callV C0 (rest := [.ref (g.2.2.1 + 0)]) (q := (RX10, TX10, 22)) (c_X10_of l g x1 (1 : Int32) μ7 h1) q4_235 q4_232 q4_234 r2_9 q1_11 hd_X10_of ⟨rfl, rfl⟩ ⟨Nat.le_of_ble_eq_true rfl, Nat.le_of_ble_eq_true rfl⟩ cm_0 (by decide) rfl hP hS hl.1 rfl rfl (Nat.le_of_ble_eq_true rfl) dX10_voice_37 (fun H locs hP hS => ?_)
      refine W.eq (g2 := F0 m 40 ls [.int r8, .ref (g.2.2.1 + 0)]) rfl ?_
      refine lv_aload_n hx hb dX10_voice_40 rfl (lv_at hl 0 rfl) ?_
      refine lv_iload_n hx hb dX10_voice_41 rfl (lv_at hl 1 rfl) ?_
      refine lv_iconst (v := (2 : Int32)) hx hb dX10_voice_42 rfl ?_
      obtain ⟨r9, μ9, h1, h⟩ := ob2_some h
      refine x_callV C0 (rest := [.int r8, .ref (g.2.2.1 + 0)]) (q := (RX10, TX10, 22)) (c_X10_of l g x1 (2 : Int32) μ8 h1) q4_235 q4_232 q4_234 r2_9 q1_11 hd_X10_of ⟨rfl, rfl⟩ ⟨Nat.le_of_ble_eq_true rfl, Nat.le_of_ble_eq_true rfl⟩ cm_0 (by decide) rfl hP hS hl.1 rfl rfl (Nat.le_of_ble_eq_true rfl) dX10_voice_43 (fun H locs hP hS => ?_)
      refine W.eq (g2 := F0 m 46 ls [.int r9, .int r8, .ref (g.2.2.1 + 0)]) rfl ?_
      refine lv_iadd hx hb dX10_voice_46 ?_
      obtain ⟨μ10, e10, h⟩ := lt_some h
      refine x_put C0 hP hS inu10 tyX10 tyX10_ok nmX10 (k := 0) cm_0 (by decide) rfl 16 (by decide) q4_150 rfl rfl (v := .int (r8 + r9)) (x := (r8 + r9)) rfl rfl (Nat.le_of_ble_eq_true rfl) (os_10_16 _ _ _ _) dX10_voice_47 (fun H locs hP hS => ?_)
      rw [← e10] at hP
      refine lv_aload_n hx hb dX10_voice_50 rfl (lv_at hl 0 rfl) ?_
      refine lv_aload_n hx hb dX10_voice_51 rfl (lv_at hl 0 rfl) ?_
      refine lv_iload_n hx hb dX10_voice_52 rfl (lv_at hl 1 rfl) ?_
      refine lv_iconst (v := (0 : Int32)) hx hb dX10_voice_53 rfl ?_
      obtain ⟨r11, μ11, h1, h⟩ := ob2_some h
      refine x_callV C0 (rest := [.ref (g.2.2.1 + 0)]) (q := (RX10, TX10, 22)) (c_X10_of l g x1 (0 : Int32) μ10 h1) q4_235 q4_232 q4_234 r2_9 q1_11 hd_X10_of ⟨rfl, rfl⟩ ⟨Nat.le_of_ble_eq_true rfl, Nat.le_of_ble_eq_true rfl⟩ cm_0 (by decide) rfl hP hS hl.1 rfl rfl (Nat.le_of_ble_eq_true rfl) dX10_voice_54 (fun H locs hP hS => ?_)
      refine W.eq (g2 := F0 m 57 ls [.int r11, .ref (g.2.2.1 + 0)]) rfl ?_
      obtain ⟨μ12, e12, h⟩ := lt_some h
      refine x_put C0 hP hS inu10 tyX10 tyX10_ok nmX10 (k := 0) cm_0 (by decide) rfl 17 (by decide) q4_151 rfl rfl (v := .int r11) (x := r11) rfl rfl (Nat.le_of_ble_eq_true rfl) (os_10_17 _ _ _ _) dX10_voice_57 (fun H locs hP hS => ?_)
      rw [← e12] at hP
      refine lv_iload_n hx hb dX10_voice_60 rfl (lv_at hl 2 rfl) ?_
      refine lv_if_ne (tgt := 72) hx hb dX10_voice_61 (by decide) (fun c13 => ?_) (fun c13 => ?_)
      · rw [if_neg c13] at h
        refine lv_iload_n hx hb dX10_voice_72 rfl (lv_at hl 2 rfl) ?_
        refine lv_iconst (v := (1 : Int32)) hx hb dX10_voice_73 rfl ?_
        refine lv_icmp_ne (tgt := 85) hx hb dX10_voice_74 (by decide) (fun c14 => ?_) (fun c14 => ?_)
        · rw [if_neg c14] at h
          refine lv_iload_n hx hb dX10_voice_85 rfl (lv_at hl 2 rfl) ?_
          refine lv_iconst (v := (2 : Int32)) hx hb dX10_voice_86 rfl ?_
          refine lv_icmp_ne (tgt := 98) hx hb dX10_voice_87 (by decide) (fun c15 => ?_) (fun c15 => ?_)
          · rw [if_neg c15] at h
            refine lv_aload_n hx hb dX10_voice_98 rfl (lv_at hl 0 rfl) ?_
            refine lv_iload_n hx hb dX10_voice_99 rfl (lv_at hl 3 rfl) ?_
            obtain ⟨r16, μ16, h1, h⟩ := ob2_some h
            refine x_callV C0 (rest := []) (q := (RX10, TX10, 22)) (c_X10_tell l g x3 μ12 h1) q6_10 q6_7 q6_9 r4_14 q1_11 hd_X10_tell ⟨rfl, rfl⟩ ⟨Nat.le_of_ble_eq_true rfl, Nat.le_of_ble_eq_true rfl⟩ cm_0 (by decide) rfl hP hS hl.1 rfl rfl (Nat.le_of_ble_eq_true rfl) dX10_voice_100 (fun H locs hP hS => ?_)
            refine W.eq (g2 := F0 m 103 ls [.int r16]) rfl ?_
            obtain ⟨rfl, rfl⟩ := some2 h
            exact x_iret C0 hP hS dX10_voice_103
          · rw [if_pos c15] at h
            refine lv_aload_n hx hb dX10_voice_90 rfl (lv_at hl 0 rfl) ?_
            refine lv_iload_n hx hb dX10_voice_91 rfl (lv_at hl 3 rfl) ?_
            obtain ⟨r17, μ17, h1, h⟩ := ob2_some h
            refine x_callV C0 (rest := []) (q := (RX10, TX10, 22)) (c_X10_click l g x3 μ12 h1) q6_2 q5_239 q6_1 r4_12 q1_11 hd_X10_click ⟨rfl, rfl⟩ ⟨Nat.le_of_ble_eq_true rfl, Nat.le_of_ble_eq_true rfl⟩ cm_0 (by decide) rfl hP hS hl.1 rfl rfl (Nat.le_of_ble_eq_true rfl) dX10_voice_92 (fun H locs hP hS => ?_)
            refine W.eq (g2 := F0 m 95 ls [.int r17]) rfl ?_
            refine lv_goto (tgt := 103) hx hb dX10_voice_95 (by decide) ?_
            obtain ⟨rfl, rfl⟩ := some2 h
            exact x_iret C0 hP hS dX10_voice_103
        · rw [if_pos c14] at h
          refine lv_aload_n hx hb dX10_voice_77 rfl (lv_at hl 0 rfl) ?_
          refine lv_iload_n hx hb dX10_voice_78 rfl (lv_at hl 3 rfl) ?_
          obtain ⟨r18, μ18, h1, h⟩ := ob2_some h
          refine x_callV C0 (rest := []) (q := (RX10, TX10, 22)) (c_X10_hum l g x3 μ12 h1) q5_230 q5_227 q5_229 r4_9 q1_11 hd_X10_hum ⟨rfl, rfl⟩ ⟨Nat.le_of_ble_eq_true rfl, Nat.le_of_ble_eq_true rfl⟩ cm_0 (by decide) rfl hP hS hl.1 rfl rfl (Nat.le_of_ble_eq_true rfl) dX10_voice_79 (fun H locs hP hS => ?_)
          refine W.eq (g2 := F0 m 82 ls [.int r18]) rfl ?_
          refine lv_goto (tgt := 103) hx hb dX10_voice_82 (by decide) ?_
          obtain ⟨rfl, rfl⟩ := some2 h
          exact x_iret C0 hP hS dX10_voice_103
      · rw [if_pos c13] at h
        refine lv_aload_n hx hb dX10_voice_64 rfl (lv_at hl 0 rfl) ?_
        refine lv_iload_n hx hb dX10_voice_65 rfl (lv_at hl 3 rfl) ?_
        obtain ⟨r19, μ19, h1, h⟩ := ob2_some h
        refine x_callV C0 (rest := []) (q := (RX10, TX10, 22)) (c_X10_tick l g x3 μ12 h1) q5_214 q5_211 q5_213 r4_5 q1_11 hd_X10_tick ⟨rfl, rfl⟩ ⟨Nat.le_of_ble_eq_true rfl, Nat.le_of_ble_eq_true rfl⟩ cm_0 (by decide) rfl hP hS hl.1 rfl rfl (Nat.le_of_ble_eq_true rfl) dX10_voice_66 (fun H locs hP hS => ?_)
        refine W.eq (g2 := F0 m 69 ls [.int r19]) rfl ?_
        refine lv_goto (tgt := 103) hx hb dX10_voice_69 (by decide) ?_
        obtain ⟨rfl, rfl⟩ := some2 h
        exact x_iret C0 hP hS dX10_voice_103
    · rw [if_pos c5] at h
      exact w_X10_voice_17 C0   μ4 _ _ _ hP hS (lv_sub hl [0] rfl) h
def X10_trace (x1 : Int32) (μ : Mem) : Option (Int32 × Mem) :=
  ob2 (X10_in x1 (0 : Int32) ((μ 0 14) - (1 : Int32)) μ) fun r1 μ1 => (if r1 = (0 : Int32) then ob2 (X10_finding (2 : Int32) μ1) fun r3 μ3 => some (r3, μ3) else gd (inB x1 40) (some ((μ1 7 x1.toNatClampNeg), μ1)))
set_option maxRecDepth 100000 in
set_option maxHeartbeats 4000000 in
theorem c_X10_trace (l : Launch) (g : Gx) (x1 : Int32) (μ : Mem) {r : Int32} {ν : Mem} (h : X10_trace x1 μ = some (r, ν)) : Ct Lm g l yX10_trace cX10_trace 2 (some .int) { frames := 1, cells := 0, slots := 0, locals := 22 } [.ref (g.2.2.1 + 0), .int x1] μ (some (.int r)) ν := by
  refine x_met (lv := [(0, .ref (g.2.2.1 + 0)), (1, .int x1)]) rfl (Nat.le_of_ble_eq_true rfl) rfl ?_
  intro p e s m below meth c C0 hP ls hl
  generalize ([.ref (g.2.2.1 + 0), .int x1] : List Value).toArray = args at C0 ⊢
  have C0 : Cx Lm g p s m args meth c cX10_trace 2 (some .int) RX10 := C0
  have hS : va_S (Ax Lm g) s.heap s.heap [] := va_S.rf
  obtain ⟨hx, hb, hr, hml, hown, hts, hlocks, hK⟩ := id C0
  unfold X10_trace at h
  skip
  refine lv_iload_n hx hb dX10_trace_0 rfl (lv_at hl 1 rfl) ?_
  refine lv_iconst (v := (0 : Int32)) hx hb dX10_trace_1 rfl ?_
  refine lv_aload_n hx hb dX10_trace_2 rfl (lv_at hl 0 rfl) ?_
  refine x_get C0 hP inu10 (k := 0) cm_0 (by decide) rfl 14 (by decide) q4_148 rfl (v := .int (μ 0 14)) rfl dX10_trace_3 ?_
  refine lv_iconst (v := (1 : Int32)) hx hb dX10_trace_6 rfl ?_
  refine lv_isub hx hb dX10_trace_7 ?_
  obtain ⟨r1, μ1, h1, h⟩ := ob2_some h
  refine x_callS C0 (rest := []) (c_X10_in l g x1 (0 : Int32) ((μ 0 14) - (1 : Int32)) μ h1) q4_207 q4_205 q4_206 q1_11 hd_X10_in ⟨rfl, rfl⟩ ⟨Nat.le_of_ble_eq_true rfl, Nat.le_of_ble_eq_true rfl⟩ hP hS hl.1 rfl rfl (Nat.le_of_ble_eq_true rfl) dX10_trace_8 (fun H locs hP hS => ?_)
  refine W.eq (g2 := F0 m 11 ls [.int r1]) rfl ?_
  refine lv_if_eq (tgt := 23) hx hb dX10_trace_11 (by decide) (fun c2 => ?_) (fun c2 => ?_)
  · rw [if_pos c2] at h
    refine lv_aload_n hx hb dX10_trace_23 rfl (lv_at hl 0 rfl) ?_
    refine lv_iconst (v := (2 : Int32)) hx hb dX10_trace_24 rfl ?_
    obtain ⟨r3, μ3, h1, h⟩ := ob2_some h
    refine x_callV C0 (rest := []) (q := (RX10, TX10, 22)) (c_X10_finding l g (2 : Int32) μ1 h1) q4_214 q4_211 q4_213 r2_5 q1_11 hd_X10_finding ⟨rfl, rfl⟩ ⟨Nat.le_of_ble_eq_true rfl, Nat.le_of_ble_eq_true rfl⟩ cm_0 (by decide) rfl hP hS hl.1 rfl rfl (Nat.le_of_ble_eq_true rfl) dX10_trace_25 (fun H locs hP hS => ?_)
    refine W.eq (g2 := F0 m 28 ls [.int r3]) rfl ?_
    obtain ⟨rfl, rfl⟩ := some2 h
    exact x_iret C0 hP hS dX10_trace_28
  · rw [if_neg c2] at h
    refine lv_aload_n hx hb dX10_trace_14 rfl (lv_at hl 0 rfl) ?_
    refine x_get C0 hP inu10 (k := 0) cm_0 (by decide) rfl 13 (by decide) q4_147 rfl (v := .ref (g.2.2.1 + 7)) rfl dX10_trace_15 ?_
    refine lv_iload_n hx hb dX10_trace_18 rfl (lv_at hl 1 rfl) ?_
    obtain ⟨z4, h⟩ := gd_some h
    refine x_iald C0 hP (k := 7) cm_7 (j := x1.toNatClampNeg) z4 rfl dX10_trace_19 ?_
    refine lv_goto (tgt := 28) hx hb dX10_trace_20 (by decide) ?_
    obtain ⟨rfl, rfl⟩ := some2 h
    exact x_iret C0 hP hS dX10_trace_28
def X10_sheet_31   (μ : Mem) : Option (Int32 × Mem) :=
  ob2 (X10_finding (1 : Int32) μ) fun r3 μ3 => some (r3, μ3)
set_option maxRecDepth 100000 in
set_option maxHeartbeats 4000000 in
theorem w_X10_sheet_31 {g : Gx} {p : Program} {l : Launch} {e : Env} {s : State} {m : MethodId} {args : Array Value} {below : List Frame} {meth : Method} {c : Code} (C0 : Cx Lm g p s m args meth c cX10_sheet 5 (some .int) RX10) {r : Int32} {ν : Mem}   (μ : Mem) (H : Heap) (locs : List Loc) (ls : Array Slot) (hP : Px Lm g μ H) (hS : va_S (Ax Lm g) s.heap H locs) (hl : lv_has ls 5 [(0, .ref (g.2.2.1 + 0))]) (h : X10_sheet_31   μ = some (r, ν)) : W p l e { frames := 1, cells := 0, slots := 0, locals := 22 } s m args below meth c H locs 0 0 (MQ below (Qx Lm g (some (.int r)) ν) args s 0 0 (Ax Lm g)) (F0 m 31 ls []) := by
  obtain ⟨hx, hb, hr, hml, hown, hts, hlocks, hK⟩ := id C0
  unfold X10_sheet_31 at h
  refine lv_aload_n hx hb dX10_sheet_31 rfl (lv_at hl 0 rfl) ?_
  refine lv_iconst (v := (1 : Int32)) hx hb dX10_sheet_32 rfl ?_
  obtain ⟨r3, μ3, h1, h⟩ := ob2_some h
  refine x_callV C0 (rest := []) (q := (RX10, TX10, 22)) (c_X10_finding l g (1 : Int32) μ h1) q4_214 q4_211 q4_213 r2_5 q1_11 hd_X10_finding ⟨rfl, rfl⟩ ⟨Nat.le_of_ble_eq_true rfl, Nat.le_of_ble_eq_true rfl⟩ cm_0 (by decide) rfl hP hS hl.1 rfl rfl (Nat.le_of_ble_eq_true rfl) dX10_sheet_33 (fun H locs hP hS => ?_)
  refine W.eq (g2 := F0 m 36 ls [.int r3]) rfl ?_
  obtain ⟨rfl, rfl⟩ := some2 h
  exact x_iret C0 hP hS dX10_sheet_36
def X10_sheet_89  : Nat → Int32 → Int32 → Mem → Option (Int32 × Mem)
  | 0, _, _, _ => none
  | n + 1, x1, x4, μ => (if (24 : Int32) ≤ x4 then some ((1 : Int32), μ) else gd (inB (((24 : Int32) * x1) + x4) 96) (lt (st μ 10 (((24 : Int32) * x1) + x4).toNatClampNeg (0 : Int32)) fun μ14 => (X10_sheet_89 n) x1 (x4 + (1 : Int32)) μ14))
set_option maxRecDepth 100000 in
set_option maxHeartbeats 4000000 in
theorem w_X10_sheet_89 {g : Gx} {p : Program} {l : Launch} {e : Env} {s : State} {m : MethodId} {args : Array Value} {below : List Frame} {meth : Method} {c : Code} (C0 : Cx Lm g p s m args meth c cX10_sheet 5 (some .int) RX10) {r : Int32} {ν : Mem}  (n : Nat) : ∀ (x1 : Int32) (x4 : Int32) (μ : Mem) (H : Heap) (locs : List Loc) (ls : Array Slot), Px Lm g μ H → va_S (Ax Lm g) s.heap H locs → lv_has ls 5 [(0, .ref (g.2.2.1 + 0)), (1, .int x1), (4, .int x4)] → X10_sheet_89  n x1 x4 μ = some (r, ν) → W p l e { frames := 1, cells := 0, slots := 0, locals := 22 } s m args below meth c H locs 0 0 (MQ below (Qx Lm g (some (.int r)) ν) args s 0 0 (Ax Lm g)) (F0 m 89 ls []) := by
  obtain ⟨hx, hb, hr, hml, hown, hts, hlocks, hK⟩ := id C0
  induction n with
  | zero =>
    intro x1 x4 μ H locs ls hP hS hl h
    have h : (none : Option (Int32 × Mem)) = some (r, ν) := h
    cases h
  | succ n ih =>
    intro x1 x4 μ H locs ls hP hS hl h
    rw [X10_sheet_89.eq_2] at h
    refine lv_iload hx hb dX10_sheet_89 (lv_at hl 2 rfl) ?_
    refine lv_bipush (v := (24 : Int32)) hx hb dX10_sheet_91 (by decide +kernel) ?_
    refine lv_icmp_ge (tgt := 115) hx hb dX10_sheet_93 (by decide) (fun c12 => ?_) (fun c12 => ?_)
    · rw [if_pos c12] at h
      refine lv_iconst (v := (1 : Int32)) hx hb dX10_sheet_115 rfl ?_
      obtain ⟨rfl, rfl⟩ := some2 h
      exact x_iret C0 hP hS dX10_sheet_116
    · rw [if_neg c12] at h
      refine lv_aload_n hx hb dX10_sheet_96 rfl (lv_at hl 0 rfl) ?_
      refine x_get C0 hP inu10 (k := 0) cm_0 (by decide) rfl 20 (by decide) q4_154 rfl (v := .ref (g.2.2.1 + 10)) rfl dX10_sheet_97 ?_
      refine lv_bipush (v := (24 : Int32)) hx hb dX10_sheet_100 (by decide +kernel) ?_
      refine lv_iload_n hx hb dX10_sheet_102 rfl (lv_at hl 1 rfl) ?_
      refine lv_imul hx hb dX10_sheet_103 ?_
      refine lv_iload hx hb dX10_sheet_104 (lv_at hl 2 rfl) ?_
      refine lv_iadd hx hb dX10_sheet_106 ?_
      refine lv_iconst (v := (0 : Int32)) hx hb dX10_sheet_107 rfl ?_
      obtain ⟨z13, h⟩ := gd_some h
      obtain ⟨μ14, e14, h⟩ := lt_some h
      refine x_iast C0 hP hS (k := 10) cm_10 (j := (((24 : Int32) * x1) + x4).toNatClampNeg) z13 rfl dX10_sheet_108 (fun H locs hP hS => ?_)
      rw [← e14] at hP
      refine lv_iinc (v := (x4 + (1 : Int32))) (lv' := [(4, .int (x4 + (1 : Int32))), (0, .ref (g.2.2.1 + 0)), (1, .int x1)]) hx hb dX10_sheet_109 hl (k := 2) rfl rfl (by decide) rfl (fun ls hl => ?_)
      refine lv_goto (tgt := 89) hx hb dX10_sheet_112 (by decide) ?_
      exact ih x1 (x4 + (1 : Int32)) μ14 _ _ _ hP hS (lv_sub hl [1, 2, 0] rfl) h
def X10_sheet_37  (x1 : Int32) (x2 : Int32) (x3 : Int32) (μ : Mem) : Option (Int32 × Mem) :=
  (if x2 = (0 : Int32) then gd (inB x1 4) (lt (st μ 8 x1.toNatClampNeg (0 : Int32)) fun μ18 => some ((1 : Int32), μ18)) else (if (0 : Int32) ≤ x3 then (if x3 ≤ (24 : Int32) then gd (inB x1 4) (lt (st μ 8 x1.toNatClampNeg x2) fun μ9 => gd (inB x1 4) (lt (st μ9 9 x1.toNatClampNeg x3) fun μ11 => X10_sheet_89 FU x1 (0 : Int32) μ11)) else ob2 (X10_finding (1 : Int32) μ) fun r15 μ15 => some (r15, μ15)) else ob2 (X10_finding (3 : Int32) μ) fun r16 μ16 => some (r16, μ16)))
set_option maxRecDepth 100000 in
set_option maxHeartbeats 4000000 in
theorem w_X10_sheet_37 {g : Gx} {p : Program} {l : Launch} {e : Env} {s : State} {m : MethodId} {args : Array Value} {below : List Frame} {meth : Method} {c : Code} (C0 : Cx Lm g p s m args meth c cX10_sheet 5 (some .int) RX10) {r : Int32} {ν : Mem}  (x1 : Int32) (x2 : Int32) (x3 : Int32) (μ : Mem) (H : Heap) (locs : List Loc) (ls : Array Slot) (hP : Px Lm g μ H) (hS : va_S (Ax Lm g) s.heap H locs) (hl : lv_has ls 5 [(0, .ref (g.2.2.1 + 0)), (1, .int x1), (2, .int x2), (3, .int x3)]) (h : X10_sheet_37  x1 x2 x3 μ = some (r, ν)) : W p l e { frames := 1, cells := 0, slots := 0, locals := 22 } s m args below meth c H locs 0 0 (MQ below (Qx Lm g (some (.int r)) ν) args s 0 0 (Ax Lm g)) (F0 m 37 ls []) := by
  obtain ⟨hx, hb, hr, hml, hown, hts, hlocks, hK⟩ := id C0
  unfold X10_sheet_37 at h
  refine lv_iload_n hx hb dX10_sheet_37 rfl (lv_at hl 2 rfl) ?_
  refine lv_if_ne (tgt := 50) hx hb dX10_sheet_38 (by decide) (fun c5 => ?_) (fun c5 => ?_)
  · rw [if_neg c5] at h
    refine lv_iload_n hx hb dX10_sheet_50 rfl (lv_at hl 3 rfl) ?_
    refine lv_if_ge (tgt := 60) hx hb dX10_sheet_51 (by decide) (fun c6 => ?_) (fun c6 => ?_)
    · rw [if_pos c6] at h
      refine lv_iload_n hx hb dX10_sheet_60 rfl (lv_at hl 3 rfl) ?_
      refine lv_bipush (v := (24 : Int32)) hx hb dX10_sheet_61 (by decide +kernel) ?_
      refine lv_icmp_le (tgt := 72) hx hb dX10_sheet_63 (by decide) (fun c7 => ?_) (fun c7 => ?_)
      · rw [if_pos c7] at h
        refine lv_aload_n hx hb dX10_sheet_72 rfl (lv_at hl 0 rfl) ?_
        refine x_get C0 hP inu10 (k := 0) cm_0 (by decide) rfl 18 (by decide) q4_152 rfl (v := .ref (g.2.2.1 + 8)) rfl dX10_sheet_73 ?_
        refine lv_iload_n hx hb dX10_sheet_76 rfl (lv_at hl 1 rfl) ?_
        refine lv_iload_n hx hb dX10_sheet_77 rfl (lv_at hl 2 rfl) ?_
        obtain ⟨z8, h⟩ := gd_some h
        obtain ⟨μ9, e9, h⟩ := lt_some h
        refine x_iast C0 hP hS (k := 8) cm_8 (j := x1.toNatClampNeg) z8 rfl dX10_sheet_78 (fun H locs hP hS => ?_)
        rw [← e9] at hP
        refine lv_aload_n hx hb dX10_sheet_79 rfl (lv_at hl 0 rfl) ?_
        refine x_get C0 hP inu10 (k := 0) cm_0 (by decide) rfl 19 (by decide) q4_153 rfl (v := .ref (g.2.2.1 + 9)) rfl dX10_sheet_80 ?_
        refine lv_iload_n hx hb dX10_sheet_83 rfl (lv_at hl 1 rfl) ?_
        refine lv_iload_n hx hb dX10_sheet_84 rfl (lv_at hl 3 rfl) ?_
        obtain ⟨z10, h⟩ := gd_some h
        obtain ⟨μ11, e11, h⟩ := lt_some h
        refine x_iast C0 hP hS (k := 9) cm_9 (j := x1.toNatClampNeg) z10 rfl dX10_sheet_85 (fun H locs hP hS => ?_)
        rw [← e11] at hP
        refine lv_iconst (v := (0 : Int32)) hx hb dX10_sheet_86 rfl ?_
        refine lv_istore (lv' := [(4, .int (0 : Int32)), (0, .ref (g.2.2.1 + 0)), (1, .int x1), (2, .int x2), (3, .int x3)]) hx hb dX10_sheet_87 hl (by decide) rfl (fun ls hl => ?_)
        exact w_X10_sheet_89 C0  FU x1 (0 : Int32) μ11 _ _ _ hP hS (lv_sub hl [1, 2, 0] rfl) h
      · rw [if_neg c7] at h
        refine lv_aload_n hx hb dX10_sheet_66 rfl (lv_at hl 0 rfl) ?_
        refine lv_iconst (v := (1 : Int32)) hx hb dX10_sheet_67 rfl ?_
        obtain ⟨r15, μ15, h1, h⟩ := ob2_some h
        refine x_callV C0 (rest := []) (q := (RX10, TX10, 22)) (c_X10_finding l g (1 : Int32) μ h1) q4_214 q4_211 q4_213 r2_5 q1_11 hd_X10_finding ⟨rfl, rfl⟩ ⟨Nat.le_of_ble_eq_true rfl, Nat.le_of_ble_eq_true rfl⟩ cm_0 (by decide) rfl hP hS hl.1 rfl rfl (Nat.le_of_ble_eq_true rfl) dX10_sheet_68 (fun H locs hP hS => ?_)
        refine W.eq (g2 := F0 m 71 ls [.int r15]) rfl ?_
        obtain ⟨rfl, rfl⟩ := some2 h
        exact x_iret C0 hP hS dX10_sheet_71
    · rw [if_neg c6] at h
      refine lv_aload_n hx hb dX10_sheet_54 rfl (lv_at hl 0 rfl) ?_
      refine lv_iconst (v := (3 : Int32)) hx hb dX10_sheet_55 rfl ?_
      obtain ⟨r16, μ16, h1, h⟩ := ob2_some h
      refine x_callV C0 (rest := []) (q := (RX10, TX10, 22)) (c_X10_finding l g (3 : Int32) μ h1) q4_214 q4_211 q4_213 r2_5 q1_11 hd_X10_finding ⟨rfl, rfl⟩ ⟨Nat.le_of_ble_eq_true rfl, Nat.le_of_ble_eq_true rfl⟩ cm_0 (by decide) rfl hP hS hl.1 rfl rfl (Nat.le_of_ble_eq_true rfl) dX10_sheet_56 (fun H locs hP hS => ?_)
      refine W.eq (g2 := F0 m 59 ls [.int r16]) rfl ?_
      obtain ⟨rfl, rfl⟩ := some2 h
      exact x_iret C0 hP hS dX10_sheet_59
  · rw [if_pos c5] at h
    refine lv_aload_n hx hb dX10_sheet_41 rfl (lv_at hl 0 rfl) ?_
    refine x_get C0 hP inu10 (k := 0) cm_0 (by decide) rfl 18 (by decide) q4_152 rfl (v := .ref (g.2.2.1 + 8)) rfl dX10_sheet_42 ?_
    refine lv_iload_n hx hb dX10_sheet_45 rfl (lv_at hl 1 rfl) ?_
    refine lv_iconst (v := (0 : Int32)) hx hb dX10_sheet_46 rfl ?_
    obtain ⟨z17, h⟩ := gd_some h
    obtain ⟨μ18, e18, h⟩ := lt_some h
    refine x_iast C0 hP hS (k := 8) cm_8 (j := x1.toNatClampNeg) z17 rfl dX10_sheet_47 (fun H locs hP hS => ?_)
    rw [← e18] at hP
    refine lv_iconst (v := (1 : Int32)) hx hb dX10_sheet_48 rfl ?_
    obtain ⟨rfl, rfl⟩ := some2 h
    exact x_iret C0 hP hS dX10_sheet_49
def X10_sheet (x1 : Int32) (x2 : Int32) (x3 : Int32) (μ : Mem) : Option (Int32 × Mem) :=
  ob2 (X10_in x1 (0 : Int32) (3 : Int32) μ) fun r1 μ1 => (if r1 = (0 : Int32) then X10_sheet_31 μ1 else (if x2 = (0 : Int32) then X10_sheet_37 x1 x2 x3 μ1 else (if x2 = (8 : Int32) then X10_sheet_37 x1 x2 x3 μ1 else (if x2 = (16 : Int32) then X10_sheet_37 x1 x2 x3 μ1 else (if x2 = (32 : Int32) then X10_sheet_37 x1 x2 x3 μ1 else X10_sheet_31 μ1)))))
set_option maxRecDepth 100000 in
set_option maxHeartbeats 4000000 in
theorem c_X10_sheet (l : Launch) (g : Gx) (x1 : Int32) (x2 : Int32) (x3 : Int32) (μ : Mem) {r : Int32} {ν : Mem} (h : X10_sheet x1 x2 x3 μ = some (r, ν)) : Ct Lm g l yX10_sheet cX10_sheet 5 (some .int) { frames := 1, cells := 0, slots := 0, locals := 22 } [.ref (g.2.2.1 + 0), .int x1, .int x2, .int x3] μ (some (.int r)) ν := by
  refine x_met (lv := [(0, .ref (g.2.2.1 + 0)), (1, .int x1), (2, .int x2), (3, .int x3)]) rfl (Nat.le_of_ble_eq_true rfl) rfl ?_
  intro p e s m below meth c C0 hP ls hl
  generalize ([.ref (g.2.2.1 + 0), .int x1, .int x2, .int x3] : List Value).toArray = args at C0 ⊢
  have C0 : Cx Lm g p s m args meth c cX10_sheet 5 (some .int) RX10 := C0
  have hS : va_S (Ax Lm g) s.heap s.heap [] := va_S.rf
  obtain ⟨hx, hb, hr, hml, hown, hts, hlocks, hK⟩ := id C0
  unfold X10_sheet at h
  skip
  refine lv_iload_n hx hb dX10_sheet_0 rfl (lv_at hl 1 rfl) ?_
  refine lv_iconst (v := (0 : Int32)) hx hb dX10_sheet_1 rfl ?_
  refine lv_iconst (v := (3 : Int32)) hx hb dX10_sheet_2 rfl ?_
  obtain ⟨r1, μ1, h1, h⟩ := ob2_some h
  refine x_callS C0 (rest := []) (c_X10_in l g x1 (0 : Int32) (3 : Int32) μ h1) q4_207 q4_205 q4_206 q1_11 hd_X10_in ⟨rfl, rfl⟩ ⟨Nat.le_of_ble_eq_true rfl, Nat.le_of_ble_eq_true rfl⟩ hP hS hl.1 rfl rfl (Nat.le_of_ble_eq_true rfl) dX10_sheet_3 (fun H locs hP hS => ?_)
  refine W.eq (g2 := F0 m 6 ls [.int r1]) rfl ?_
  refine lv_if_eq (tgt := 31) hx hb dX10_sheet_6 (by decide) (fun c2 => ?_) (fun c2 => ?_)
  · rw [if_pos c2] at h
    exact w_X10_sheet_31 C0   μ1 _ _ _ hP hS (lv_sub hl [0] rfl) h
  · rw [if_neg c2] at h
    refine lv_iload_n hx hb dX10_sheet_9 rfl (lv_at hl 2 rfl) ?_
    refine lv_if_eq (tgt := 37) hx hb dX10_sheet_10 (by decide) (fun c4 => ?_) (fun c4 => ?_)
    · rw [if_pos c4] at h
      exact w_X10_sheet_37 C0  x1 x2 x3 μ1 _ _ _ hP hS (lv_sub hl [0, 1, 2, 3] rfl) h
    · rw [if_neg c4] at h
      refine lv_iload_n hx hb dX10_sheet_13 rfl (lv_at hl 2 rfl) ?_
      refine lv_bipush (v := (8 : Int32)) hx hb dX10_sheet_14 (by decide +kernel) ?_
      refine lv_icmp_eq (tgt := 37) hx hb dX10_sheet_16 (by decide) (fun c19 => ?_) (fun c19 => ?_)
      · rw [if_pos c19] at h
        exact w_X10_sheet_37 C0  x1 x2 x3 μ1 _ _ _ hP hS (lv_sub hl [0, 1, 2, 3] rfl) h
      · rw [if_neg c19] at h
        refine lv_iload_n hx hb dX10_sheet_19 rfl (lv_at hl 2 rfl) ?_
        refine lv_bipush (v := (16 : Int32)) hx hb dX10_sheet_20 (by decide +kernel) ?_
        refine lv_icmp_eq (tgt := 37) hx hb dX10_sheet_22 (by decide) (fun c20 => ?_) (fun c20 => ?_)
        · rw [if_pos c20] at h
          exact w_X10_sheet_37 C0  x1 x2 x3 μ1 _ _ _ hP hS (lv_sub hl [0, 1, 2, 3] rfl) h
        · rw [if_neg c20] at h
          refine lv_iload_n hx hb dX10_sheet_25 rfl (lv_at hl 2 rfl) ?_
          refine lv_bipush (v := (32 : Int32)) hx hb dX10_sheet_26 (by decide +kernel) ?_
          refine lv_icmp_eq (tgt := 37) hx hb dX10_sheet_28 (by decide) (fun c21 => ?_) (fun c21 => ?_)
          · rw [if_pos c21] at h
            exact w_X10_sheet_37 C0  x1 x2 x3 μ1 _ _ _ hP hS (lv_sub hl [0, 1, 2, 3] rfl) h
          · rw [if_neg c21] at h
            exact w_X10_sheet_31 C0   μ1 _ _ _ hP hS (lv_sub hl [0] rfl) h
def X10_put_95  (t1 : Int32) (t2 : Int32) (μ : Mem) : Option (Int32 × Mem) :=
  gd (inB t1 96) (lt (st μ 10 t1.toNatClampNeg t2) fun μ13 => some ((1 : Int32), μ13))
set_option maxRecDepth 100000 in
set_option maxHeartbeats 4000000 in
theorem w_X10_put_95 {g : Gx} {p : Program} {l : Launch} {e : Env} {s : State} {m : MethodId} {args : Array Value} {below : List Frame} {meth : Method} {c : Code} (C0 : Cx Lm g p s m args meth c cX10_put 4 (some .int) RX10) {r : Int32} {ν : Mem}  (t1 : Int32) (t2 : Int32) (μ : Mem) (H : Heap) (locs : List Loc) (ls : Array Slot) (hP : Px Lm g μ H) (hS : va_S (Ax Lm g) s.heap H locs) (hl : lv_has ls 4 []) (h : X10_put_95  t1 t2 μ = some (r, ν)) : W p l e { frames := 1, cells := 0, slots := 0, locals := 22 } s m args below meth c H locs 0 0 (MQ below (Qx Lm g (some (.int r)) ν) args s 0 0 (Ax Lm g)) (F0 m 95 ls [.int t2, .int t1, .ref (g.2.2.1 + 10)]) := by
  obtain ⟨hx, hb, hr, hml, hown, hts, hlocks, hK⟩ := id C0
  unfold X10_put_95 at h
  obtain ⟨z12, h⟩ := gd_some h
  obtain ⟨μ13, e13, h⟩ := lt_some h
  refine x_iast C0 hP hS (k := 10) cm_10 (j := t1.toNatClampNeg) z12 rfl dX10_put_95 (fun H locs hP hS => ?_)
  rw [← e13] at hP
  refine lv_iconst (v := (1 : Int32)) hx hb dX10_put_96 rfl ?_
  obtain ⟨rfl, rfl⟩ := some2 h
  exact x_iret C0 hP hS dX10_put_97
def X10_put (x1 : Int32) (x2 : Int32) (x3 : Int32) (μ : Mem) : Option (Int32 × Mem) :=
  ob2 (X10_in x1 (0 : Int32) (3 : Int32) μ) fun r1 μ1 => (if r1 = (0 : Int32) then ob2 (X10_finding (1 : Int32) μ1) fun r16 μ16 => some (r16, μ16) else gd (inB x1 4) ((if (μ1 8 x1.toNatClampNeg) = (0 : Int32) then ob2 (X10_finding (2 : Int32) μ1) fun r15 μ15 => some (r15, μ15) else gd (inB x1 4) (ob2 (X10_in x2 (0 : Int32) ((μ1 9 x1.toNatClampNeg) - (1 : Int32)) μ1) fun r6 μ6 => (if r6 = (0 : Int32) then ob2 (X10_finding (1 : Int32) μ6) fun r14 μ14 => some (r14, μ14) else gd (inB x1 4) ((if (μ6 8 x1.toNatClampNeg) = (8 : Int32) then X10_put_95 (((24 : Int32) * x1) + x2) x3.toInt8.toInt32 μ6 else gd (inB x1 4) ((if (μ6 8 x1.toNatClampNeg) = (16 : Int32) then X10_put_95 (((24 : Int32) * x1) + x2) x3.toInt16.toInt32 μ6 else X10_put_95 (((24 : Int32) * x1) + x2) x3 μ6)))))))))
set_option maxRecDepth 100000 in
set_option maxHeartbeats 4000000 in
theorem c_X10_put (l : Launch) (g : Gx) (x1 : Int32) (x2 : Int32) (x3 : Int32) (μ : Mem) {r : Int32} {ν : Mem} (h : X10_put x1 x2 x3 μ = some (r, ν)) : Ct Lm g l yX10_put cX10_put 4 (some .int) { frames := 1, cells := 0, slots := 0, locals := 22 } [.ref (g.2.2.1 + 0), .int x1, .int x2, .int x3] μ (some (.int r)) ν := by
  refine x_met (lv := [(0, .ref (g.2.2.1 + 0)), (1, .int x1), (2, .int x2), (3, .int x3)]) rfl (Nat.le_of_ble_eq_true rfl) rfl ?_
  intro p e s m below meth c C0 hP ls hl
  generalize ([.ref (g.2.2.1 + 0), .int x1, .int x2, .int x3] : List Value).toArray = args at C0 ⊢
  have C0 : Cx Lm g p s m args meth c cX10_put 4 (some .int) RX10 := C0
  have hS : va_S (Ax Lm g) s.heap s.heap [] := va_S.rf
  obtain ⟨hx, hb, hr, hml, hown, hts, hlocks, hK⟩ := id C0
  unfold X10_put at h
  skip
  refine lv_iload_n hx hb dX10_put_0 rfl (lv_at hl 1 rfl) ?_
  refine lv_iconst (v := (0 : Int32)) hx hb dX10_put_1 rfl ?_
  refine lv_iconst (v := (3 : Int32)) hx hb dX10_put_2 rfl ?_
  obtain ⟨r1, μ1, h1, h⟩ := ob2_some h
  refine x_callS C0 (rest := []) (c_X10_in l g x1 (0 : Int32) (3 : Int32) μ h1) q4_207 q4_205 q4_206 q1_11 hd_X10_in ⟨rfl, rfl⟩ ⟨Nat.le_of_ble_eq_true rfl, Nat.le_of_ble_eq_true rfl⟩ hP hS hl.1 rfl rfl (Nat.le_of_ble_eq_true rfl) dX10_put_3 (fun H locs hP hS => ?_)
  refine W.eq (g2 := F0 m 6 ls [.int r1]) rfl ?_
  refine lv_if_ne (tgt := 15) hx hb dX10_put_6 (by decide) (fun c2 => ?_) (fun c2 => ?_)
  · rw [if_neg c2] at h
    refine lv_aload_n hx hb dX10_put_15 rfl (lv_at hl 0 rfl) ?_
    refine x_get C0 hP inu10 (k := 0) cm_0 (by decide) rfl 18 (by decide) q4_152 rfl (v := .ref (g.2.2.1 + 8)) rfl dX10_put_16 ?_
    refine lv_iload_n hx hb dX10_put_19 rfl (lv_at hl 1 rfl) ?_
    obtain ⟨z3, h⟩ := gd_some h
    refine x_iald C0 hP (k := 8) cm_8 (j := x1.toNatClampNeg) z3 rfl dX10_put_20 ?_
    refine lv_if_ne (tgt := 30) hx hb dX10_put_21 (by decide) (fun c4 => ?_) (fun c4 => ?_)
    · rw [if_neg c4] at h
      refine lv_iload_n hx hb dX10_put_30 rfl (lv_at hl 2 rfl) ?_
      refine lv_iconst (v := (0 : Int32)) hx hb dX10_put_31 rfl ?_
      refine lv_aload_n hx hb dX10_put_32 rfl (lv_at hl 0 rfl) ?_
      refine x_get C0 hP inu10 (k := 0) cm_0 (by decide) rfl 19 (by decide) q4_153 rfl (v := .ref (g.2.2.1 + 9)) rfl dX10_put_33 ?_
      refine lv_iload_n hx hb dX10_put_36 rfl (lv_at hl 1 rfl) ?_
      obtain ⟨z5, h⟩ := gd_some h
      refine x_iald C0 hP (k := 9) cm_9 (j := x1.toNatClampNeg) z5 rfl dX10_put_37 ?_
      refine lv_iconst (v := (1 : Int32)) hx hb dX10_put_38 rfl ?_
      refine lv_isub hx hb dX10_put_39 ?_
      obtain ⟨r6, μ6, h1, h⟩ := ob2_some h
      refine x_callS C0 (rest := []) (c_X10_in l g x2 (0 : Int32) ((μ1 9 x1.toNatClampNeg) - (1 : Int32)) μ1 h1) q4_207 q4_205 q4_206 q1_11 hd_X10_in ⟨rfl, rfl⟩ ⟨Nat.le_of_ble_eq_true rfl, Nat.le_of_ble_eq_true rfl⟩ hP hS hl.1 rfl rfl (Nat.le_of_ble_eq_true rfl) dX10_put_40 (fun H locs hP hS => ?_)
      refine W.eq (g2 := F0 m 43 ls [.int r6]) rfl ?_
      refine lv_if_ne (tgt := 52) hx hb dX10_put_43 (by decide) (fun c7 => ?_) (fun c7 => ?_)
      · rw [if_neg c7] at h
        refine lv_aload_n hx hb dX10_put_52 rfl (lv_at hl 0 rfl) ?_
        refine x_get C0 hP inu10 (k := 0) cm_0 (by decide) rfl 20 (by decide) q4_154 rfl (v := .ref (g.2.2.1 + 10)) rfl dX10_put_53 ?_
        refine lv_bipush (v := (24 : Int32)) hx hb dX10_put_56 (by decide +kernel) ?_
        refine lv_iload_n hx hb dX10_put_58 rfl (lv_at hl 1 rfl) ?_
        refine lv_imul hx hb dX10_put_59 ?_
        refine lv_iload_n hx hb dX10_put_60 rfl (lv_at hl 2 rfl) ?_
        refine lv_iadd hx hb dX10_put_61 ?_
        refine lv_aload_n hx hb dX10_put_62 rfl (lv_at hl 0 rfl) ?_
        refine x_get C0 hP inu10 (k := 0) cm_0 (by decide) rfl 18 (by decide) q4_152 rfl (v := .ref (g.2.2.1 + 8)) rfl dX10_put_63 ?_
        refine lv_iload_n hx hb dX10_put_66 rfl (lv_at hl 1 rfl) ?_
        obtain ⟨z8, h⟩ := gd_some h
        refine x_iald C0 hP (k := 8) cm_8 (j := x1.toNatClampNeg) z8 rfl dX10_put_67 ?_
        refine lv_bipush (v := (8 : Int32)) hx hb dX10_put_68 (by decide +kernel) ?_
        refine lv_icmp_ne (tgt := 78) hx hb dX10_put_70 (by decide) (fun c9 => ?_) (fun c9 => ?_)
        · rw [if_neg c9] at h
          refine lv_aload_n hx hb dX10_put_78 rfl (lv_at hl 0 rfl) ?_
          refine x_get C0 hP inu10 (k := 0) cm_0 (by decide) rfl 18 (by decide) q4_152 rfl (v := .ref (g.2.2.1 + 8)) rfl dX10_put_79 ?_
          refine lv_iload_n hx hb dX10_put_82 rfl (lv_at hl 1 rfl) ?_
          obtain ⟨z10, h⟩ := gd_some h
          refine x_iald C0 hP (k := 8) cm_8 (j := x1.toNatClampNeg) z10 rfl dX10_put_83 ?_
          refine lv_bipush (v := (16 : Int32)) hx hb dX10_put_84 (by decide +kernel) ?_
          refine lv_icmp_ne (tgt := 94) hx hb dX10_put_86 (by decide) (fun c11 => ?_) (fun c11 => ?_)
          · rw [if_neg c11] at h
            refine lv_iload_n hx hb dX10_put_94 rfl (lv_at hl 3 rfl) ?_
            exact w_X10_put_95 C0  (((24 : Int32) * x1) + x2) x3 μ6 _ _ _ hP hS (lv_sub hl [] rfl) h
          · rw [if_pos c11] at h
            refine lv_iload_n hx hb dX10_put_89 rfl (lv_at hl 3 rfl) ?_
            refine lv_i2s (v := x3.toInt16.toInt32) hx hb dX10_put_90 rfl ?_
            refine lv_goto (tgt := 95) hx hb dX10_put_91 (by decide) ?_
            exact w_X10_put_95 C0  (((24 : Int32) * x1) + x2) x3.toInt16.toInt32 μ6 _ _ _ hP hS (lv_sub hl [] rfl) h
        · rw [if_pos c9] at h
          refine lv_iload_n hx hb dX10_put_73 rfl (lv_at hl 3 rfl) ?_
          refine lv_i2b (v := x3.toInt8.toInt32) hx hb dX10_put_74 rfl ?_
          refine lv_goto (tgt := 95) hx hb dX10_put_75 (by decide) ?_
          exact w_X10_put_95 C0  (((24 : Int32) * x1) + x2) x3.toInt8.toInt32 μ6 _ _ _ hP hS (lv_sub hl [] rfl) h
      · rw [if_pos c7] at h
        refine lv_aload_n hx hb dX10_put_46 rfl (lv_at hl 0 rfl) ?_
        refine lv_iconst (v := (1 : Int32)) hx hb dX10_put_47 rfl ?_
        obtain ⟨r14, μ14, h1, h⟩ := ob2_some h
        refine x_callV C0 (rest := []) (q := (RX10, TX10, 22)) (c_X10_finding l g (1 : Int32) μ6 h1) q4_214 q4_211 q4_213 r2_5 q1_11 hd_X10_finding ⟨rfl, rfl⟩ ⟨Nat.le_of_ble_eq_true rfl, Nat.le_of_ble_eq_true rfl⟩ cm_0 (by decide) rfl hP hS hl.1 rfl rfl (Nat.le_of_ble_eq_true rfl) dX10_put_48 (fun H locs hP hS => ?_)
        refine W.eq (g2 := F0 m 51 ls [.int r14]) rfl ?_
        obtain ⟨rfl, rfl⟩ := some2 h
        exact x_iret C0 hP hS dX10_put_51
    · rw [if_pos c4] at h
      refine lv_aload_n hx hb dX10_put_24 rfl (lv_at hl 0 rfl) ?_
      refine lv_iconst (v := (2 : Int32)) hx hb dX10_put_25 rfl ?_
      obtain ⟨r15, μ15, h1, h⟩ := ob2_some h
      refine x_callV C0 (rest := []) (q := (RX10, TX10, 22)) (c_X10_finding l g (2 : Int32) μ1 h1) q4_214 q4_211 q4_213 r2_5 q1_11 hd_X10_finding ⟨rfl, rfl⟩ ⟨Nat.le_of_ble_eq_true rfl, Nat.le_of_ble_eq_true rfl⟩ cm_0 (by decide) rfl hP hS hl.1 rfl rfl (Nat.le_of_ble_eq_true rfl) dX10_put_26 (fun H locs hP hS => ?_)
      refine W.eq (g2 := F0 m 29 ls [.int r15]) rfl ?_
      obtain ⟨rfl, rfl⟩ := some2 h
      exact x_iret C0 hP hS dX10_put_29
  · rw [if_pos c2] at h
    refine lv_aload_n hx hb dX10_put_9 rfl (lv_at hl 0 rfl) ?_
    refine lv_iconst (v := (1 : Int32)) hx hb dX10_put_10 rfl ?_
    obtain ⟨r16, μ16, h1, h⟩ := ob2_some h
    refine x_callV C0 (rest := []) (q := (RX10, TX10, 22)) (c_X10_finding l g (1 : Int32) μ1 h1) q4_214 q4_211 q4_213 r2_5 q1_11 hd_X10_finding ⟨rfl, rfl⟩ ⟨Nat.le_of_ble_eq_true rfl, Nat.le_of_ble_eq_true rfl⟩ cm_0 (by decide) rfl hP hS hl.1 rfl rfl (Nat.le_of_ble_eq_true rfl) dX10_put_11 (fun H locs hP hS => ?_)
    refine W.eq (g2 := F0 m 14 ls [.int r16]) rfl ?_
    obtain ⟨rfl, rfl⟩ := some2 h
    exact x_iret C0 hP hS dX10_put_14
def X10_has (x1 : Int32) (x2 : Int32) (x3 : Int32) (μ : Mem) : Option (Int32 × Mem) :=
  (if x2 < (0 : Int32) then some ((0 : Int32), μ) else (if x3 < (0 : Int32) then some ((0 : Int32), μ) else gd (inB x1 4) ((if (μ 9 x1.toNatClampNeg) < x3 then some ((0 : Int32), μ) else gd (inB x1 4) ((if ((μ 9 x1.toNatClampNeg) - x3) < x2 then some ((0 : Int32), μ) else some ((1 : Int32), μ)))))))
set_option maxRecDepth 100000 in
set_option maxHeartbeats 4000000 in
theorem c_X10_has (l : Launch) (g : Gx) (x1 : Int32) (x2 : Int32) (x3 : Int32) (μ : Mem) {r : Int32} {ν : Mem} (h : X10_has x1 x2 x3 μ = some (r, ν)) : Ct Lm g l yX10_has cX10_has 4 (some .boolean) { frames := 0, cells := 0, slots := 0, locals := 0 } [.ref (g.2.2.1 + 0), .int x1, .int x2, .int x3] μ (some (.int r)) ν := by
  refine x_met (lv := [(0, .ref (g.2.2.1 + 0)), (1, .int x1), (2, .int x2), (3, .int x3)]) rfl (Nat.le_of_ble_eq_true rfl) rfl ?_
  intro p e s m below meth c C0 hP ls hl
  generalize ([.ref (g.2.2.1 + 0), .int x1, .int x2, .int x3] : List Value).toArray = args at C0 ⊢
  have C0 : Cx Lm g p s m args meth c cX10_has 4 (some .boolean) RX10 := C0
  have hS : va_S (Ax Lm g) s.heap s.heap [] := va_S.rf
  obtain ⟨hx, hb, hr, hml, hown, hts, hlocks, hK⟩ := id C0
  unfold X10_has at h
  skip
  refine lv_iload_n hx hb dX10_has_0 rfl (lv_at hl 2 rfl) ?_
  refine lv_if_lt (tgt := 34) hx hb dX10_has_1 (by decide) (fun c1 => ?_) (fun c1 => ?_)
  · rw [if_pos c1] at h
    refine lv_iconst (v := (0 : Int32)) hx hb dX10_has_34 rfl ?_
    obtain ⟨rfl, rfl⟩ := some2 h
    exact x_zret C0 hP hS (by decide) dX10_has_35
  · rw [if_neg c1] at h
    refine lv_iload_n hx hb dX10_has_4 rfl (lv_at hl 3 rfl) ?_
    refine lv_if_lt (tgt := 34) hx hb dX10_has_5 (by decide) (fun c2 => ?_) (fun c2 => ?_)
    · rw [if_pos c2] at h
      refine lv_iconst (v := (0 : Int32)) hx hb dX10_has_34 rfl ?_
      obtain ⟨rfl, rfl⟩ := some2 h
      exact x_zret C0 hP hS (by decide) dX10_has_35
    · rw [if_neg c2] at h
      refine lv_iload_n hx hb dX10_has_8 rfl (lv_at hl 3 rfl) ?_
      refine lv_aload_n hx hb dX10_has_9 rfl (lv_at hl 0 rfl) ?_
      refine x_get C0 hP inu10 (k := 0) cm_0 (by decide) rfl 19 (by decide) q4_153 rfl (v := .ref (g.2.2.1 + 9)) rfl dX10_has_10 ?_
      refine lv_iload_n hx hb dX10_has_13 rfl (lv_at hl 1 rfl) ?_
      obtain ⟨z3, h⟩ := gd_some h
      refine x_iald C0 hP (k := 9) cm_9 (j := x1.toNatClampNeg) z3 rfl dX10_has_14 ?_
      refine lv_icmp_gt (tgt := 34) hx hb dX10_has_15 (by decide) (fun c4 => ?_) (fun c4 => ?_)
      · rw [if_pos c4] at h
        refine lv_iconst (v := (0 : Int32)) hx hb dX10_has_34 rfl ?_
        obtain ⟨rfl, rfl⟩ := some2 h
        exact x_zret C0 hP hS (by decide) dX10_has_35
      · rw [if_neg c4] at h
        refine lv_iload_n hx hb dX10_has_18 rfl (lv_at hl 2 rfl) ?_
        refine lv_aload_n hx hb dX10_has_19 rfl (lv_at hl 0 rfl) ?_
        refine x_get C0 hP inu10 (k := 0) cm_0 (by decide) rfl 19 (by decide) q4_153 rfl (v := .ref (g.2.2.1 + 9)) rfl dX10_has_20 ?_
        refine lv_iload_n hx hb dX10_has_23 rfl (lv_at hl 1 rfl) ?_
        obtain ⟨z5, h⟩ := gd_some h
        refine x_iald C0 hP (k := 9) cm_9 (j := x1.toNatClampNeg) z5 rfl dX10_has_24 ?_
        refine lv_iload_n hx hb dX10_has_25 rfl (lv_at hl 3 rfl) ?_
        refine lv_isub hx hb dX10_has_26 ?_
        refine lv_icmp_gt (tgt := 34) hx hb dX10_has_27 (by decide) (fun c6 => ?_) (fun c6 => ?_)
        · rw [if_pos c6] at h
          refine lv_iconst (v := (0 : Int32)) hx hb dX10_has_34 rfl ?_
          obtain ⟨rfl, rfl⟩ := some2 h
          exact x_zret C0 hP hS (by decide) dX10_has_35
        · rw [if_neg c6] at h
          refine lv_iconst (v := (1 : Int32)) hx hb dX10_has_30 rfl ?_
          refine lv_goto (tgt := 35) hx hb dX10_has_31 (by decide) ?_
          obtain ⟨rfl, rfl⟩ := some2 h
          exact x_zret C0 hP hS (by decide) dX10_has_35
def X10_move_18   (μ : Mem) : Option (Int32 × Mem) :=
  ob2 (X10_finding (1 : Int32) μ) fun r3 μ3 => some (r3, μ3)
set_option maxRecDepth 100000 in
set_option maxHeartbeats 4000000 in
theorem w_X10_move_18 {g : Gx} {p : Program} {l : Launch} {e : Env} {s : State} {m : MethodId} {args : Array Value} {below : List Frame} {meth : Method} {c : Code} (C0 : Cx Lm g p s m args meth c cX10_move 7 (some .int) RX10) {r : Int32} {ν : Mem}   (μ : Mem) (H : Heap) (locs : List Loc) (ls : Array Slot) (hP : Px Lm g μ H) (hS : va_S (Ax Lm g) s.heap H locs) (hl : lv_has ls 7 [(0, .ref (g.2.2.1 + 0))]) (h : X10_move_18   μ = some (r, ν)) : W p l e { frames := 1, cells := 0, slots := 0, locals := 23 } s m args below meth c H locs 0 0 (MQ below (Qx Lm g (some (.int r)) ν) args s 0 0 (Ax Lm g)) (F0 m 18 ls []) := by
  obtain ⟨hx, hb, hr, hml, hown, hts, hlocks, hK⟩ := id C0
  unfold X10_move_18 at h
  refine lv_aload_n hx hb dX10_move_18 rfl (lv_at hl 0 rfl) ?_
  refine lv_iconst (v := (1 : Int32)) hx hb dX10_move_19 rfl ?_
  obtain ⟨r3, μ3, h1, h⟩ := ob2_some h
  refine x_callV C0 (rest := []) (q := (RX10, TX10, 22)) (c_X10_finding l g (1 : Int32) μ h1) q4_214 q4_211 q4_213 r2_5 q1_11 hd_X10_finding ⟨rfl, rfl⟩ ⟨Nat.le_of_ble_eq_true rfl, Nat.le_of_ble_eq_true rfl⟩ cm_0 (by decide) rfl hP hS hl.1 rfl rfl (Nat.le_of_ble_eq_true rfl) dX10_move_20 (fun H locs hP hS => ?_)
  refine W.eq (g2 := F0 m 23 ls [.int r3]) rfl ?_
  obtain ⟨rfl, rfl⟩ := some2 h
  exact x_iret C0 hP hS dX10_move_23
def X10_move_42   (μ : Mem) : Option (Int32 × Mem) :=
  ob2 (X10_finding (2 : Int32) μ) fun r8 μ8 => some (r8, μ8)
set_option maxRecDepth 100000 in
set_option maxHeartbeats 4000000 in
theorem w_X10_move_42 {g : Gx} {p : Program} {l : Launch} {e : Env} {s : State} {m : MethodId} {args : Array Value} {below : List Frame} {meth : Method} {c : Code} (C0 : Cx Lm g p s m args meth c cX10_move 7 (some .int) RX10) {r : Int32} {ν : Mem}   (μ : Mem) (H : Heap) (locs : List Loc) (ls : Array Slot) (hP : Px Lm g μ H) (hS : va_S (Ax Lm g) s.heap H locs) (hl : lv_has ls 7 [(0, .ref (g.2.2.1 + 0))]) (h : X10_move_42   μ = some (r, ν)) : W p l e { frames := 1, cells := 0, slots := 0, locals := 23 } s m args below meth c H locs 0 0 (MQ below (Qx Lm g (some (.int r)) ν) args s 0 0 (Ax Lm g)) (F0 m 42 ls []) := by
  obtain ⟨hx, hb, hr, hml, hown, hts, hlocks, hK⟩ := id C0
  unfold X10_move_42 at h
  refine lv_aload_n hx hb dX10_move_42 rfl (lv_at hl 0 rfl) ?_
  refine lv_iconst (v := (2 : Int32)) hx hb dX10_move_43 rfl ?_
  obtain ⟨r8, μ8, h1, h⟩ := ob2_some h
  refine x_callV C0 (rest := []) (q := (RX10, TX10, 22)) (c_X10_finding l g (2 : Int32) μ h1) q4_214 q4_211 q4_213 r2_5 q1_11 hd_X10_finding ⟨rfl, rfl⟩ ⟨Nat.le_of_ble_eq_true rfl, Nat.le_of_ble_eq_true rfl⟩ cm_0 (by decide) rfl hP hS hl.1 rfl rfl (Nat.le_of_ble_eq_true rfl) dX10_move_44 (fun H locs hP hS => ?_)
  refine W.eq (g2 := F0 m 47 ls [.int r8]) rfl ?_
  obtain ⟨rfl, rfl⟩ := some2 h
  exact x_iret C0 hP hS dX10_move_47
def X10_move_92   (μ : Mem) : Option (Int32 × Mem) :=
  ob2 (X10_finding (1 : Int32) μ) fun r16 μ16 => some (r16, μ16)
set_option maxRecDepth 100000 in
set_option maxHeartbeats 4000000 in
theorem w_X10_move_92 {g : Gx} {p : Program} {l : Launch} {e : Env} {s : State} {m : MethodId} {args : Array Value} {below : List Frame} {meth : Method} {c : Code} (C0 : Cx Lm g p s m args meth c cX10_move 7 (some .int) RX10) {r : Int32} {ν : Mem}   (μ : Mem) (H : Heap) (locs : List Loc) (ls : Array Slot) (hP : Px Lm g μ H) (hS : va_S (Ax Lm g) s.heap H locs) (hl : lv_has ls 7 [(0, .ref (g.2.2.1 + 0))]) (h : X10_move_92   μ = some (r, ν)) : W p l e { frames := 1, cells := 0, slots := 0, locals := 23 } s m args below meth c H locs 0 0 (MQ below (Qx Lm g (some (.int r)) ν) args s 0 0 (Ax Lm g)) (F0 m 92 ls []) := by
  obtain ⟨hx, hb, hr, hml, hown, hts, hlocks, hK⟩ := id C0
  unfold X10_move_92 at h
  refine lv_aload_n hx hb dX10_move_92 rfl (lv_at hl 0 rfl) ?_
  refine lv_iconst (v := (1 : Int32)) hx hb dX10_move_93 rfl ?_
  obtain ⟨r16, μ16, h1, h⟩ := ob2_some h
  refine x_callV C0 (rest := []) (q := (RX10, TX10, 22)) (c_X10_finding l g (1 : Int32) μ h1) q4_214 q4_211 q4_213 r2_5 q1_11 hd_X10_finding ⟨rfl, rfl⟩ ⟨Nat.le_of_ble_eq_true rfl, Nat.le_of_ble_eq_true rfl⟩ cm_0 (by decide) rfl hP hS hl.1 rfl rfl (Nat.le_of_ble_eq_true rfl) dX10_move_94 (fun H locs hP hS => ?_)
  refine W.eq (g2 := F0 m 97 ls [.int r16]) rfl ?_
  obtain ⟨rfl, rfl⟩ := some2 h
  exact x_iret C0 hP hS dX10_move_97
def X10_move_138  : Nat → Int32 → Int32 → Int32 → Int32 → Mem → Option (Int32 × Mem)
  | 0, _, _, _, _, _ => none
  | n + 1, x3, x4, x5, x6, μ => (if x5 ≤ x6 then some (x5, μ) else gd (inB x6 24) (gd (inB ((((24 : Int32) * x3) + x4) + x6) 96) (lt (st μ 10 ((((24 : Int32) * x3) + x4) + x6).toNatClampNeg (μ 11 x6.toNatClampNeg)) fun μ23 => (X10_move_138 n) x3 x4 x5 (x6 + (1 : Int32)) μ23)))
set_option maxRecDepth 100000 in
set_option maxHeartbeats 4000000 in
theorem w_X10_move_138 {g : Gx} {p : Program} {l : Launch} {e : Env} {s : State} {m : MethodId} {args : Array Value} {below : List Frame} {meth : Method} {c : Code} (C0 : Cx Lm g p s m args meth c cX10_move 7 (some .int) RX10) {r : Int32} {ν : Mem}  (n : Nat) : ∀ (x3 : Int32) (x4 : Int32) (x5 : Int32) (x6 : Int32) (μ : Mem) (H : Heap) (locs : List Loc) (ls : Array Slot), Px Lm g μ H → va_S (Ax Lm g) s.heap H locs → lv_has ls 7 [(0, .ref (g.2.2.1 + 0)), (3, .int x3), (4, .int x4), (5, .int x5), (6, .int x6)] → X10_move_138  n x3 x4 x5 x6 μ = some (r, ν) → W p l e { frames := 1, cells := 0, slots := 0, locals := 23 } s m args below meth c H locs 0 0 (MQ below (Qx Lm g (some (.int r)) ν) args s 0 0 (Ax Lm g)) (F0 m 138 ls []) := by
  obtain ⟨hx, hb, hr, hml, hown, hts, hlocks, hK⟩ := id C0
  induction n with
  | zero =>
    intro x3 x4 x5 x6 μ H locs ls hP hS hl h
    have h : (none : Option (Int32 × Mem)) = some (r, ν) := h
    cases h
  | succ n ih =>
    intro x3 x4 x5 x6 μ H locs ls hP hS hl h
    rw [X10_move_138.eq_2] at h
    refine lv_iload hx hb dX10_move_138 (lv_at hl 4 rfl) ?_
    refine lv_iload hx hb dX10_move_140 (lv_at hl 3 rfl) ?_
    refine lv_icmp_ge (tgt := 173) hx hb dX10_move_142 (by decide) (fun c20 => ?_) (fun c20 => ?_)
    · rw [if_pos c20] at h
      refine lv_iload hx hb dX10_move_173 (lv_at hl 3 rfl) ?_
      obtain ⟨rfl, rfl⟩ := some2 h
      exact x_iret C0 hP hS dX10_move_175
    · rw [if_neg c20] at h
      refine lv_aload_n hx hb dX10_move_145 rfl (lv_at hl 0 rfl) ?_
      refine x_get C0 hP inu10 (k := 0) cm_0 (by decide) rfl 20 (by decide) q4_154 rfl (v := .ref (g.2.2.1 + 10)) rfl dX10_move_146 ?_
      refine lv_bipush (v := (24 : Int32)) hx hb dX10_move_149 (by decide +kernel) ?_
      refine lv_iload_n hx hb dX10_move_151 rfl (lv_at hl 1 rfl) ?_
      refine lv_imul hx hb dX10_move_152 ?_
      refine lv_iload hx hb dX10_move_153 (lv_at hl 2 rfl) ?_
      refine lv_iadd hx hb dX10_move_155 ?_
      refine lv_iload hx hb dX10_move_156 (lv_at hl 4 rfl) ?_
      refine lv_iadd hx hb dX10_move_158 ?_
      refine lv_aload_n hx hb dX10_move_159 rfl (lv_at hl 0 rfl) ?_
      refine x_get C0 hP inu10 (k := 0) cm_0 (by decide) rfl 21 (by decide) q4_155 rfl (v := .ref (g.2.2.1 + 11)) rfl dX10_move_160 ?_
      refine lv_iload hx hb dX10_move_163 (lv_at hl 4 rfl) ?_
      obtain ⟨z21, h⟩ := gd_some h
      refine x_iald C0 hP (k := 11) cm_11 (j := x6.toNatClampNeg) z21 rfl dX10_move_165 ?_
      obtain ⟨z22, h⟩ := gd_some h
      obtain ⟨μ23, e23, h⟩ := lt_some h
      refine x_iast C0 hP hS (k := 10) cm_10 (j := ((((24 : Int32) * x3) + x4) + x6).toNatClampNeg) z22 rfl dX10_move_166 (fun H locs hP hS => ?_)
      rw [← e23] at hP
      refine lv_iinc (v := (x6 + (1 : Int32))) (lv' := [(6, .int (x6 + (1 : Int32))), (0, .ref (g.2.2.1 + 0)), (3, .int x3), (4, .int x4), (5, .int x5)]) hx hb dX10_move_167 hl (k := 4) rfl rfl (by decide) rfl (fun ls hl => ?_)
      refine lv_goto (tgt := 138) hx hb dX10_move_170 (by decide) ?_
      exact ih x3 x4 x5 (x6 + (1 : Int32)) μ23 _ _ _ hP hS (lv_sub hl [1, 2, 3, 4, 0] rfl) h
def X10_move_101  : Nat → Int32 → Int32 → Int32 → Int32 → Int32 → Int32 → Mem → Option (Int32 × Mem)
  | 0, _, _, _, _, _, _, _ => none
  | n + 1, x1, x2, x3, x4, x5, x6, μ => (if x5 ≤ x6 then X10_move_138 FU x3 x4 x5 (0 : Int32) μ else gd (inB ((((24 : Int32) * x1) + x2) + x6) 96) (gd (inB x6 24) (lt (st μ 11 x6.toNatClampNeg (μ 10 ((((24 : Int32) * x1) + x2) + x6).toNatClampNeg)) fun μ26 => (X10_move_101 n) x1 x2 x3 x4 x5 (x6 + (1 : Int32)) μ26)))
set_option maxRecDepth 100000 in
set_option maxHeartbeats 4000000 in
theorem w_X10_move_101 {g : Gx} {p : Program} {l : Launch} {e : Env} {s : State} {m : MethodId} {args : Array Value} {below : List Frame} {meth : Method} {c : Code} (C0 : Cx Lm g p s m args meth c cX10_move 7 (some .int) RX10) {r : Int32} {ν : Mem}  (n : Nat) : ∀ (x1 : Int32) (x2 : Int32) (x3 : Int32) (x4 : Int32) (x5 : Int32) (x6 : Int32) (μ : Mem) (H : Heap) (locs : List Loc) (ls : Array Slot), Px Lm g μ H → va_S (Ax Lm g) s.heap H locs → lv_has ls 7 [(0, .ref (g.2.2.1 + 0)), (1, .int x1), (2, .int x2), (3, .int x3), (4, .int x4), (5, .int x5), (6, .int x6)] → X10_move_101  n x1 x2 x3 x4 x5 x6 μ = some (r, ν) → W p l e { frames := 1, cells := 0, slots := 0, locals := 23 } s m args below meth c H locs 0 0 (MQ below (Qx Lm g (some (.int r)) ν) args s 0 0 (Ax Lm g)) (F0 m 101 ls []) := by
  obtain ⟨hx, hb, hr, hml, hown, hts, hlocks, hK⟩ := id C0
  induction n with
  | zero =>
    intro x1 x2 x3 x4 x5 x6 μ H locs ls hP hS hl h
    have h : (none : Option (Int32 × Mem)) = some (r, ν) := h
    cases h
  | succ n ih =>
    intro x1 x2 x3 x4 x5 x6 μ H locs ls hP hS hl h
    rw [X10_move_101.eq_2] at h
    refine lv_iload hx hb dX10_move_101 (lv_at hl 6 rfl) ?_
    refine lv_iload hx hb dX10_move_103 (lv_at hl 5 rfl) ?_
    refine lv_icmp_ge (tgt := 135) hx hb dX10_move_105 (by decide) (fun c19 => ?_) (fun c19 => ?_)
    · rw [if_pos c19] at h
      refine lv_iconst (v := (0 : Int32)) hx hb dX10_move_135 rfl ?_
      refine lv_istore (lv' := [(6, .int (0 : Int32)), (0, .ref (g.2.2.1 + 0)), (1, .int x1), (2, .int x2), (3, .int x3), (4, .int x4), (5, .int x5)]) hx hb dX10_move_136 hl (by decide) rfl (fun ls hl => ?_)
      exact w_X10_move_138 C0  FU x3 x4 x5 (0 : Int32) μ _ _ _ hP hS (lv_sub hl [1, 4, 5, 6, 0] rfl) h
    · rw [if_neg c19] at h
      refine lv_aload_n hx hb dX10_move_108 rfl (lv_at hl 0 rfl) ?_
      refine x_get C0 hP inu10 (k := 0) cm_0 (by decide) rfl 21 (by decide) q4_155 rfl (v := .ref (g.2.2.1 + 11)) rfl dX10_move_109 ?_
      refine lv_iload hx hb dX10_move_112 (lv_at hl 6 rfl) ?_
      refine lv_aload_n hx hb dX10_move_114 rfl (lv_at hl 0 rfl) ?_
      refine x_get C0 hP inu10 (k := 0) cm_0 (by decide) rfl 20 (by decide) q4_154 rfl (v := .ref (g.2.2.1 + 10)) rfl dX10_move_115 ?_
      refine lv_bipush (v := (24 : Int32)) hx hb dX10_move_118 (by decide +kernel) ?_
      refine lv_iload_n hx hb dX10_move_120 rfl (lv_at hl 1 rfl) ?_
      refine lv_imul hx hb dX10_move_121 ?_
      refine lv_iload_n hx hb dX10_move_122 rfl (lv_at hl 2 rfl) ?_
      refine lv_iadd hx hb dX10_move_123 ?_
      refine lv_iload hx hb dX10_move_124 (lv_at hl 6 rfl) ?_
      refine lv_iadd hx hb dX10_move_126 ?_
      obtain ⟨z24, h⟩ := gd_some h
      refine x_iald C0 hP (k := 10) cm_10 (j := ((((24 : Int32) * x1) + x2) + x6).toNatClampNeg) z24 rfl dX10_move_127 ?_
      obtain ⟨z25, h⟩ := gd_some h
      obtain ⟨μ26, e26, h⟩ := lt_some h
      refine x_iast C0 hP hS (k := 11) cm_11 (j := x6.toNatClampNeg) z25 rfl dX10_move_128 (fun H locs hP hS => ?_)
      rw [← e26] at hP
      refine lv_iinc (v := (x6 + (1 : Int32))) (lv' := [(6, .int (x6 + (1 : Int32))), (0, .ref (g.2.2.1 + 0)), (1, .int x1), (2, .int x2), (3, .int x3), (4, .int x4), (5, .int x5)]) hx hb dX10_move_129 hl (k := 6) rfl rfl (by decide) rfl (fun ls hl => ?_)
      refine lv_goto (tgt := 101) hx hb dX10_move_132 (by decide) ?_
      exact ih x1 x2 x3 x4 x5 (x6 + (1 : Int32)) μ26 _ _ _ hP hS (lv_sub hl [1, 2, 3, 4, 5, 6, 0] rfl) h
def X10_move (x1 : Int32) (x2 : Int32) (x3 : Int32) (x4 : Int32) (x5 : Int32) (μ : Mem) : Option (Int32 × Mem) :=
  ob2 (X10_in x1 (0 : Int32) (3 : Int32) μ) fun r1 μ1 => (if r1 = (0 : Int32) then X10_move_18 μ1 else ob2 (X10_in x3 (0 : Int32) (3 : Int32) μ1) fun r4 μ4 => (if r4 = (0 : Int32) then X10_move_18 μ4 else gd (inB x1 4) ((if (μ4 8 x1.toNatClampNeg) = (0 : Int32) then X10_move_42 μ4 else gd (inB x3 4) ((if (μ4 8 x3.toNatClampNeg) = (0 : Int32) then X10_move_42 μ4 else gd (inB x1 4) (gd (inB x3 4) ((if (μ4 8 x1.toNatClampNeg) = (μ4 8 x3.toNatClampNeg) then ob2 (X10_has x1 x2 x5 μ4) fun r14 μ14 => (if r14 = (0 : Int32) then X10_move_92 μ14 else ob2 (X10_has x3 x4 x5 μ14) fun r17 μ17 => (if r17 = (0 : Int32) then X10_move_92 μ17 else X10_move_101 FU x1 x2 x3 x4 x5 (0 : Int32) μ17)) else ob2 (X10_finding (5 : Int32) μ4) fun r27 μ27 => some (r27, μ27))))))))))
set_option maxRecDepth 100000 in
set_option maxHeartbeats 4000000 in
theorem c_X10_move (l : Launch) (g : Gx) (x1 : Int32) (x2 : Int32) (x3 : Int32) (x4 : Int32) (x5 : Int32) (μ : Mem) {r : Int32} {ν : Mem} (h : X10_move x1 x2 x3 x4 x5 μ = some (r, ν)) : Ct Lm g l yX10_move cX10_move 7 (some .int) { frames := 1, cells := 0, slots := 0, locals := 23 } [.ref (g.2.2.1 + 0), .int x1, .int x2, .int x3, .int x4, .int x5] μ (some (.int r)) ν := by
  refine x_met (lv := [(0, .ref (g.2.2.1 + 0)), (1, .int x1), (2, .int x2), (3, .int x3), (4, .int x4), (5, .int x5)]) rfl (Nat.le_of_ble_eq_true rfl) rfl ?_
  intro p e s m below meth c C0 hP ls hl
  generalize ([.ref (g.2.2.1 + 0), .int x1, .int x2, .int x3, .int x4, .int x5] : List Value).toArray = args at C0 ⊢
  have C0 : Cx Lm g p s m args meth c cX10_move 7 (some .int) RX10 := C0
  have hS : va_S (Ax Lm g) s.heap s.heap [] := va_S.rf
  obtain ⟨hx, hb, hr, hml, hown, hts, hlocks, hK⟩ := id C0
  unfold X10_move at h
  skip
  refine lv_iload_n hx hb dX10_move_0 rfl (lv_at hl 1 rfl) ?_
  refine lv_iconst (v := (0 : Int32)) hx hb dX10_move_1 rfl ?_
  refine lv_iconst (v := (3 : Int32)) hx hb dX10_move_2 rfl ?_
  obtain ⟨r1, μ1, h1, h⟩ := ob2_some h
  refine x_callS C0 (rest := []) (c_X10_in l g x1 (0 : Int32) (3 : Int32) μ h1) q4_207 q4_205 q4_206 q1_11 hd_X10_in ⟨rfl, rfl⟩ ⟨Nat.le_of_ble_eq_true rfl, Nat.le_of_ble_eq_true rfl⟩ hP hS hl.1 rfl rfl (Nat.le_of_ble_eq_true rfl) dX10_move_3 (fun H locs hP hS => ?_)
  refine W.eq (g2 := F0 m 6 ls [.int r1]) rfl ?_
  refine lv_if_eq (tgt := 18) hx hb dX10_move_6 (by decide) (fun c2 => ?_) (fun c2 => ?_)
  · rw [if_pos c2] at h
    exact w_X10_move_18 C0   μ1 _ _ _ hP hS (lv_sub hl [0] rfl) h
  · rw [if_neg c2] at h
    refine lv_iload_n hx hb dX10_move_9 rfl (lv_at hl 3 rfl) ?_
    refine lv_iconst (v := (0 : Int32)) hx hb dX10_move_10 rfl ?_
    refine lv_iconst (v := (3 : Int32)) hx hb dX10_move_11 rfl ?_
    obtain ⟨r4, μ4, h1, h⟩ := ob2_some h
    refine x_callS C0 (rest := []) (c_X10_in l g x3 (0 : Int32) (3 : Int32) μ1 h1) q4_207 q4_205 q4_206 q1_11 hd_X10_in ⟨rfl, rfl⟩ ⟨Nat.le_of_ble_eq_true rfl, Nat.le_of_ble_eq_true rfl⟩ hP hS hl.1 rfl rfl (Nat.le_of_ble_eq_true rfl) dX10_move_12 (fun H locs hP hS => ?_)
    refine W.eq (g2 := F0 m 15 ls [.int r4]) rfl ?_
    refine lv_if_ne (tgt := 24) hx hb dX10_move_15 (by decide) (fun c5 => ?_) (fun c5 => ?_)
    · rw [if_neg c5] at h
      refine lv_aload_n hx hb dX10_move_24 rfl (lv_at hl 0 rfl) ?_
      refine x_get C0 hP inu10 (k := 0) cm_0 (by decide) rfl 18 (by decide) q4_152 rfl (v := .ref (g.2.2.1 + 8)) rfl dX10_move_25 ?_
      refine lv_iload_n hx hb dX10_move_28 rfl (lv_at hl 1 rfl) ?_
      obtain ⟨z6, h⟩ := gd_some h
      refine x_iald C0 hP (k := 8) cm_8 (j := x1.toNatClampNeg) z6 rfl dX10_move_29 ?_
      refine lv_if_eq (tgt := 42) hx hb dX10_move_30 (by decide) (fun c7 => ?_) (fun c7 => ?_)
      · rw [if_pos c7] at h
        exact w_X10_move_42 C0   μ4 _ _ _ hP hS (lv_sub hl [0] rfl) h
      · rw [if_neg c7] at h
        refine lv_aload_n hx hb dX10_move_33 rfl (lv_at hl 0 rfl) ?_
        refine x_get C0 hP inu10 (k := 0) cm_0 (by decide) rfl 18 (by decide) q4_152 rfl (v := .ref (g.2.2.1 + 8)) rfl dX10_move_34 ?_
        refine lv_iload_n hx hb dX10_move_37 rfl (lv_at hl 3 rfl) ?_
        obtain ⟨z9, h⟩ := gd_some h
        refine x_iald C0 hP (k := 8) cm_8 (j := x3.toNatClampNeg) z9 rfl dX10_move_38 ?_
        refine lv_if_ne (tgt := 48) hx hb dX10_move_39 (by decide) (fun c10 => ?_) (fun c10 => ?_)
        · rw [if_neg c10] at h
          refine lv_aload_n hx hb dX10_move_48 rfl (lv_at hl 0 rfl) ?_
          refine x_get C0 hP inu10 (k := 0) cm_0 (by decide) rfl 18 (by decide) q4_152 rfl (v := .ref (g.2.2.1 + 8)) rfl dX10_move_49 ?_
          refine lv_iload_n hx hb dX10_move_52 rfl (lv_at hl 1 rfl) ?_
          obtain ⟨z11, h⟩ := gd_some h
          refine x_iald C0 hP (k := 8) cm_8 (j := x1.toNatClampNeg) z11 rfl dX10_move_53 ?_
          refine lv_aload_n hx hb dX10_move_54 rfl (lv_at hl 0 rfl) ?_
          refine x_get C0 hP inu10 (k := 0) cm_0 (by decide) rfl 18 (by decide) q4_152 rfl (v := .ref (g.2.2.1 + 8)) rfl dX10_move_55 ?_
          refine lv_iload_n hx hb dX10_move_58 rfl (lv_at hl 3 rfl) ?_
          obtain ⟨z12, h⟩ := gd_some h
          refine x_iald C0 hP (k := 8) cm_8 (j := x3.toNatClampNeg) z12 rfl dX10_move_59 ?_
          refine lv_icmp_eq (tgt := 69) hx hb dX10_move_60 (by decide) (fun c13 => ?_) (fun c13 => ?_)
          · rw [if_pos c13] at h
            refine lv_aload_n hx hb dX10_move_69 rfl (lv_at hl 0 rfl) ?_
            refine lv_iload_n hx hb dX10_move_70 rfl (lv_at hl 1 rfl) ?_
            refine lv_iload_n hx hb dX10_move_71 rfl (lv_at hl 2 rfl) ?_
            refine lv_iload hx hb dX10_move_72 (lv_at hl 5 rfl) ?_
            obtain ⟨r14, μ14, h1, h⟩ := ob2_some h
            refine x_callV C0 (rest := []) (q := (RX10, TX10, 22)) (c_X10_has l g x1 x2 x5 μ4 h1) q6_34 q6_31 q6_33 r5_0 q1_11 hd_X10_has ⟨rfl, rfl⟩ ⟨Nat.le_of_ble_eq_true rfl, Nat.le_of_ble_eq_true rfl⟩ cm_0 (by decide) rfl hP hS hl.1 rfl rfl (Nat.le_of_ble_eq_true rfl) dX10_move_74 (fun H locs hP hS => ?_)
            refine W.eq (g2 := F0 m 77 ls [.int r14]) rfl ?_
            refine lv_if_eq (tgt := 92) hx hb dX10_move_77 (by decide) (fun c15 => ?_) (fun c15 => ?_)
            · rw [if_pos c15] at h
              exact w_X10_move_92 C0   μ14 _ _ _ hP hS (lv_sub hl [0] rfl) h
            · rw [if_neg c15] at h
              refine lv_aload_n hx hb dX10_move_80 rfl (lv_at hl 0 rfl) ?_
              refine lv_iload_n hx hb dX10_move_81 rfl (lv_at hl 3 rfl) ?_
              refine lv_iload hx hb dX10_move_82 (lv_at hl 4 rfl) ?_
              refine lv_iload hx hb dX10_move_84 (lv_at hl 5 rfl) ?_
              obtain ⟨r17, μ17, h1, h⟩ := ob2_some h
              refine x_callV C0 (rest := []) (q := (RX10, TX10, 22)) (c_X10_has l g x3 x4 x5 μ14 h1) q6_34 q6_31 q6_33 r5_0 q1_11 hd_X10_has ⟨rfl, rfl⟩ ⟨Nat.le_of_ble_eq_true rfl, Nat.le_of_ble_eq_true rfl⟩ cm_0 (by decide) rfl hP hS hl.1 rfl rfl (Nat.le_of_ble_eq_true rfl) dX10_move_86 (fun H locs hP hS => ?_)
              refine W.eq (g2 := F0 m 89 ls [.int r17]) rfl ?_
              refine lv_if_ne (tgt := 98) hx hb dX10_move_89 (by decide) (fun c18 => ?_) (fun c18 => ?_)
              · rw [if_neg c18] at h
                refine lv_iconst (v := (0 : Int32)) hx hb dX10_move_98 rfl ?_
                refine lv_istore (lv' := [(6, .int (0 : Int32)), (0, .ref (g.2.2.1 + 0)), (1, .int x1), (2, .int x2), (3, .int x3), (4, .int x4), (5, .int x5)]) hx hb dX10_move_99 hl (by decide) rfl (fun ls hl => ?_)
                exact w_X10_move_101 C0  FU x1 x2 x3 x4 x5 (0 : Int32) μ17 _ _ _ hP hS (lv_sub hl [1, 2, 3, 4, 5, 6, 0] rfl) h
              · rw [if_pos c18] at h
                exact w_X10_move_92 C0   μ17 _ _ _ hP hS (lv_sub hl [0] rfl) h
          · rw [if_neg c13] at h
            refine lv_aload_n hx hb dX10_move_63 rfl (lv_at hl 0 rfl) ?_
            refine lv_iconst (v := (5 : Int32)) hx hb dX10_move_64 rfl ?_
            obtain ⟨r27, μ27, h1, h⟩ := ob2_some h
            refine x_callV C0 (rest := []) (q := (RX10, TX10, 22)) (c_X10_finding l g (5 : Int32) μ4 h1) q4_214 q4_211 q4_213 r2_5 q1_11 hd_X10_finding ⟨rfl, rfl⟩ ⟨Nat.le_of_ble_eq_true rfl, Nat.le_of_ble_eq_true rfl⟩ cm_0 (by decide) rfl hP hS hl.1 rfl rfl (Nat.le_of_ble_eq_true rfl) dX10_move_65 (fun H locs hP hS => ?_)
            refine W.eq (g2 := F0 m 68 ls [.int r27]) rfl ?_
            obtain ⟨rfl, rfl⟩ := some2 h
            exact x_iret C0 hP hS dX10_move_68
        · rw [if_pos c10] at h
          exact w_X10_move_42 C0   μ4 _ _ _ hP hS (lv_sub hl [0] rfl) h
    · rw [if_pos c5] at h
      exact w_X10_move_18 C0   μ4 _ _ _ hP hS (lv_sub hl [0] rfl) h
def X10_image  (μ : Mem) : Option (Int32 × Mem) :=
  ob (X10_keeps 2 μ) fun μ1 => lt (st μ1 0 2 (1 : Int32)) fun μ2 => lt (st μ2 0 3 ((μ2 0 3) + (1 : Int32))) fun μ3 => some ((μ3 0 3), μ3)
set_option maxRecDepth 100000 in
set_option maxHeartbeats 4000000 in
theorem c_X10_image (l : Launch) (g : Gx)  (μ : Mem) {r : Int32} {ν : Mem} (h : X10_image  μ = some (r, ν)) : Ct Lm g l yX10_image cX10_image 1 (some .int) { frames := 1, cells := 0, slots := 0, locals := 22 } [.ref (g.2.2.1 + 0)] μ (some (.int r)) ν := by
  refine x_met (lv := [(0, .ref (g.2.2.1 + 0))]) rfl (Nat.le_of_ble_eq_true rfl) rfl ?_
  intro p e s m below meth c C0 hP ls hl
  generalize ([.ref (g.2.2.1 + 0)] : List Value).toArray = args at C0 ⊢
  have C0 : Cx Lm g p s m args meth c cX10_image 1 (some .int) RX10 := C0
  have hS : va_S (Ax Lm g) s.heap s.heap [] := va_S.rf
  obtain ⟨hx, hb, hr, hml, hown, hts, hlocks, hK⟩ := id C0
  unfold X10_image at h
  skip
  refine lv_aload_n hx hb dX10_image_0 rfl (lv_at hl 0 rfl) ?_
  refine lv_aload_n hx hb dX10_image_1 rfl (lv_at hl 0 rfl) ?_
  refine x_get C0 hP inu10 (k := 0) cm_0 (by decide) rfl 1 (by decide) q4_135 rfl (v := .ref (g.2.2.1 + 2)) rfl dX10_image_2 ?_
  obtain ⟨μ1, h1, h⟩ := ob_some h
  refine x_callV C0 (rest := []) (q := (RX10, TX10, 22)) (c_X10_keeps l g 2 cm_2 μ h1) q5_179 q5_176 q5_178 r4_1 q1_11 hd_X10_keeps ⟨rfl, rfl⟩ ⟨Nat.le_of_ble_eq_true rfl, Nat.le_of_ble_eq_true rfl⟩ cm_0 (by decide) rfl hP hS hl.1 rfl rfl (Nat.le_of_ble_eq_true rfl) dX10_image_5 (fun H locs hP hS => ?_)
  refine W.eq (g2 := F0 m 8 ls []) rfl ?_
  refine lv_aload_n hx hb dX10_image_8 rfl (lv_at hl 0 rfl) ?_
  refine lv_iconst (v := (1 : Int32)) hx hb dX10_image_9 rfl ?_
  obtain ⟨μ2, e2, h⟩ := lt_some h
  refine x_put C0 hP hS inu10 tyX10 tyX10_ok nmX10 (k := 0) cm_0 (by decide) rfl 2 (by decide) q4_136 rfl rfl (v := .int (1 : Int32)) (x := (1 : Int32)) rfl rfl (Nat.le_of_ble_eq_true rfl) (os_10_2 _ _ _ _) dX10_image_10 (fun H locs hP hS => ?_)
  rw [← e2] at hP
  refine lv_aload_n hx hb dX10_image_13 rfl (lv_at hl 0 rfl) ?_
  refine lv_dup hx hb dX10_image_14 rfl ?_
  refine x_get C0 hP inu10 (k := 0) cm_0 (by decide) rfl 3 (by decide) q4_137 rfl (v := .int (μ2 0 3)) rfl dX10_image_15 ?_
  refine lv_iconst (v := (1 : Int32)) hx hb dX10_image_18 rfl ?_
  refine lv_iadd hx hb dX10_image_19 ?_
  obtain ⟨μ3, e3, h⟩ := lt_some h
  refine x_put C0 hP hS inu10 tyX10 tyX10_ok nmX10 (k := 0) cm_0 (by decide) rfl 3 (by decide) q4_137 rfl rfl (v := .int ((μ2 0 3) + (1 : Int32))) (x := ((μ2 0 3) + (1 : Int32))) rfl rfl (Nat.le_of_ble_eq_true rfl) (os_10_3 _ _ _ _) dX10_image_20 (fun H locs hP hS => ?_)
  rw [← e3] at hP
  refine lv_aload_n hx hb dX10_image_23 rfl (lv_at hl 0 rfl) ?_
  refine x_get C0 hP inu10 (k := 0) cm_0 (by decide) rfl 3 (by decide) q4_137 rfl (v := .int (μ3 0 3)) rfl dX10_image_24 ?_
  obtain ⟨rfl, rfl⟩ := some2 h
  exact x_iret C0 hP hS dX10_image_27
def X10_restore  (μ : Mem) : Option (Int32 × Mem) :=
  (if (μ 0 2) = (0 : Int32) then ob2 (X10_finding (2 : Int32) μ) fun r3 μ3 => some (r3, μ3) else ob (X10_takes 2 μ) fun μ2 => some ((μ2 1 0), μ2))
set_option maxRecDepth 100000 in
set_option maxHeartbeats 4000000 in
theorem c_X10_restore (l : Launch) (g : Gx)  (μ : Mem) {r : Int32} {ν : Mem} (h : X10_restore  μ = some (r, ν)) : Ct Lm g l yX10_restore cX10_restore 1 (some .int) { frames := 1, cells := 0, slots := 0, locals := 22 } [.ref (g.2.2.1 + 0)] μ (some (.int r)) ν := by
  refine x_met (lv := [(0, .ref (g.2.2.1 + 0))]) rfl (Nat.le_of_ble_eq_true rfl) rfl ?_
  intro p e s m below meth c C0 hP ls hl
  generalize ([.ref (g.2.2.1 + 0)] : List Value).toArray = args at C0 ⊢
  have C0 : Cx Lm g p s m args meth c cX10_restore 1 (some .int) RX10 := C0
  have hS : va_S (Ax Lm g) s.heap s.heap [] := va_S.rf
  obtain ⟨hx, hb, hr, hml, hown, hts, hlocks, hK⟩ := id C0
  unfold X10_restore at h
  skip
  refine lv_aload_n hx hb dX10_restore_0 rfl (lv_at hl 0 rfl) ?_
  refine x_get C0 hP inu10 (k := 0) cm_0 (by decide) rfl 2 (by decide) q4_136 rfl (v := .int (μ 0 2)) rfl dX10_restore_1 ?_
  refine lv_if_ne (tgt := 13) hx hb dX10_restore_4 (by decide) (fun c1 => ?_) (fun c1 => ?_)
  · rw [if_neg c1] at h
    refine lv_aload_n hx hb dX10_restore_13 rfl (lv_at hl 0 rfl) ?_
    refine lv_aload_n hx hb dX10_restore_14 rfl (lv_at hl 0 rfl) ?_
    refine x_get C0 hP inu10 (k := 0) cm_0 (by decide) rfl 1 (by decide) q4_135 rfl (v := .ref (g.2.2.1 + 2)) rfl dX10_restore_15 ?_
    obtain ⟨μ2, h1, h⟩ := ob_some h
    refine x_callV C0 (rest := []) (q := (RX10, TX10, 22)) (c_X10_takes l g 2 cm_2 μ h1) q5_183 q5_180 q5_182 r4_2 q1_11 hd_X10_takes ⟨rfl, rfl⟩ ⟨Nat.le_of_ble_eq_true rfl, Nat.le_of_ble_eq_true rfl⟩ cm_0 (by decide) rfl hP hS hl.1 rfl rfl (Nat.le_of_ble_eq_true rfl) dX10_restore_18 (fun H locs hP hS => ?_)
    refine W.eq (g2 := F0 m 21 ls []) rfl ?_
    refine lv_aload_n hx hb dX10_restore_21 rfl (lv_at hl 0 rfl) ?_
    refine x_get C0 hP inu10 (k := 0) cm_0 (by decide) rfl 0 (by decide) q4_134 rfl (v := .ref (g.2.2.1 + 1)) rfl dX10_restore_22 ?_
    refine lv_iconst (v := (0 : Int32)) hx hb dX10_restore_25 rfl ?_
    refine x_iald C0 hP (k := 1) cm_1 (j := 0) (by decide) rfl dX10_restore_26 ?_
    obtain ⟨rfl, rfl⟩ := some2 h
    exact x_iret C0 hP hS dX10_restore_27
  · rw [if_pos c1] at h
    refine lv_aload_n hx hb dX10_restore_7 rfl (lv_at hl 0 rfl) ?_
    refine lv_iconst (v := (2 : Int32)) hx hb dX10_restore_8 rfl ?_
    obtain ⟨r3, μ3, h1, h⟩ := ob2_some h
    refine x_callV C0 (rest := []) (q := (RX10, TX10, 22)) (c_X10_finding l g (2 : Int32) μ h1) q4_214 q4_211 q4_213 r2_5 q1_11 hd_X10_finding ⟨rfl, rfl⟩ ⟨Nat.le_of_ble_eq_true rfl, Nat.le_of_ble_eq_true rfl⟩ cm_0 (by decide) rfl hP hS hl.1 rfl rfl (Nat.le_of_ble_eq_true rfl) dX10_restore_9 (fun H locs hP hS => ?_)
    refine W.eq (g2 := F0 m 12 ls [.int r3]) rfl ?_
    obtain ⟨rfl, rfl⟩ := some2 h
    exact x_iret C0 hP hS dX10_restore_12
