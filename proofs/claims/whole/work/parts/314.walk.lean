def X10_force_96  (x1 : Int32) (t0 : Int32) (μ : Mem) : Option (Int32 × Mem) :=
  (if t0 = (0 : Int32) then ob2 (X10_finding (3 : Int32) μ) fun r12 μ12 => some (r12, μ12) else ob (X10_set x1 (0 : Int32) (3 : Int32) μ) fun μ10 => ob (X10_set x1 (7 : Int32) (0 : Int32) μ10) fun μ11 => some ((1 : Int32), μ11))
set_option maxRecDepth 100000 in
set_option maxHeartbeats 4000000 in
theorem w_X10_force_96 {g : Gx} {p : Program} {l : Launch} {e : Env} {s : State} {m : MethodId} {args : Array Value} {below : List Frame} {meth : Method} {c : Code} (C0 : Cx Lm g p s m args meth c cX10_force 4 (some .int) RX10) {r : Int32} {ν : Mem}  (x1 : Int32) (t0 : Int32) (μ : Mem) (H : Heap) (locs : List Loc) (ls : Array Slot) (hP : Px Lm g μ H) (hS : va_S (Ax Lm g) s.heap H locs) (hl : lv_has ls 4 [(0, .ref (g.2.2.1 + 0)), (1, .int x1)]) (h : X10_force_96  x1 t0 μ = some (r, ν)) : W p l e { frames := 68, cells := 0, slots := 0, locals := 1543 } s m args below meth c H locs 0 0 (MQ below (Qx Lm g (some (.int r)) ν) args s 0 0 (Ax Lm g)) (F0 m 96 ls [.int t0]) := by
  obtain ⟨hx, hb, hr, hml, hown, hts, hlocks, hK⟩ := id C0
  unfold X10_force_96 at h
  refine lv_istore_n (lv' := [(3, .int t0), (0, .ref (g.2.2.1 + 0)), (1, .int x1)]) hx hb dX10_force_96 rfl hl (by decide) rfl (fun ls hl => ?_)
  refine lv_iload_n hx hb dX10_force_97 rfl (lv_at hl 0 rfl) ?_
  refine lv_if_ne (tgt := 107) hx hb dX10_force_98 (by decide) (fun c9 => ?_) (fun c9 => ?_)
  · rw [if_neg c9] at h
    refine lv_aload_n hx hb dX10_force_107 rfl (lv_at hl 1 rfl) ?_
    refine lv_iload_n hx hb dX10_force_108 rfl (lv_at hl 2 rfl) ?_
    refine lv_iconst (v := (0 : Int32)) hx hb dX10_force_109 rfl ?_
    refine lv_iconst (v := (3 : Int32)) hx hb dX10_force_110 rfl ?_
    obtain ⟨μ10, h1, h⟩ := ob_some h
    refine x_callV C0 (rest := []) (q := (RX10, TX10, 22)) (c_X10_set l g x1 (0 : Int32) (3 : Int32) μ h1) q4_219 q4_216 q4_218 r2_6 q1_11 hd_X10_set ⟨rfl, rfl⟩ ⟨Nat.le_of_ble_eq_true rfl, Nat.le_of_ble_eq_true rfl⟩ cm_0 (by decide) rfl hP hS hl.1 rfl rfl (Nat.le_of_ble_eq_true rfl) dX10_force_111 (fun H locs hP hS => ?_)
    refine W.eq (g2 := F0 m 114 ls []) rfl ?_
    refine lv_aload_n hx hb dX10_force_114 rfl (lv_at hl 1 rfl) ?_
    refine lv_iload_n hx hb dX10_force_115 rfl (lv_at hl 2 rfl) ?_
    refine lv_bipush (v := (7 : Int32)) hx hb dX10_force_116 (by decide +kernel) ?_
    refine lv_iconst (v := (0 : Int32)) hx hb dX10_force_118 rfl ?_
    obtain ⟨μ11, h1, h⟩ := ob_some h
    refine x_callV C0 (rest := []) (q := (RX10, TX10, 22)) (c_X10_set l g x1 (7 : Int32) (0 : Int32) μ10 h1) q4_219 q4_216 q4_218 r2_6 q1_11 hd_X10_set ⟨rfl, rfl⟩ ⟨Nat.le_of_ble_eq_true rfl, Nat.le_of_ble_eq_true rfl⟩ cm_0 (by decide) rfl hP hS hl.1 rfl rfl (Nat.le_of_ble_eq_true rfl) dX10_force_119 (fun H locs hP hS => ?_)
    refine W.eq (g2 := F0 m 122 ls []) rfl ?_
    refine lv_iconst (v := (1 : Int32)) hx hb dX10_force_122 rfl ?_
    obtain ⟨rfl, rfl⟩ := some2 h
    exact x_iret C0 hP hS dX10_force_123
  · rw [if_pos c9] at h
    refine lv_aload_n hx hb dX10_force_101 rfl (lv_at hl 1 rfl) ?_
    refine lv_iconst (v := (3 : Int32)) hx hb dX10_force_102 rfl ?_
    obtain ⟨r12, μ12, h1, h⟩ := ob2_some h
    refine x_callV C0 (rest := []) (q := (RX10, TX10, 22)) (c_X10_finding l g (3 : Int32) μ h1) q4_214 q4_211 q4_213 r2_5 q1_11 hd_X10_finding ⟨rfl, rfl⟩ ⟨Nat.le_of_ble_eq_true rfl, Nat.le_of_ble_eq_true rfl⟩ cm_0 (by decide) rfl hP hS hl.1 rfl rfl (Nat.le_of_ble_eq_true rfl) dX10_force_103 (fun H locs hP hS => ?_)
    refine W.eq (g2 := F0 m 106 ls [.int r12]) rfl ?_
    obtain ⟨rfl, rfl⟩ := some2 h
    exact x_iret C0 hP hS dX10_force_106
def X10_force_95  (x1 : Int32) (μ : Mem) : Option (Int32 × Mem) :=
  X10_force_96 x1 (0 : Int32) μ
set_option maxRecDepth 100000 in
set_option maxHeartbeats 4000000 in
theorem w_X10_force_95 {g : Gx} {p : Program} {l : Launch} {e : Env} {s : State} {m : MethodId} {args : Array Value} {below : List Frame} {meth : Method} {c : Code} (C0 : Cx Lm g p s m args meth c cX10_force 4 (some .int) RX10) {r : Int32} {ν : Mem}  (x1 : Int32) (μ : Mem) (H : Heap) (locs : List Loc) (ls : Array Slot) (hP : Px Lm g μ H) (hS : va_S (Ax Lm g) s.heap H locs) (hl : lv_has ls 4 [(0, .ref (g.2.2.1 + 0)), (1, .int x1)]) (h : X10_force_95  x1 μ = some (r, ν)) : W p l e { frames := 68, cells := 0, slots := 0, locals := 1543 } s m args below meth c H locs 0 0 (MQ below (Qx Lm g (some (.int r)) ν) args s 0 0 (Ax Lm g)) (F0 m 95 ls []) := by
  obtain ⟨hx, hb, hr, hml, hown, hts, hlocks, hK⟩ := id C0
  unfold X10_force_95 at h
  refine lv_iconst (v := (0 : Int32)) hx hb dX10_force_95 rfl ?_
  exact w_X10_force_96 C0  x1 (0 : Int32) μ _ _ _ hP hS (lv_sub hl [0, 1] rfl) h
def X10_force (x1 : Int32) (μ : Mem) : Option (Int32 × Mem) :=
  ob2 (X10_isMeter x1 μ) fun r1 μ1 => (if r1 = (0 : Int32) then ob2 (X10_finding (1 : Int32) μ1) fun r18 μ18 => some (r18, μ18) else ob2 (X10_of x1 (0 : Int32) μ1) fun r3 μ3 => (if r3 = (1 : Int32) then ob2 (X10_forceIn (3 : Int32) (μ3 1 0) μ3) fun r5 μ5 => (if (0 : Int32) ≤ r5 then ob2 (X10_saysOf r5 x1 (μ5 1 0) (0 : Int32) μ5) fun r7 μ7 => (if r7 = (0 : Int32) then X10_force_95 x1 μ7 else ob2 (X10_of x1 (4 : Int32) μ7) fun r13 μ13 => (if r13 ≤ (0 : Int32) then X10_force_95 x1 μ13 else X10_force_96 x1 (1 : Int32) μ13)) else ob2 (X10_of x1 (4 : Int32) μ5) fun r15 μ15 => (if r15 ≤ (10000 : Int32) then X10_force_96 x1 (0 : Int32) μ15 else X10_force_96 x1 (1 : Int32) μ15)) else ob2 (X10_finding (5 : Int32) μ3) fun r17 μ17 => some (r17, μ17)))
set_option maxRecDepth 100000 in
set_option maxHeartbeats 4000000 in
theorem c_X10_force (l : Launch) (g : Gx) (x1 : Int32) (μ : Mem) {r : Int32} {ν : Mem} (h : X10_force x1 μ = some (r, ν)) : Ct Lm g l yX10_force cX10_force 4 (some .int) { frames := 68, cells := 0, slots := 0, locals := 1543 } [.ref (g.2.2.1 + 0), .int x1] μ (some (.int r)) ν := by
  refine x_met (lv := [(0, .ref (g.2.2.1 + 0)), (1, .int x1)]) rfl (Nat.le_of_ble_eq_true rfl) rfl ?_
  intro p e s m below meth c C0 hP ls hl
  generalize ([.ref (g.2.2.1 + 0), .int x1] : List Value).toArray = args at C0 ⊢
  have C0 : Cx Lm g p s m args meth c cX10_force 4 (some .int) RX10 := C0
  have hS : va_S (Ax Lm g) s.heap s.heap [] := va_S.rf
  obtain ⟨hx, hb, hr, hml, hown, hts, hlocks, hK⟩ := id C0
  unfold X10_force at h
  skip
  refine lv_aload_n hx hb dX10_force_0 rfl (lv_at hl 0 rfl) ?_
  refine lv_iload_n hx hb dX10_force_1 rfl (lv_at hl 1 rfl) ?_
  obtain ⟨r1, μ1, h1, h⟩ := ob2_some h
  refine x_callV C0 (rest := []) (q := (RX10, TX10, 22)) (c_X10_isMeter l g x1 μ h1) q4_231 q4_228 q4_230 r2_8 q1_11 hd_X10_isMeter ⟨rfl, rfl⟩ ⟨Nat.le_of_ble_eq_true rfl, Nat.le_of_ble_eq_true rfl⟩ cm_0 (by decide) rfl hP hS hl.1 rfl rfl (Nat.le_of_ble_eq_true rfl) dX10_force_2 (fun H locs hP hS => ?_)
  refine W.eq (g2 := F0 m 5 ls [.int r1]) rfl ?_
  refine lv_if_ne (tgt := 14) hx hb dX10_force_5 (by decide) (fun c2 => ?_) (fun c2 => ?_)
  · rw [if_neg c2] at h
    refine lv_aload_n hx hb dX10_force_14 rfl (lv_at hl 0 rfl) ?_
    refine lv_iload_n hx hb dX10_force_15 rfl (lv_at hl 1 rfl) ?_
    refine lv_iconst (v := (0 : Int32)) hx hb dX10_force_16 rfl ?_
    obtain ⟨r3, μ3, h1, h⟩ := ob2_some h
    refine x_callV C0 (rest := []) (q := (RX10, TX10, 22)) (c_X10_of l g x1 (0 : Int32) μ1 h1) q4_235 q4_232 q4_234 r2_9 q1_11 hd_X10_of ⟨rfl, rfl⟩ ⟨Nat.le_of_ble_eq_true rfl, Nat.le_of_ble_eq_true rfl⟩ cm_0 (by decide) rfl hP hS hl.1 rfl rfl (Nat.le_of_ble_eq_true rfl) dX10_force_17 (fun H locs hP hS => ?_)
    refine W.eq (g2 := F0 m 20 ls [.int r3]) rfl ?_
    refine lv_iconst (v := (1 : Int32)) hx hb dX10_force_20 rfl ?_
    refine lv_icmp_eq (tgt := 30) hx hb dX10_force_21 (by decide) (fun c4 => ?_) (fun c4 => ?_)
    · rw [if_pos c4] at h
      refine lv_aload_n hx hb dX10_force_30 rfl (lv_at hl 0 rfl) ?_
      refine lv_iconst (v := (3 : Int32)) hx hb dX10_force_31 rfl ?_
      refine lv_aload_n hx hb dX10_force_32 rfl (lv_at hl 0 rfl) ?_
      refine x_get C0 hP inu10 (k := 0) cm_0 (by decide) rfl 0 (by decide) q4_134 rfl (v := .ref (g.2.2.1 + 1)) rfl dX10_force_33 ?_
      refine lv_iconst (v := (0 : Int32)) hx hb dX10_force_36 rfl ?_
      refine x_iald C0 hP (k := 1) cm_1 (j := 0) (by decide) rfl dX10_force_37 ?_
      obtain ⟨r5, μ5, h1, h⟩ := ob2_some h
      refine x_callV C0 (rest := []) (q := (RX10, TX10, 22)) (c_X10_forceIn l g (3 : Int32) (μ3 1 0) μ3 h1) q4_223 q4_220 q4_222 r2_7 q1_11 hd_X10_forceIn ⟨rfl, rfl⟩ ⟨Nat.le_of_ble_eq_true rfl, Nat.le_of_ble_eq_true rfl⟩ cm_0 (by decide) rfl hP hS hl.1 rfl rfl (Nat.le_of_ble_eq_true rfl) dX10_force_38 (fun H locs hP hS => ?_)
      refine W.eq (g2 := F0 m 41 ls [.int r5]) rfl ?_
      refine lv_istore_n (lv' := [(2, .int r5), (0, .ref (g.2.2.1 + 0)), (1, .int x1)]) hx hb dX10_force_41 rfl hl (by decide) rfl (fun ls hl => ?_)
      refine lv_iload_n hx hb dX10_force_42 rfl (lv_at hl 0 rfl) ?_
      refine lv_if_ge (tgt := 66) hx hb dX10_force_43 (by decide) (fun c6 => ?_) (fun c6 => ?_)
      · rw [if_pos c6] at h
        refine lv_aload_n hx hb dX10_force_66 rfl (lv_at hl 1 rfl) ?_
        refine lv_iload_n hx hb dX10_force_67 rfl (lv_at hl 0 rfl) ?_
        refine lv_iload_n hx hb dX10_force_68 rfl (lv_at hl 2 rfl) ?_
        refine lv_aload_n hx hb dX10_force_69 rfl (lv_at hl 1 rfl) ?_
        refine x_get C0 hP inu10 (k := 0) cm_0 (by decide) rfl 0 (by decide) q4_134 rfl (v := .ref (g.2.2.1 + 1)) rfl dX10_force_70 ?_
        refine lv_iconst (v := (0 : Int32)) hx hb dX10_force_73 rfl ?_
        refine x_iald C0 hP (k := 1) cm_1 (j := 0) (by decide) rfl dX10_force_74 ?_
        refine lv_iconst (v := (0 : Int32)) hx hb dX10_force_75 rfl ?_
        obtain ⟨r7, μ7, h1, h⟩ := ob2_some h
        refine x_callV C0 (rest := []) (q := (RX10, TX10, 22)) (c_X10_saysOf l g r5 x1 (μ5 1 0) (0 : Int32) μ5 h1) q5_40 q5_37 q5_39 r2_14 q1_11 hd_X10_saysOf ⟨rfl, rfl⟩ ⟨Nat.le_of_ble_eq_true rfl, Nat.le_of_ble_eq_true rfl⟩ cm_0 (by decide) rfl hP hS hl.1 rfl rfl (Nat.le_of_ble_eq_true rfl) dX10_force_76 (fun H locs hP hS => ?_)
        refine W.eq (g2 := F0 m 79 ls [.int r7]) rfl ?_
        refine lv_if_eq (tgt := 95) hx hb dX10_force_79 (by decide) (fun c8 => ?_) (fun c8 => ?_)
        · rw [if_pos c8] at h
          exact w_X10_force_95 C0  x1 μ7 _ _ _ hP hS (lv_sub hl [1, 2] rfl) h
        · rw [if_neg c8] at h
          refine lv_aload_n hx hb dX10_force_82 rfl (lv_at hl 1 rfl) ?_
          refine lv_iload_n hx hb dX10_force_83 rfl (lv_at hl 2 rfl) ?_
          refine lv_iconst (v := (4 : Int32)) hx hb dX10_force_84 rfl ?_
          obtain ⟨r13, μ13, h1, h⟩ := ob2_some h
          refine x_callV C0 (rest := []) (q := (RX10, TX10, 22)) (c_X10_of l g x1 (4 : Int32) μ7 h1) q4_235 q4_232 q4_234 r2_9 q1_11 hd_X10_of ⟨rfl, rfl⟩ ⟨Nat.le_of_ble_eq_true rfl, Nat.le_of_ble_eq_true rfl⟩ cm_0 (by decide) rfl hP hS hl.1 rfl rfl (Nat.le_of_ble_eq_true rfl) dX10_force_85 (fun H locs hP hS => ?_)
          refine W.eq (g2 := F0 m 88 ls [.int r13]) rfl ?_
          refine lv_if_le (tgt := 95) hx hb dX10_force_88 (by decide) (fun c14 => ?_) (fun c14 => ?_)
          · rw [if_pos c14] at h
            exact w_X10_force_95 C0  x1 μ13 _ _ _ hP hS (lv_sub hl [1, 2] rfl) h
          · rw [if_neg c14] at h
            refine lv_iconst (v := (1 : Int32)) hx hb dX10_force_91 rfl ?_
            refine lv_goto (tgt := 96) hx hb dX10_force_92 (by decide) ?_
            exact w_X10_force_96 C0  x1 (1 : Int32) μ13 _ _ _ hP hS (lv_sub hl [1, 2] rfl) h
      · rw [if_neg c6] at h
        refine lv_aload_n hx hb dX10_force_46 rfl (lv_at hl 1 rfl) ?_
        refine lv_iload_n hx hb dX10_force_47 rfl (lv_at hl 2 rfl) ?_
        refine lv_iconst (v := (4 : Int32)) hx hb dX10_force_48 rfl ?_
        obtain ⟨r15, μ15, h1, h⟩ := ob2_some h
        refine x_callV C0 (rest := []) (q := (RX10, TX10, 22)) (c_X10_of l g x1 (4 : Int32) μ5 h1) q4_235 q4_232 q4_234 r2_9 q1_11 hd_X10_of ⟨rfl, rfl⟩ ⟨Nat.le_of_ble_eq_true rfl, Nat.le_of_ble_eq_true rfl⟩ cm_0 (by decide) rfl hP hS hl.1 rfl rfl (Nat.le_of_ble_eq_true rfl) dX10_force_49 (fun H locs hP hS => ?_)
        refine W.eq (g2 := F0 m 52 ls [.int r15]) rfl ?_
        refine lv_sipush (v := (10000 : Int32)) hx hb dX10_force_52 (by decide +kernel) ?_
        refine lv_icmp_le (tgt := 62) hx hb dX10_force_55 (by decide) (fun c16 => ?_) (fun c16 => ?_)
        · rw [if_pos c16] at h
          refine lv_iconst (v := (0 : Int32)) hx hb dX10_force_62 rfl ?_
          refine lv_goto (tgt := 96) hx hb dX10_force_63 (by decide) ?_
          exact w_X10_force_96 C0  x1 (0 : Int32) μ15 _ _ _ hP hS (lv_sub hl [1, 2] rfl) h
        · rw [if_neg c16] at h
          refine lv_iconst (v := (1 : Int32)) hx hb dX10_force_58 rfl ?_
          refine lv_goto (tgt := 96) hx hb dX10_force_59 (by decide) ?_
          exact w_X10_force_96 C0  x1 (1 : Int32) μ15 _ _ _ hP hS (lv_sub hl [1, 2] rfl) h
    · rw [if_neg c4] at h
      refine lv_aload_n hx hb dX10_force_24 rfl (lv_at hl 0 rfl) ?_
      refine lv_iconst (v := (5 : Int32)) hx hb dX10_force_25 rfl ?_
      obtain ⟨r17, μ17, h1, h⟩ := ob2_some h
      refine x_callV C0 (rest := []) (q := (RX10, TX10, 22)) (c_X10_finding l g (5 : Int32) μ3 h1) q4_214 q4_211 q4_213 r2_5 q1_11 hd_X10_finding ⟨rfl, rfl⟩ ⟨Nat.le_of_ble_eq_true rfl, Nat.le_of_ble_eq_true rfl⟩ cm_0 (by decide) rfl hP hS hl.1 rfl rfl (Nat.le_of_ble_eq_true rfl) dX10_force_26 (fun H locs hP hS => ?_)
      refine W.eq (g2 := F0 m 29 ls [.int r17]) rfl ?_
      obtain ⟨rfl, rfl⟩ := some2 h
      exact x_iret C0 hP hS dX10_force_29
  · rw [if_pos c2] at h
    refine lv_aload_n hx hb dX10_force_8 rfl (lv_at hl 0 rfl) ?_
    refine lv_iconst (v := (1 : Int32)) hx hb dX10_force_9 rfl ?_
    obtain ⟨r18, μ18, h1, h⟩ := ob2_some h
    refine x_callV C0 (rest := []) (q := (RX10, TX10, 22)) (c_X10_finding l g (1 : Int32) μ1 h1) q4_214 q4_211 q4_213 r2_5 q1_11 hd_X10_finding ⟨rfl, rfl⟩ ⟨Nat.le_of_ble_eq_true rfl, Nat.le_of_ble_eq_true rfl⟩ cm_0 (by decide) rfl hP hS hl.1 rfl rfl (Nat.le_of_ble_eq_true rfl) dX10_force_10 (fun H locs hP hS => ?_)
    refine W.eq (g2 := F0 m 13 ls [.int r18]) rfl ?_
    obtain ⟨rfl, rfl⟩ := some2 h
    exact x_iret C0 hP hS dX10_force_13
def X10_connects (x1 : Int32) (μ : Mem) : Option Mem :=
  ob2 (X10_of x1 (3 : Int32) μ) fun r1 μ1 => ob2 (X10_limit x1 μ1) fun r2 μ2 => (if r1 < r2 then some μ2 else ob (X10_set x1 (6 : Int32) (1 : Int32) μ2) fun μ4 => some μ4)
set_option maxRecDepth 100000 in
set_option maxHeartbeats 4000000 in
theorem c_X10_connects (l : Launch) (g : Gx) (x1 : Int32) (μ : Mem) {ν : Mem} (h : X10_connects x1 μ = some ν) : Ct Lm g l yX10_connects cX10_connects 2 none { frames := 2, cells := 0, slots := 0, locals := 43 } [.ref (g.2.2.1 + 0), .int x1] μ none ν := by
  refine x_met (lv := [(0, .ref (g.2.2.1 + 0)), (1, .int x1)]) rfl (Nat.le_of_ble_eq_true rfl) rfl ?_
  intro p e s m below meth c C0 hP ls hl
  generalize ([.ref (g.2.2.1 + 0), .int x1] : List Value).toArray = args at C0 ⊢
  have C0 : Cx Lm g p s m args meth c cX10_connects 2 none RX10 := C0
  have hS : va_S (Ax Lm g) s.heap s.heap [] := va_S.rf
  obtain ⟨hx, hb, hr, hml, hown, hts, hlocks, hK⟩ := id C0
  unfold X10_connects at h
  skip
  refine lv_aload_n hx hb dX10_connects_0 rfl (lv_at hl 0 rfl) ?_
  refine lv_iload_n hx hb dX10_connects_1 rfl (lv_at hl 1 rfl) ?_
  refine lv_iconst (v := (3 : Int32)) hx hb dX10_connects_2 rfl ?_
  obtain ⟨r1, μ1, h1, h⟩ := ob2_some h
  refine x_callV C0 (rest := []) (q := (RX10, TX10, 22)) (c_X10_of l g x1 (3 : Int32) μ h1) q4_235 q4_232 q4_234 r2_9 q1_11 hd_X10_of ⟨rfl, rfl⟩ ⟨Nat.le_of_ble_eq_true rfl, Nat.le_of_ble_eq_true rfl⟩ cm_0 (by decide) rfl hP hS hl.1 rfl rfl (Nat.le_of_ble_eq_true rfl) dX10_connects_3 (fun H locs hP hS => ?_)
  refine W.eq (g2 := F0 m 6 ls [.int r1]) rfl ?_
  refine lv_aload_n hx hb dX10_connects_6 rfl (lv_at hl 0 rfl) ?_
  refine lv_iload_n hx hb dX10_connects_7 rfl (lv_at hl 1 rfl) ?_
  obtain ⟨r2, μ2, h1, h⟩ := ob2_some h
  refine x_callV C0 (rest := [.int r1]) (q := (RX10, TX10, 22)) (c_X10_limit l g x1 μ1 h1) q5_11 q5_8 q5_10 r2_12 q1_11 hd_X10_limit ⟨rfl, rfl⟩ ⟨Nat.le_of_ble_eq_true rfl, Nat.le_of_ble_eq_true rfl⟩ cm_0 (by decide) rfl hP hS hl.1 rfl rfl (Nat.le_of_ble_eq_true rfl) dX10_connects_8 (fun H locs hP hS => ?_)
  refine W.eq (g2 := F0 m 11 ls [.int r2, .int r1]) rfl ?_
  refine lv_icmp_lt (tgt := 22) hx hb dX10_connects_11 (by decide) (fun c3 => ?_) (fun c3 => ?_)
  · rw [if_pos c3] at h
    obtain rfl := some1 h
    exact x_vret C0 hP hS dX10_connects_22
  · rw [if_neg c3] at h
    refine lv_aload_n hx hb dX10_connects_14 rfl (lv_at hl 0 rfl) ?_
    refine lv_iload_n hx hb dX10_connects_15 rfl (lv_at hl 1 rfl) ?_
    refine lv_bipush (v := (6 : Int32)) hx hb dX10_connects_16 (by decide +kernel) ?_
    refine lv_iconst (v := (1 : Int32)) hx hb dX10_connects_18 rfl ?_
    obtain ⟨μ4, h1, h⟩ := ob_some h
    refine x_callV C0 (rest := []) (q := (RX10, TX10, 22)) (c_X10_set l g x1 (6 : Int32) (1 : Int32) μ2 h1) q4_219 q4_216 q4_218 r2_6 q1_11 hd_X10_set ⟨rfl, rfl⟩ ⟨Nat.le_of_ble_eq_true rfl, Nat.le_of_ble_eq_true rfl⟩ cm_0 (by decide) rfl hP hS hl.1 rfl rfl (Nat.le_of_ble_eq_true rfl) dX10_connects_19 (fun H locs hP hS => ?_)
    refine W.eq (g2 := F0 m 22 ls []) rfl ?_
    obtain rfl := some1 h
    exact x_vret C0 hP hS dX10_connects_22
def X10_press_52   (μ : Mem) : Option (Int32 × Mem) :=
  ob2 (X10_finding (3 : Int32) μ) fun r7 μ7 => some (r7, μ7)
set_option maxRecDepth 100000 in
set_option maxHeartbeats 4000000 in
theorem w_X10_press_52 {g : Gx} {p : Program} {l : Launch} {e : Env} {s : State} {m : MethodId} {args : Array Value} {below : List Frame} {meth : Method} {c : Code} (C0 : Cx Lm g p s m args meth c cX10_press 2 (some .int) RX10) {r : Int32} {ν : Mem}   (μ : Mem) (H : Heap) (locs : List Loc) (ls : Array Slot) (hP : Px Lm g μ H) (hS : va_S (Ax Lm g) s.heap H locs) (hl : lv_has ls 2 [(0, .ref (g.2.2.1 + 0))]) (h : X10_press_52   μ = some (r, ν)) : W p l e { frames := 3, cells := 0, slots := 0, locals := 64 } s m args below meth c H locs 0 0 (MQ below (Qx Lm g (some (.int r)) ν) args s 0 0 (Ax Lm g)) (F0 m 52 ls []) := by
  obtain ⟨hx, hb, hr, hml, hown, hts, hlocks, hK⟩ := id C0
  unfold X10_press_52 at h
  refine lv_aload_n hx hb dX10_press_52 rfl (lv_at hl 0 rfl) ?_
  refine lv_iconst (v := (3 : Int32)) hx hb dX10_press_53 rfl ?_
  obtain ⟨r7, μ7, h1, h⟩ := ob2_some h
  refine x_callV C0 (rest := []) (q := (RX10, TX10, 22)) (c_X10_finding l g (3 : Int32) μ h1) q4_214 q4_211 q4_213 r2_5 q1_11 hd_X10_finding ⟨rfl, rfl⟩ ⟨Nat.le_of_ble_eq_true rfl, Nat.le_of_ble_eq_true rfl⟩ cm_0 (by decide) rfl hP hS hl.1 rfl rfl (Nat.le_of_ble_eq_true rfl) dX10_press_54 (fun H locs hP hS => ?_)
  refine W.eq (g2 := F0 m 57 ls [.int r7]) rfl ?_
  obtain ⟨rfl, rfl⟩ := some2 h
  exact x_iret C0 hP hS dX10_press_57
def X10_press (x1 : Int32) (μ : Mem) : Option (Int32 × Mem) :=
  ob2 (X10_isMeter x1 μ) fun r1 μ1 => (if r1 = (0 : Int32) then ob2 (X10_finding (1 : Int32) μ1) fun r14 μ14 => some (r14, μ14) else ob2 (X10_of x1 (0 : Int32) μ1) fun r3 μ3 => (if r3 = (3 : Int32) then ob2 (X10_finding (5 : Int32) μ3) fun r13 μ13 => some (r13, μ13) else ob2 (X10_of x1 (7 : Int32) μ3) fun r5 μ5 => (if r5 = (1 : Int32) then X10_press_52 μ5 else ob2 (X10_of x1 (3 : Int32) μ5) fun r8 μ8 => (if r8 ≤ (100 : Int32) then ob (X10_set x1 (7 : Int32) (1 : Int32) μ8) fun μ10 => ob (X10_connects x1 μ10) fun μ11 => ob2 (X10_limit x1 μ11) fun r12 μ12 => some (r12, μ12) else X10_press_52 μ8))))
set_option maxRecDepth 100000 in
set_option maxHeartbeats 4000000 in
theorem c_X10_press (l : Launch) (g : Gx) (x1 : Int32) (μ : Mem) {r : Int32} {ν : Mem} (h : X10_press x1 μ = some (r, ν)) : Ct Lm g l yX10_press cX10_press 2 (some .int) { frames := 3, cells := 0, slots := 0, locals := 64 } [.ref (g.2.2.1 + 0), .int x1] μ (some (.int r)) ν := by
  refine x_met (lv := [(0, .ref (g.2.2.1 + 0)), (1, .int x1)]) rfl (Nat.le_of_ble_eq_true rfl) rfl ?_
  intro p e s m below meth c C0 hP ls hl
  generalize ([.ref (g.2.2.1 + 0), .int x1] : List Value).toArray = args at C0 ⊢
  have C0 : Cx Lm g p s m args meth c cX10_press 2 (some .int) RX10 := C0
  have hS : va_S (Ax Lm g) s.heap s.heap [] := va_S.rf
  obtain ⟨hx, hb, hr, hml, hown, hts, hlocks, hK⟩ := id C0
  unfold X10_press at h
  skip
  refine lv_aload_n hx hb dX10_press_0 rfl (lv_at hl 0 rfl) ?_
  refine lv_iload_n hx hb dX10_press_1 rfl (lv_at hl 1 rfl) ?_
  obtain ⟨r1, μ1, h1, h⟩ := ob2_some h
  refine x_callV C0 (rest := []) (q := (RX10, TX10, 22)) (c_X10_isMeter l g x1 μ h1) q4_231 q4_228 q4_230 r2_8 q1_11 hd_X10_isMeter ⟨rfl, rfl⟩ ⟨Nat.le_of_ble_eq_true rfl, Nat.le_of_ble_eq_true rfl⟩ cm_0 (by decide) rfl hP hS hl.1 rfl rfl (Nat.le_of_ble_eq_true rfl) dX10_press_2 (fun H locs hP hS => ?_)
  refine W.eq (g2 := F0 m 5 ls [.int r1]) rfl ?_
  refine lv_if_ne (tgt := 14) hx hb dX10_press_5 (by decide) (fun c2 => ?_) (fun c2 => ?_)
  · rw [if_neg c2] at h
    refine lv_aload_n hx hb dX10_press_14 rfl (lv_at hl 0 rfl) ?_
    refine lv_iload_n hx hb dX10_press_15 rfl (lv_at hl 1 rfl) ?_
    refine lv_iconst (v := (0 : Int32)) hx hb dX10_press_16 rfl ?_
    obtain ⟨r3, μ3, h1, h⟩ := ob2_some h
    refine x_callV C0 (rest := []) (q := (RX10, TX10, 22)) (c_X10_of l g x1 (0 : Int32) μ1 h1) q4_235 q4_232 q4_234 r2_9 q1_11 hd_X10_of ⟨rfl, rfl⟩ ⟨Nat.le_of_ble_eq_true rfl, Nat.le_of_ble_eq_true rfl⟩ cm_0 (by decide) rfl hP hS hl.1 rfl rfl (Nat.le_of_ble_eq_true rfl) dX10_press_17 (fun H locs hP hS => ?_)
    refine W.eq (g2 := F0 m 20 ls [.int r3]) rfl ?_
    refine lv_iconst (v := (3 : Int32)) hx hb dX10_press_20 rfl ?_
    refine lv_icmp_ne (tgt := 30) hx hb dX10_press_21 (by decide) (fun c4 => ?_) (fun c4 => ?_)
    · rw [if_neg c4] at h
      refine lv_aload_n hx hb dX10_press_30 rfl (lv_at hl 0 rfl) ?_
      refine lv_iload_n hx hb dX10_press_31 rfl (lv_at hl 1 rfl) ?_
      refine lv_bipush (v := (7 : Int32)) hx hb dX10_press_32 (by decide +kernel) ?_
      obtain ⟨r5, μ5, h1, h⟩ := ob2_some h
      refine x_callV C0 (rest := []) (q := (RX10, TX10, 22)) (c_X10_of l g x1 (7 : Int32) μ3 h1) q4_235 q4_232 q4_234 r2_9 q1_11 hd_X10_of ⟨rfl, rfl⟩ ⟨Nat.le_of_ble_eq_true rfl, Nat.le_of_ble_eq_true rfl⟩ cm_0 (by decide) rfl hP hS hl.1 rfl rfl (Nat.le_of_ble_eq_true rfl) dX10_press_34 (fun H locs hP hS => ?_)
      refine W.eq (g2 := F0 m 37 ls [.int r5]) rfl ?_
      refine lv_iconst (v := (1 : Int32)) hx hb dX10_press_37 rfl ?_
      refine lv_icmp_eq (tgt := 52) hx hb dX10_press_38 (by decide) (fun c6 => ?_) (fun c6 => ?_)
      · rw [if_pos c6] at h
        exact w_X10_press_52 C0   μ5 _ _ _ hP hS (lv_sub hl [0] rfl) h
      · rw [if_neg c6] at h
        refine lv_aload_n hx hb dX10_press_41 rfl (lv_at hl 0 rfl) ?_
        refine lv_iload_n hx hb dX10_press_42 rfl (lv_at hl 1 rfl) ?_
        refine lv_iconst (v := (3 : Int32)) hx hb dX10_press_43 rfl ?_
        obtain ⟨r8, μ8, h1, h⟩ := ob2_some h
        refine x_callV C0 (rest := []) (q := (RX10, TX10, 22)) (c_X10_of l g x1 (3 : Int32) μ5 h1) q4_235 q4_232 q4_234 r2_9 q1_11 hd_X10_of ⟨rfl, rfl⟩ ⟨Nat.le_of_ble_eq_true rfl, Nat.le_of_ble_eq_true rfl⟩ cm_0 (by decide) rfl hP hS hl.1 rfl rfl (Nat.le_of_ble_eq_true rfl) dX10_press_44 (fun H locs hP hS => ?_)
        refine W.eq (g2 := F0 m 47 ls [.int r8]) rfl ?_
        refine lv_bipush (v := (100 : Int32)) hx hb dX10_press_47 (by decide +kernel) ?_
        refine lv_icmp_le (tgt := 58) hx hb dX10_press_49 (by decide) (fun c9 => ?_) (fun c9 => ?_)
        · rw [if_pos c9] at h
          refine lv_aload_n hx hb dX10_press_58 rfl (lv_at hl 0 rfl) ?_
          refine lv_iload_n hx hb dX10_press_59 rfl (lv_at hl 1 rfl) ?_
          refine lv_bipush (v := (7 : Int32)) hx hb dX10_press_60 (by decide +kernel) ?_
          refine lv_iconst (v := (1 : Int32)) hx hb dX10_press_62 rfl ?_
          obtain ⟨μ10, h1, h⟩ := ob_some h
          refine x_callV C0 (rest := []) (q := (RX10, TX10, 22)) (c_X10_set l g x1 (7 : Int32) (1 : Int32) μ8 h1) q4_219 q4_216 q4_218 r2_6 q1_11 hd_X10_set ⟨rfl, rfl⟩ ⟨Nat.le_of_ble_eq_true rfl, Nat.le_of_ble_eq_true rfl⟩ cm_0 (by decide) rfl hP hS hl.1 rfl rfl (Nat.le_of_ble_eq_true rfl) dX10_press_63 (fun H locs hP hS => ?_)
          refine W.eq (g2 := F0 m 66 ls []) rfl ?_
          refine lv_aload_n hx hb dX10_press_66 rfl (lv_at hl 0 rfl) ?_
          refine lv_iload_n hx hb dX10_press_67 rfl (lv_at hl 1 rfl) ?_
          obtain ⟨μ11, h1, h⟩ := ob_some h
          refine x_callV C0 (rest := []) (q := (RX10, TX10, 22)) (c_X10_connects l g x1 μ10 h1) q5_84 q5_81 q5_83 r3_8 q1_11 hd_X10_connects ⟨rfl, rfl⟩ ⟨Nat.le_of_ble_eq_true rfl, Nat.le_of_ble_eq_true rfl⟩ cm_0 (by decide) rfl hP hS hl.1 rfl rfl (Nat.le_of_ble_eq_true rfl) dX10_press_68 (fun H locs hP hS => ?_)
          refine W.eq (g2 := F0 m 71 ls []) rfl ?_
          refine lv_aload_n hx hb dX10_press_71 rfl (lv_at hl 0 rfl) ?_
          refine lv_iload_n hx hb dX10_press_72 rfl (lv_at hl 1 rfl) ?_
          obtain ⟨r12, μ12, h1, h⟩ := ob2_some h
          refine x_callV C0 (rest := []) (q := (RX10, TX10, 22)) (c_X10_limit l g x1 μ11 h1) q5_11 q5_8 q5_10 r2_12 q1_11 hd_X10_limit ⟨rfl, rfl⟩ ⟨Nat.le_of_ble_eq_true rfl, Nat.le_of_ble_eq_true rfl⟩ cm_0 (by decide) rfl hP hS hl.1 rfl rfl (Nat.le_of_ble_eq_true rfl) dX10_press_73 (fun H locs hP hS => ?_)
          refine W.eq (g2 := F0 m 76 ls [.int r12]) rfl ?_
          obtain ⟨rfl, rfl⟩ := some2 h
          exact x_iret C0 hP hS dX10_press_76
        · rw [if_neg c9] at h
          exact w_X10_press_52 C0   μ8 _ _ _ hP hS (lv_sub hl [0] rfl) h
    · rw [if_pos c4] at h
      refine lv_aload_n hx hb dX10_press_24 rfl (lv_at hl 0 rfl) ?_
      refine lv_iconst (v := (5 : Int32)) hx hb dX10_press_25 rfl ?_
      obtain ⟨r13, μ13, h1, h⟩ := ob2_some h
      refine x_callV C0 (rest := []) (q := (RX10, TX10, 22)) (c_X10_finding l g (5 : Int32) μ3 h1) q4_214 q4_211 q4_213 r2_5 q1_11 hd_X10_finding ⟨rfl, rfl⟩ ⟨Nat.le_of_ble_eq_true rfl, Nat.le_of_ble_eq_true rfl⟩ cm_0 (by decide) rfl hP hS hl.1 rfl rfl (Nat.le_of_ble_eq_true rfl) dX10_press_26 (fun H locs hP hS => ?_)
      refine W.eq (g2 := F0 m 29 ls [.int r13]) rfl ?_
      obtain ⟨rfl, rfl⟩ := some2 h
      exact x_iret C0 hP hS dX10_press_29
  · rw [if_pos c2] at h
    refine lv_aload_n hx hb dX10_press_8 rfl (lv_at hl 0 rfl) ?_
    refine lv_iconst (v := (1 : Int32)) hx hb dX10_press_9 rfl ?_
    obtain ⟨r14, μ14, h1, h⟩ := ob2_some h
    refine x_callV C0 (rest := []) (q := (RX10, TX10, 22)) (c_X10_finding l g (1 : Int32) μ1 h1) q4_214 q4_211 q4_213 r2_5 q1_11 hd_X10_finding ⟨rfl, rfl⟩ ⟨Nat.le_of_ble_eq_true rfl, Nat.le_of_ble_eq_true rfl⟩ cm_0 (by decide) rfl hP hS hl.1 rfl rfl (Nat.le_of_ble_eq_true rfl) dX10_press_10 (fun H locs hP hS => ?_)
    refine W.eq (g2 := F0 m 13 ls [.int r14]) rfl ?_
    obtain ⟨rfl, rfl⟩ := some2 h
    exact x_iret C0 hP hS dX10_press_13
def X10_shop_36   (μ : Mem) : Option (Int32 × Mem) :=
  ob2 (X10_finding (1 : Int32) μ) fun r3 μ3 => some (r3, μ3)
set_option maxRecDepth 100000 in
set_option maxHeartbeats 4000000 in
theorem w_X10_shop_36 {g : Gx} {p : Program} {l : Launch} {e : Env} {s : State} {m : MethodId} {args : Array Value} {below : List Frame} {meth : Method} {c : Code} (C0 : Cx Lm g p s m args meth c cX10_shop 4 (some .int) RX10) {r : Int32} {ν : Mem}   (μ : Mem) (H : Heap) (locs : List Loc) (ls : Array Slot) (hP : Px Lm g μ H) (hS : va_S (Ax Lm g) s.heap H locs) (hl : lv_has ls 4 [(0, .ref (g.2.2.1 + 0))]) (h : X10_shop_36   μ = some (r, ν)) : W p l e { frames := 1, cells := 0, slots := 0, locals := 22 } s m args below meth c H locs 0 0 (MQ below (Qx Lm g (some (.int r)) ν) args s 0 0 (Ax Lm g)) (F0 m 36 ls []) := by
  obtain ⟨hx, hb, hr, hml, hown, hts, hlocks, hK⟩ := id C0
  unfold X10_shop_36 at h
  refine lv_aload_n hx hb dX10_shop_36 rfl (lv_at hl 0 rfl) ?_
  refine lv_iconst (v := (1 : Int32)) hx hb dX10_shop_37 rfl ?_
  obtain ⟨r3, μ3, h1, h⟩ := ob2_some h
  refine x_callV C0 (rest := []) (q := (RX10, TX10, 22)) (c_X10_finding l g (1 : Int32) μ h1) q4_214 q4_211 q4_213 r2_5 q1_11 hd_X10_finding ⟨rfl, rfl⟩ ⟨Nat.le_of_ble_eq_true rfl, Nat.le_of_ble_eq_true rfl⟩ cm_0 (by decide) rfl hP hS hl.1 rfl rfl (Nat.le_of_ble_eq_true rfl) dX10_shop_38 (fun H locs hP hS => ?_)
  refine W.eq (g2 := F0 m 41 ls [.int r3]) rfl ?_
  obtain ⟨rfl, rfl⟩ := some2 h
  exact x_iret C0 hP hS dX10_shop_41
def X10_shop (x1 : Int32) (x2 : Int32) (μ : Mem) : Option (Int32 × Mem) :=
  ob2 (X10_isPlace x1 μ) fun r1 μ1 => (if r1 = (0 : Int32) then X10_shop_36 μ1 else ob2 (X10_in x2 (0 : Int32) (2399 : Int32) μ1) fun r4 μ4 => (if r4 = (0 : Int32) then X10_shop_36 μ4 else ob2 (X10_in (x2 - x2 / (100 : Int32) * (100 : Int32)) ((x2 / (100 : Int32)) + (1 : Int32)) (24 : Int32) μ4) fun r6 μ6 => (if r6 = (0 : Int32) then X10_shop_36 μ6 else (if (μ6 1 2) = (8 : Int32) then ob2 (X10_finding (4 : Int32) μ6) fun r18 μ18 => some (r18, μ18) else gd (inB ((336 : Int32) + ((4 : Int32) * (μ6 1 2))) 1944) (lt (st μ6 1 ((336 : Int32) + ((4 : Int32) * (μ6 1 2))).toNatClampNeg (x1 / (100 : Int32))) fun μ10 => gd (inB (((336 : Int32) + ((4 : Int32) * (μ6 1 2))) + (1 : Int32)) 1944) (lt (st μ10 1 (((336 : Int32) + ((4 : Int32) * (μ6 1 2))) + (1 : Int32)).toNatClampNeg (x1 - x1 / (100 : Int32) * (100 : Int32))) fun μ12 => gd (inB (((336 : Int32) + ((4 : Int32) * (μ6 1 2))) + (2 : Int32)) 1944) (lt (st μ12 1 (((336 : Int32) + ((4 : Int32) * (μ6 1 2))) + (2 : Int32)).toNatClampNeg (x2 / (100 : Int32))) fun μ14 => gd (inB (((336 : Int32) + ((4 : Int32) * (μ6 1 2))) + (3 : Int32)) 1944) (lt (st μ14 1 (((336 : Int32) + ((4 : Int32) * (μ6 1 2))) + (3 : Int32)).toNatClampNeg (x2 - x2 / (100 : Int32) * (100 : Int32))) fun μ16 => lt (st μ16 1 2 ((μ16 1 2) + (1 : Int32))) fun μ17 => some (((μ17 1 2) - (1 : Int32)), μ17)))))))))
set_option maxRecDepth 100000 in
set_option maxHeartbeats 4000000 in
theorem c_X10_shop (l : Launch) (g : Gx) (x1 : Int32) (x2 : Int32) (μ : Mem) {r : Int32} {ν : Mem} (h : X10_shop x1 x2 μ = some (r, ν)) : Ct Lm g l yX10_shop cX10_shop 4 (some .int) { frames := 1, cells := 0, slots := 0, locals := 22 } [.ref (g.2.2.1 + 0), .int x1, .int x2] μ (some (.int r)) ν := by
  refine x_met (lv := [(0, .ref (g.2.2.1 + 0)), (1, .int x1), (2, .int x2)]) rfl (Nat.le_of_ble_eq_true rfl) rfl ?_
  intro p e s m below meth c C0 hP ls hl
  generalize ([.ref (g.2.2.1 + 0), .int x1, .int x2] : List Value).toArray = args at C0 ⊢
  have C0 : Cx Lm g p s m args meth c cX10_shop 4 (some .int) RX10 := C0
  have hS : va_S (Ax Lm g) s.heap s.heap [] := va_S.rf
  obtain ⟨hx, hb, hr, hml, hown, hts, hlocks, hK⟩ := id C0
  unfold X10_shop at h
  skip
  refine lv_iload_n hx hb dX10_shop_0 rfl (lv_at hl 1 rfl) ?_
  obtain ⟨r1, μ1, h1, h⟩ := ob2_some h
  refine x_callS C0 (rest := []) (c_X10_isPlace l g x1 μ h1) q4_210 q4_208 q4_209 q1_11 hd_X10_isPlace ⟨rfl, rfl⟩ ⟨Nat.le_of_ble_eq_true rfl, Nat.le_of_ble_eq_true rfl⟩ hP hS hl.1 rfl rfl (Nat.le_of_ble_eq_true rfl) dX10_shop_1 (fun H locs hP hS => ?_)
  refine W.eq (g2 := F0 m 4 ls [.int r1]) rfl ?_
  refine lv_if_eq (tgt := 36) hx hb dX10_shop_4 (by decide) (fun c2 => ?_) (fun c2 => ?_)
  · rw [if_pos c2] at h
    exact w_X10_shop_36 C0   μ1 _ _ _ hP hS (lv_sub hl [0] rfl) h
  · rw [if_neg c2] at h
    refine lv_iload_n hx hb dX10_shop_7 rfl (lv_at hl 2 rfl) ?_
    refine lv_iconst (v := (0 : Int32)) hx hb dX10_shop_8 rfl ?_
    refine lv_sipush (v := (2399 : Int32)) hx hb dX10_shop_9 (by decide +kernel) ?_
    obtain ⟨r4, μ4, h1, h⟩ := ob2_some h
    refine x_callS C0 (rest := []) (c_X10_in l g x2 (0 : Int32) (2399 : Int32) μ1 h1) q4_207 q4_205 q4_206 q1_11 hd_X10_in ⟨rfl, rfl⟩ ⟨Nat.le_of_ble_eq_true rfl, Nat.le_of_ble_eq_true rfl⟩ hP hS hl.1 rfl rfl (Nat.le_of_ble_eq_true rfl) dX10_shop_12 (fun H locs hP hS => ?_)
    refine W.eq (g2 := F0 m 15 ls [.int r4]) rfl ?_
    refine lv_if_eq (tgt := 36) hx hb dX10_shop_15 (by decide) (fun c5 => ?_) (fun c5 => ?_)
    · rw [if_pos c5] at h
      exact w_X10_shop_36 C0   μ4 _ _ _ hP hS (lv_sub hl [0] rfl) h
    · rw [if_neg c5] at h
      refine lv_iload_n hx hb dX10_shop_18 rfl (lv_at hl 2 rfl) ?_
      refine lv_bipush (v := (100 : Int32)) hx hb dX10_shop_19 (by decide +kernel) ?_
      refine lv_irem hx hb dX10_shop_21 (by decide) ?_
      refine lv_iload_n hx hb dX10_shop_22 rfl (lv_at hl 2 rfl) ?_
      refine lv_bipush (v := (100 : Int32)) hx hb dX10_shop_23 (by decide +kernel) ?_
      refine lv_idiv hx hb dX10_shop_25 (by decide) ?_
      refine lv_iconst (v := (1 : Int32)) hx hb dX10_shop_26 rfl ?_
      refine lv_iadd hx hb dX10_shop_27 ?_
      refine lv_bipush (v := (24 : Int32)) hx hb dX10_shop_28 (by decide +kernel) ?_
      obtain ⟨r6, μ6, h1, h⟩ := ob2_some h
      refine x_callS C0 (rest := []) (c_X10_in l g (x2 - x2 / (100 : Int32) * (100 : Int32)) ((x2 / (100 : Int32)) + (1 : Int32)) (24 : Int32) μ4 h1) q4_207 q4_205 q4_206 q1_11 hd_X10_in ⟨rfl, rfl⟩ ⟨Nat.le_of_ble_eq_true rfl, Nat.le_of_ble_eq_true rfl⟩ hP hS hl.1 rfl rfl (Nat.le_of_ble_eq_true rfl) dX10_shop_30 (fun H locs hP hS => ?_)
      refine W.eq (g2 := F0 m 33 ls [.int r6]) rfl ?_
      refine lv_if_ne (tgt := 42) hx hb dX10_shop_33 (by decide) (fun c7 => ?_) (fun c7 => ?_)
      · rw [if_neg c7] at h
        refine lv_aload_n hx hb dX10_shop_42 rfl (lv_at hl 0 rfl) ?_
        refine x_get C0 hP inu10 (k := 0) cm_0 (by decide) rfl 0 (by decide) q4_134 rfl (v := .ref (g.2.2.1 + 1)) rfl dX10_shop_43 ?_
        refine lv_iconst (v := (2 : Int32)) hx hb dX10_shop_46 rfl ?_
        refine x_iald C0 hP (k := 1) cm_1 (j := 2) (by decide) rfl dX10_shop_47 ?_
        refine lv_bipush (v := (8 : Int32)) hx hb dX10_shop_48 (by decide +kernel) ?_
        refine lv_icmp_ne (tgt := 59) hx hb dX10_shop_50 (by decide) (fun c8 => ?_) (fun c8 => ?_)
        · rw [if_neg c8] at h
          refine lv_sipush (v := (336 : Int32)) hx hb dX10_shop_59 (by decide +kernel) ?_
          refine lv_iconst (v := (4 : Int32)) hx hb dX10_shop_62 rfl ?_
          refine lv_aload_n hx hb dX10_shop_63 rfl (lv_at hl 0 rfl) ?_
          refine x_get C0 hP inu10 (k := 0) cm_0 (by decide) rfl 0 (by decide) q4_134 rfl (v := .ref (g.2.2.1 + 1)) rfl dX10_shop_64 ?_
          refine lv_iconst (v := (2 : Int32)) hx hb dX10_shop_67 rfl ?_
          refine x_iald C0 hP (k := 1) cm_1 (j := 2) (by decide) rfl dX10_shop_68 ?_
          refine lv_imul hx hb dX10_shop_69 ?_
          refine lv_iadd hx hb dX10_shop_70 ?_
          refine lv_istore_n (lv' := [(3, .int ((336 : Int32) + ((4 : Int32) * (μ6 1 2)))), (0, .ref (g.2.2.1 + 0)), (1, .int x1), (2, .int x2)]) hx hb dX10_shop_71 rfl hl (by decide) rfl (fun ls hl => ?_)
          refine lv_aload_n hx hb dX10_shop_72 rfl (lv_at hl 1 rfl) ?_
          refine x_get C0 hP inu10 (k := 0) cm_0 (by decide) rfl 0 (by decide) q4_134 rfl (v := .ref (g.2.2.1 + 1)) rfl dX10_shop_73 ?_
          refine lv_iload_n hx hb dX10_shop_76 rfl (lv_at hl 0 rfl) ?_
          refine lv_iload_n hx hb dX10_shop_77 rfl (lv_at hl 2 rfl) ?_
          refine lv_bipush (v := (100 : Int32)) hx hb dX10_shop_78 (by decide +kernel) ?_
          refine lv_idiv hx hb dX10_shop_80 (by decide) ?_
          obtain ⟨z9, h⟩ := gd_some h
          obtain ⟨μ10, e10, h⟩ := lt_some h
          refine x_iast C0 hP hS (k := 1) cm_1 (j := ((336 : Int32) + ((4 : Int32) * (μ6 1 2))).toNatClampNeg) z9 rfl dX10_shop_81 (fun H locs hP hS => ?_)
          rw [← e10] at hP
          refine lv_aload_n hx hb dX10_shop_82 rfl (lv_at hl 1 rfl) ?_
          refine x_get C0 hP inu10 (k := 0) cm_0 (by decide) rfl 0 (by decide) q4_134 rfl (v := .ref (g.2.2.1 + 1)) rfl dX10_shop_83 ?_
          refine lv_iload_n hx hb dX10_shop_86 rfl (lv_at hl 0 rfl) ?_
          refine lv_iconst (v := (1 : Int32)) hx hb dX10_shop_87 rfl ?_
          refine lv_iadd hx hb dX10_shop_88 ?_
          refine lv_iload_n hx hb dX10_shop_89 rfl (lv_at hl 2 rfl) ?_
          refine lv_bipush (v := (100 : Int32)) hx hb dX10_shop_90 (by decide +kernel) ?_
          refine lv_irem hx hb dX10_shop_92 (by decide) ?_
          obtain ⟨z11, h⟩ := gd_some h
          obtain ⟨μ12, e12, h⟩ := lt_some h
          refine x_iast C0 hP hS (k := 1) cm_1 (j := (((336 : Int32) + ((4 : Int32) * (μ6 1 2))) + (1 : Int32)).toNatClampNeg) z11 rfl dX10_shop_93 (fun H locs hP hS => ?_)
          rw [← e12] at hP
          refine lv_aload_n hx hb dX10_shop_94 rfl (lv_at hl 1 rfl) ?_
          refine x_get C0 hP inu10 (k := 0) cm_0 (by decide) rfl 0 (by decide) q4_134 rfl (v := .ref (g.2.2.1 + 1)) rfl dX10_shop_95 ?_
          refine lv_iload_n hx hb dX10_shop_98 rfl (lv_at hl 0 rfl) ?_
          refine lv_iconst (v := (2 : Int32)) hx hb dX10_shop_99 rfl ?_
          refine lv_iadd hx hb dX10_shop_100 ?_
          refine lv_iload_n hx hb dX10_shop_101 rfl (lv_at hl 3 rfl) ?_
          refine lv_bipush (v := (100 : Int32)) hx hb dX10_shop_102 (by decide +kernel) ?_
          refine lv_idiv hx hb dX10_shop_104 (by decide) ?_
          obtain ⟨z13, h⟩ := gd_some h
          obtain ⟨μ14, e14, h⟩ := lt_some h
          refine x_iast C0 hP hS (k := 1) cm_1 (j := (((336 : Int32) + ((4 : Int32) * (μ6 1 2))) + (2 : Int32)).toNatClampNeg) z13 rfl dX10_shop_105 (fun H locs hP hS => ?_)
          rw [← e14] at hP
          refine lv_aload_n hx hb dX10_shop_106 rfl (lv_at hl 1 rfl) ?_
          refine x_get C0 hP inu10 (k := 0) cm_0 (by decide) rfl 0 (by decide) q4_134 rfl (v := .ref (g.2.2.1 + 1)) rfl dX10_shop_107 ?_
          refine lv_iload_n hx hb dX10_shop_110 rfl (lv_at hl 0 rfl) ?_
          refine lv_iconst (v := (3 : Int32)) hx hb dX10_shop_111 rfl ?_
          refine lv_iadd hx hb dX10_shop_112 ?_
          refine lv_iload_n hx hb dX10_shop_113 rfl (lv_at hl 3 rfl) ?_
          refine lv_bipush (v := (100 : Int32)) hx hb dX10_shop_114 (by decide +kernel) ?_
          refine lv_irem hx hb dX10_shop_116 (by decide) ?_
          obtain ⟨z15, h⟩ := gd_some h
          obtain ⟨μ16, e16, h⟩ := lt_some h
          refine x_iast C0 hP hS (k := 1) cm_1 (j := (((336 : Int32) + ((4 : Int32) * (μ6 1 2))) + (3 : Int32)).toNatClampNeg) z15 rfl dX10_shop_117 (fun H locs hP hS => ?_)
          rw [← e16] at hP
          refine lv_aload_n hx hb dX10_shop_118 rfl (lv_at hl 1 rfl) ?_
          refine x_get C0 hP inu10 (k := 0) cm_0 (by decide) rfl 0 (by decide) q4_134 rfl (v := .ref (g.2.2.1 + 1)) rfl dX10_shop_119 ?_
          refine lv_iconst (v := (2 : Int32)) hx hb dX10_shop_122 rfl ?_
          refine lv_dup2_11 hx hb dX10_shop_123 rfl rfl ?_
          refine x_iald C0 hP (k := 1) cm_1 (j := 2) (by decide) rfl dX10_shop_124 ?_
          refine lv_iconst (v := (1 : Int32)) hx hb dX10_shop_125 rfl ?_
          refine lv_iadd hx hb dX10_shop_126 ?_
          obtain ⟨μ17, e17, h⟩ := lt_some h
          refine x_iast C0 hP hS (k := 1) cm_1 (j := 2) (by decide) rfl dX10_shop_127 (fun H locs hP hS => ?_)
          rw [← e17] at hP
          refine lv_aload_n hx hb dX10_shop_128 rfl (lv_at hl 1 rfl) ?_
          refine x_get C0 hP inu10 (k := 0) cm_0 (by decide) rfl 0 (by decide) q4_134 rfl (v := .ref (g.2.2.1 + 1)) rfl dX10_shop_129 ?_
          refine lv_iconst (v := (2 : Int32)) hx hb dX10_shop_132 rfl ?_
          refine x_iald C0 hP (k := 1) cm_1 (j := 2) (by decide) rfl dX10_shop_133 ?_
          refine lv_iconst (v := (1 : Int32)) hx hb dX10_shop_134 rfl ?_
          refine lv_isub hx hb dX10_shop_135 ?_
          obtain ⟨rfl, rfl⟩ := some2 h
          exact x_iret C0 hP hS dX10_shop_136
        · rw [if_pos c8] at h
          refine lv_aload_n hx hb dX10_shop_53 rfl (lv_at hl 0 rfl) ?_
          refine lv_iconst (v := (4 : Int32)) hx hb dX10_shop_54 rfl ?_
          obtain ⟨r18, μ18, h1, h⟩ := ob2_some h
          refine x_callV C0 (rest := []) (q := (RX10, TX10, 22)) (c_X10_finding l g (4 : Int32) μ6 h1) q4_214 q4_211 q4_213 r2_5 q1_11 hd_X10_finding ⟨rfl, rfl⟩ ⟨Nat.le_of_ble_eq_true rfl, Nat.le_of_ble_eq_true rfl⟩ cm_0 (by decide) rfl hP hS hl.1 rfl rfl (Nat.le_of_ble_eq_true rfl) dX10_shop_55 (fun H locs hP hS => ?_)
          refine W.eq (g2 := F0 m 58 ls [.int r18]) rfl ?_
          obtain ⟨rfl, rfl⟩ := some2 h
          exact x_iret C0 hP hS dX10_shop_58
      · rw [if_pos c7] at h
        exact w_X10_shop_36 C0   μ6 _ _ _ hP hS (lv_sub hl [0] rfl) h
def X10_isOpen (x1 : Int32) (x2 : Int32) (μ : Mem) : Option (Int32 × Mem) :=
  gd (inB (((336 : Int32) + ((4 : Int32) * x1)) + (2 : Int32)) 1944) ((if x2 < (μ 1 (((336 : Int32) + ((4 : Int32) * x1)) + (2 : Int32)).toNatClampNeg) then some ((0 : Int32), μ) else gd (inB (((336 : Int32) + ((4 : Int32) * x1)) + (3 : Int32)) 1944) ((if (μ 1 (((336 : Int32) + ((4 : Int32) * x1)) + (3 : Int32)).toNatClampNeg) ≤ x2 then some ((0 : Int32), μ) else some ((1 : Int32), μ)))))
set_option maxRecDepth 100000 in
set_option maxHeartbeats 4000000 in
theorem c_X10_isOpen (l : Launch) (g : Gx) (x1 : Int32) (x2 : Int32) (μ : Mem) {r : Int32} {ν : Mem} (h : X10_isOpen x1 x2 μ = some (r, ν)) : Ct Lm g l yX10_isOpen cX10_isOpen 3 (some .boolean) { frames := 0, cells := 0, slots := 0, locals := 0 } [.ref (g.2.2.1 + 0), .int x1, .int x2] μ (some (.int r)) ν := by
  refine x_met (lv := [(0, .ref (g.2.2.1 + 0)), (1, .int x1), (2, .int x2)]) rfl (Nat.le_of_ble_eq_true rfl) rfl ?_
  intro p e s m below meth c C0 hP ls hl
  generalize ([.ref (g.2.2.1 + 0), .int x1, .int x2] : List Value).toArray = args at C0 ⊢
  have C0 : Cx Lm g p s m args meth c cX10_isOpen 3 (some .boolean) RX10 := C0
  have hS : va_S (Ax Lm g) s.heap s.heap [] := va_S.rf
  obtain ⟨hx, hb, hr, hml, hown, hts, hlocks, hK⟩ := id C0
  unfold X10_isOpen at h
  skip
  refine lv_iload_n hx hb dX10_isOpen_0 rfl (lv_at hl 2 rfl) ?_
  refine lv_aload_n hx hb dX10_isOpen_1 rfl (lv_at hl 0 rfl) ?_
  refine x_get C0 hP inu10 (k := 0) cm_0 (by decide) rfl 0 (by decide) q4_134 rfl (v := .ref (g.2.2.1 + 1)) rfl dX10_isOpen_2 ?_
  refine lv_sipush (v := (336 : Int32)) hx hb dX10_isOpen_5 (by decide +kernel) ?_
  refine lv_iconst (v := (4 : Int32)) hx hb dX10_isOpen_8 rfl ?_
  refine lv_iload_n hx hb dX10_isOpen_9 rfl (lv_at hl 1 rfl) ?_
  refine lv_imul hx hb dX10_isOpen_10 ?_
  refine lv_iadd hx hb dX10_isOpen_11 ?_
  refine lv_iconst (v := (2 : Int32)) hx hb dX10_isOpen_12 rfl ?_
  refine lv_iadd hx hb dX10_isOpen_13 ?_
  obtain ⟨z1, h⟩ := gd_some h
  refine x_iald C0 hP (k := 1) cm_1 (j := (((336 : Int32) + ((4 : Int32) * x1)) + (2 : Int32)).toNatClampNeg) z1 rfl dX10_isOpen_14 ?_
  refine lv_icmp_lt (tgt := 40) hx hb dX10_isOpen_15 (by decide) (fun c2 => ?_) (fun c2 => ?_)
  · rw [if_pos c2] at h
    refine lv_iconst (v := (0 : Int32)) hx hb dX10_isOpen_40 rfl ?_
    obtain ⟨rfl, rfl⟩ := some2 h
    exact x_zret C0 hP hS (by decide) dX10_isOpen_41
  · rw [if_neg c2] at h
    refine lv_iload_n hx hb dX10_isOpen_18 rfl (lv_at hl 2 rfl) ?_
    refine lv_aload_n hx hb dX10_isOpen_19 rfl (lv_at hl 0 rfl) ?_
    refine x_get C0 hP inu10 (k := 0) cm_0 (by decide) rfl 0 (by decide) q4_134 rfl (v := .ref (g.2.2.1 + 1)) rfl dX10_isOpen_20 ?_
    refine lv_sipush (v := (336 : Int32)) hx hb dX10_isOpen_23 (by decide +kernel) ?_
    refine lv_iconst (v := (4 : Int32)) hx hb dX10_isOpen_26 rfl ?_
    refine lv_iload_n hx hb dX10_isOpen_27 rfl (lv_at hl 1 rfl) ?_
    refine lv_imul hx hb dX10_isOpen_28 ?_
    refine lv_iadd hx hb dX10_isOpen_29 ?_
    refine lv_iconst (v := (3 : Int32)) hx hb dX10_isOpen_30 rfl ?_
    refine lv_iadd hx hb dX10_isOpen_31 ?_
    obtain ⟨z3, h⟩ := gd_some h
    refine x_iald C0 hP (k := 1) cm_1 (j := (((336 : Int32) + ((4 : Int32) * x1)) + (3 : Int32)).toNatClampNeg) z3 rfl dX10_isOpen_32 ?_
    refine lv_icmp_ge (tgt := 40) hx hb dX10_isOpen_33 (by decide) (fun c4 => ?_) (fun c4 => ?_)
    · rw [if_pos c4] at h
      refine lv_iconst (v := (0 : Int32)) hx hb dX10_isOpen_40 rfl ?_
      obtain ⟨rfl, rfl⟩ := some2 h
      exact x_zret C0 hP hS (by decide) dX10_isOpen_41
    · rw [if_neg c4] at h
      refine lv_iconst (v := (1 : Int32)) hx hb dX10_isOpen_36 rfl ?_
      refine lv_goto (tgt := 41) hx hb dX10_isOpen_37 (by decide) ?_
      obtain ⟨rfl, rfl⟩ := some2 h
      exact x_zret C0 hP hS (by decide) dX10_isOpen_41
def X10_farOf_66  (t0 : Int32) (t1 : Int32) (μ : Mem) : Option (Int32 × Mem) :=
  some ((t0 + t1), μ)
set_option maxRecDepth 100000 in
set_option maxHeartbeats 4000000 in
theorem w_X10_farOf_66 {g : Gx} {p : Program} {l : Launch} {e : Env} {s : State} {m : MethodId} {args : Array Value} {below : List Frame} {meth : Method} {c : Code} (C0 : Cx Lm g p s m args meth c cX10_farOf 5 (some .int) RX10) {r : Int32} {ν : Mem}  (t0 : Int32) (t1 : Int32) (μ : Mem) (H : Heap) (locs : List Loc) (ls : Array Slot) (hP : Px Lm g μ H) (hS : va_S (Ax Lm g) s.heap H locs) (hl : lv_has ls 5 []) (h : X10_farOf_66  t0 t1 μ = some (r, ν)) : W p l e { frames := 1, cells := 0, slots := 0, locals := 22 } s m args below meth c H locs 0 0 (MQ below (Qx Lm g (some (.int r)) ν) args s 0 0 (Ax Lm g)) (F0 m 66 ls [.int t1, .int t0]) := by
  obtain ⟨hx, hb, hr, hml, hown, hts, hlocks, hK⟩ := id C0
  unfold X10_farOf_66 at h
  refine lv_iadd hx hb dX10_farOf_66 ?_
  obtain ⟨rfl, rfl⟩ := some2 h
  exact x_iret C0 hP hS dX10_farOf_67
def X10_farOf_53  (x4 : Int32) (t0 : Int32) (μ : Mem) : Option (Int32 × Mem) :=
  (if (0 : Int32) ≤ x4 then X10_farOf_66 t0 x4 μ else X10_farOf_66 t0 (-x4) μ)
set_option maxRecDepth 100000 in
set_option maxHeartbeats 4000000 in
theorem w_X10_farOf_53 {g : Gx} {p : Program} {l : Launch} {e : Env} {s : State} {m : MethodId} {args : Array Value} {below : List Frame} {meth : Method} {c : Code} (C0 : Cx Lm g p s m args meth c cX10_farOf 5 (some .int) RX10) {r : Int32} {ν : Mem}  (x4 : Int32) (t0 : Int32) (μ : Mem) (H : Heap) (locs : List Loc) (ls : Array Slot) (hP : Px Lm g μ H) (hS : va_S (Ax Lm g) s.heap H locs) (hl : lv_has ls 5 [(4, .int x4)]) (h : X10_farOf_53  x4 t0 μ = some (r, ν)) : W p l e { frames := 1, cells := 0, slots := 0, locals := 22 } s m args below meth c H locs 0 0 (MQ below (Qx Lm g (some (.int r)) ν) args s 0 0 (Ax Lm g)) (F0 m 53 ls [.int t0]) := by
  obtain ⟨hx, hb, hr, hml, hown, hts, hlocks, hK⟩ := id C0
  unfold X10_farOf_53 at h
  refine lv_iload hx hb dX10_farOf_53 (lv_at hl 0 rfl) ?_
  refine lv_if_ge (tgt := 64) hx hb dX10_farOf_55 (by decide) (fun c6 => ?_) (fun c6 => ?_)
  · rw [if_pos c6] at h
    refine lv_iload hx hb dX10_farOf_64 (lv_at hl 0 rfl) ?_
    exact w_X10_farOf_66 C0  t0 x4 μ _ _ _ hP hS (lv_sub hl [] rfl) h
  · rw [if_neg c6] at h
    refine lv_iload hx hb dX10_farOf_58 (lv_at hl 0 rfl) ?_
    refine lv_ineg hx hb dX10_farOf_60 ?_
    refine lv_goto (tgt := 66) hx hb dX10_farOf_61 (by decide) ?_
    exact w_X10_farOf_66 C0  t0 (-x4) μ _ _ _ hP hS (lv_sub hl [] rfl) h
def X10_farOf (x1 : Int32) (x2 : Int32) (μ : Mem) : Option (Int32 × Mem) :=
  ob2 (X10_of x1 (1 : Int32) μ) fun r1 μ1 => gd (inB ((336 : Int32) + ((4 : Int32) * x2)) 1944) (ob2 (X10_of x1 (2 : Int32) μ1) fun r3 μ3 => gd (inB (((336 : Int32) + ((4 : Int32) * x2)) + (1 : Int32)) 1944) ((if (0 : Int32) ≤ (r1 - (μ1 1 ((336 : Int32) + ((4 : Int32) * x2)).toNatClampNeg)) then X10_farOf_53 (r3 - (μ3 1 (((336 : Int32) + ((4 : Int32) * x2)) + (1 : Int32)).toNatClampNeg)) (r1 - (μ1 1 ((336 : Int32) + ((4 : Int32) * x2)).toNatClampNeg)) μ3 else X10_farOf_53 (r3 - (μ3 1 (((336 : Int32) + ((4 : Int32) * x2)) + (1 : Int32)).toNatClampNeg)) (-(r1 - (μ1 1 ((336 : Int32) + ((4 : Int32) * x2)).toNatClampNeg))) μ3)))
set_option maxRecDepth 100000 in
set_option maxHeartbeats 4000000 in
theorem c_X10_farOf (l : Launch) (g : Gx) (x1 : Int32) (x2 : Int32) (μ : Mem) {r : Int32} {ν : Mem} (h : X10_farOf x1 x2 μ = some (r, ν)) : Ct Lm g l yX10_farOf cX10_farOf 5 (some .int) { frames := 1, cells := 0, slots := 0, locals := 22 } [.ref (g.2.2.1 + 0), .int x1, .int x2] μ (some (.int r)) ν := by
  refine x_met (lv := [(0, .ref (g.2.2.1 + 0)), (1, .int x1), (2, .int x2)]) rfl (Nat.le_of_ble_eq_true rfl) rfl ?_
  intro p e s m below meth c C0 hP ls hl
  generalize ([.ref (g.2.2.1 + 0), .int x1, .int x2] : List Value).toArray = args at C0 ⊢
  have C0 : Cx Lm g p s m args meth c cX10_farOf 5 (some .int) RX10 := C0
  have hS : va_S (Ax Lm g) s.heap s.heap [] := va_S.rf
  obtain ⟨hx, hb, hr, hml, hown, hts, hlocks, hK⟩ := id C0
  unfold X10_farOf at h
  skip
  refine lv_aload_n hx hb dX10_farOf_0 rfl (lv_at hl 0 rfl) ?_
  refine lv_iload_n hx hb dX10_farOf_1 rfl (lv_at hl 1 rfl) ?_
  refine lv_iconst (v := (1 : Int32)) hx hb dX10_farOf_2 rfl ?_
  obtain ⟨r1, μ1, h1, h⟩ := ob2_some h
  refine x_callV C0 (rest := []) (q := (RX10, TX10, 22)) (c_X10_of l g x1 (1 : Int32) μ h1) q4_235 q4_232 q4_234 r2_9 q1_11 hd_X10_of ⟨rfl, rfl⟩ ⟨Nat.le_of_ble_eq_true rfl, Nat.le_of_ble_eq_true rfl⟩ cm_0 (by decide) rfl hP hS hl.1 rfl rfl (Nat.le_of_ble_eq_true rfl) dX10_farOf_3 (fun H locs hP hS => ?_)
  refine W.eq (g2 := F0 m 6 ls [.int r1]) rfl ?_
  refine lv_aload_n hx hb dX10_farOf_6 rfl (lv_at hl 0 rfl) ?_
  refine x_get C0 hP inu10 (k := 0) cm_0 (by decide) rfl 0 (by decide) q4_134 rfl (v := .ref (g.2.2.1 + 1)) rfl dX10_farOf_7 ?_
  refine lv_sipush (v := (336 : Int32)) hx hb dX10_farOf_10 (by decide +kernel) ?_
  refine lv_iconst (v := (4 : Int32)) hx hb dX10_farOf_13 rfl ?_
  refine lv_iload_n hx hb dX10_farOf_14 rfl (lv_at hl 2 rfl) ?_
  refine lv_imul hx hb dX10_farOf_15 ?_
  refine lv_iadd hx hb dX10_farOf_16 ?_
  obtain ⟨z2, h⟩ := gd_some h
  refine x_iald C0 hP (k := 1) cm_1 (j := ((336 : Int32) + ((4 : Int32) * x2)).toNatClampNeg) z2 rfl dX10_farOf_17 ?_
  refine lv_isub hx hb dX10_farOf_18 ?_
  refine lv_istore_n (lv' := [(3, .int (r1 - (μ1 1 ((336 : Int32) + ((4 : Int32) * x2)).toNatClampNeg))), (0, .ref (g.2.2.1 + 0)), (1, .int x1), (2, .int x2)]) hx hb dX10_farOf_19 rfl hl (by decide) rfl (fun ls hl => ?_)
  refine lv_aload_n hx hb dX10_farOf_20 rfl (lv_at hl 1 rfl) ?_
  refine lv_iload_n hx hb dX10_farOf_21 rfl (lv_at hl 2 rfl) ?_
  refine lv_iconst (v := (2 : Int32)) hx hb dX10_farOf_22 rfl ?_
  obtain ⟨r3, μ3, h1, h⟩ := ob2_some h
  refine x_callV C0 (rest := []) (q := (RX10, TX10, 22)) (c_X10_of l g x1 (2 : Int32) μ1 h1) q4_235 q4_232 q4_234 r2_9 q1_11 hd_X10_of ⟨rfl, rfl⟩ ⟨Nat.le_of_ble_eq_true rfl, Nat.le_of_ble_eq_true rfl⟩ cm_0 (by decide) rfl hP hS hl.1 rfl rfl (Nat.le_of_ble_eq_true rfl) dX10_farOf_23 (fun H locs hP hS => ?_)
  refine W.eq (g2 := F0 m 26 ls [.int r3]) rfl ?_
  refine lv_aload_n hx hb dX10_farOf_26 rfl (lv_at hl 1 rfl) ?_
  refine x_get C0 hP inu10 (k := 0) cm_0 (by decide) rfl 0 (by decide) q4_134 rfl (v := .ref (g.2.2.1 + 1)) rfl dX10_farOf_27 ?_
  refine lv_sipush (v := (336 : Int32)) hx hb dX10_farOf_30 (by decide +kernel) ?_
  refine lv_iconst (v := (4 : Int32)) hx hb dX10_farOf_33 rfl ?_
  refine lv_iload_n hx hb dX10_farOf_34 rfl (lv_at hl 3 rfl) ?_
  refine lv_imul hx hb dX10_farOf_35 ?_
  refine lv_iadd hx hb dX10_farOf_36 ?_
  refine lv_iconst (v := (1 : Int32)) hx hb dX10_farOf_37 rfl ?_
  refine lv_iadd hx hb dX10_farOf_38 ?_
  obtain ⟨z4, h⟩ := gd_some h
  refine x_iald C0 hP (k := 1) cm_1 (j := (((336 : Int32) + ((4 : Int32) * x2)) + (1 : Int32)).toNatClampNeg) z4 rfl dX10_farOf_39 ?_
  refine lv_isub hx hb dX10_farOf_40 ?_
  refine lv_istore (lv' := [(4, .int (r3 - (μ3 1 (((336 : Int32) + ((4 : Int32) * x2)) + (1 : Int32)).toNatClampNeg))), (3, .int (r1 - (μ1 1 ((336 : Int32) + ((4 : Int32) * x2)).toNatClampNeg))), (0, .ref (g.2.2.1 + 0)), (1, .int x1), (2, .int x2)]) hx hb dX10_farOf_41 hl (by decide) rfl (fun ls hl => ?_)
  refine lv_iload_n hx hb dX10_farOf_43 rfl (lv_at hl 1 rfl) ?_
  refine lv_if_ge (tgt := 52) hx hb dX10_farOf_44 (by decide) (fun c5 => ?_) (fun c5 => ?_)
  · rw [if_pos c5] at h
    refine lv_iload_n hx hb dX10_farOf_52 rfl (lv_at hl 1 rfl) ?_
    exact w_X10_farOf_53 C0  (r3 - (μ3 1 (((336 : Int32) + ((4 : Int32) * x2)) + (1 : Int32)).toNatClampNeg)) (r1 - (μ1 1 ((336 : Int32) + ((4 : Int32) * x2)).toNatClampNeg)) μ3 _ _ _ hP hS (lv_sub hl [0] rfl) h
  · rw [if_neg c5] at h
    refine lv_iload_n hx hb dX10_farOf_47 rfl (lv_at hl 1 rfl) ?_
    refine lv_ineg hx hb dX10_farOf_48 ?_
    refine lv_goto (tgt := 53) hx hb dX10_farOf_49 (by decide) ?_
    exact w_X10_farOf_53 C0  (r3 - (μ3 1 (((336 : Int32) + ((4 : Int32) * x2)) + (1 : Int32)).toNatClampNeg)) (-(r1 - (μ1 1 ((336 : Int32) + ((4 : Int32) * x2)).toNatClampNeg))) μ3 _ _ _ hP hS (lv_sub hl [0] rfl) h
def X10_nearest_18   (μ : Mem) : Option (Int32 × Mem) :=
  ob2 (X10_finding (1 : Int32) μ) fun r3 μ3 => some (r3, μ3)
set_option maxRecDepth 100000 in
set_option maxHeartbeats 4000000 in
theorem w_X10_nearest_18 {g : Gx} {p : Program} {l : Launch} {e : Env} {s : State} {m : MethodId} {args : Array Value} {below : List Frame} {meth : Method} {c : Code} (C0 : Cx Lm g p s m args meth c cX10_nearest 5 (some .int) RX10) {r : Int32} {ν : Mem}   (μ : Mem) (H : Heap) (locs : List Loc) (ls : Array Slot) (hP : Px Lm g μ H) (hS : va_S (Ax Lm g) s.heap H locs) (hl : lv_has ls 5 [(0, .ref (g.2.2.1 + 0))]) (h : X10_nearest_18   μ = some (r, ν)) : W p l e { frames := 2, cells := 0, slots := 0, locals := 46 } s m args below meth c H locs 0 0 (MQ below (Qx Lm g (some (.int r)) ν) args s 0 0 (Ax Lm g)) (F0 m 18 ls []) := by
  obtain ⟨hx, hb, hr, hml, hown, hts, hlocks, hK⟩ := id C0
  unfold X10_nearest_18 at h
  refine lv_aload_n hx hb dX10_nearest_18 rfl (lv_at hl 0 rfl) ?_
  refine lv_iconst (v := (1 : Int32)) hx hb dX10_nearest_19 rfl ?_
  obtain ⟨r3, μ3, h1, h⟩ := ob2_some h
  refine x_callV C0 (rest := []) (q := (RX10, TX10, 22)) (c_X10_finding l g (1 : Int32) μ h1) q4_214 q4_211 q4_213 r2_5 q1_11 hd_X10_finding ⟨rfl, rfl⟩ ⟨Nat.le_of_ble_eq_true rfl, Nat.le_of_ble_eq_true rfl⟩ cm_0 (by decide) rfl hP hS hl.1 rfl rfl (Nat.le_of_ble_eq_true rfl) dX10_nearest_20 (fun H locs hP hS => ?_)
  refine W.eq (g2 := F0 m 23 ls [.int r3]) rfl ?_
  obtain ⟨rfl, rfl⟩ := some2 h
  exact x_iret C0 hP hS dX10_nearest_23
def X10_nearest_76 (K29 : Int32 → Int32 → Int32 → Int32 → Mem → Option (Int32 × Mem)) (x1 : Int32) (x2 : Int32) (x4 : Int32) (t0 : Int32) (μ : Mem) : Option (Int32 × Mem) :=
  K29 x1 x2 t0 (x4 + (1 : Int32)) μ
set_option maxRecDepth 100000 in
set_option maxHeartbeats 4000000 in
theorem w_X10_nearest_76 {g : Gx} {p : Program} {l : Launch} {e : Env} {s : State} {m : MethodId} {args : Array Value} {below : List Frame} {meth : Method} {c : Code} (C0 : Cx Lm g p s m args meth c cX10_nearest 5 (some .int) RX10) {r : Int32} {ν : Mem} (K29 : Int32 → Int32 → Int32 → Int32 → Mem → Option (Int32 × Mem)) (hK29 : ∀ (x1 : Int32) (x2 : Int32) (x3 : Int32) (x4 : Int32) (μ : Mem) (H : Heap) (locs : List Loc) (ls : Array Slot), Px Lm g μ H → va_S (Ax Lm g) s.heap H locs → lv_has ls 5 [(0, .ref (g.2.2.1 + 0)), (1, .int x1), (2, .int x2), (3, .int x3), (4, .int x4)] → K29 x1 x2 x3 x4 μ = some (r, ν) → W p l e { frames := 2, cells := 0, slots := 0, locals := 46 } s m args below meth c H locs 0 0 (MQ below (Qx Lm g (some (.int r)) ν) args s 0 0 (Ax Lm g)) (F0 m 29 ls [])) (x1 : Int32) (x2 : Int32) (x4 : Int32) (t0 : Int32) (μ : Mem) (H : Heap) (locs : List Loc) (ls : Array Slot) (hP : Px Lm g μ H) (hS : va_S (Ax Lm g) s.heap H locs) (hl : lv_has ls 5 [(0, .ref (g.2.2.1 + 0)), (1, .int x1), (2, .int x2), (4, .int x4)]) (h : X10_nearest_76 K29 x1 x2 x4 t0 μ = some (r, ν)) : W p l e { frames := 2, cells := 0, slots := 0, locals := 46 } s m args below meth c H locs 0 0 (MQ below (Qx Lm g (some (.int r)) ν) args s 0 0 (Ax Lm g)) (F0 m 76 ls [.int t0]) := by
  obtain ⟨hx, hb, hr, hml, hown, hts, hlocks, hK⟩ := id C0
  unfold X10_nearest_76 at h
  refine lv_istore_n (lv' := [(3, .int t0), (0, .ref (g.2.2.1 + 0)), (1, .int x1), (2, .int x2), (4, .int x4)]) hx hb dX10_nearest_76 rfl hl (by decide) rfl (fun ls hl => ?_)
  refine lv_iinc (v := (x4 + (1 : Int32))) (lv' := [(4, .int (x4 + (1 : Int32))), (3, .int t0), (0, .ref (g.2.2.1 + 0)), (1, .int x1), (2, .int x2)]) hx hb dX10_nearest_77 hl (k := 4) rfl rfl (by decide) rfl (fun ls hl => ?_)
  refine lv_goto (tgt := 29) hx hb dX10_nearest_80 (by decide) ?_
  exact hK29 x1 x2 t0 (x4 + (1 : Int32)) μ _ _ _ hP hS (lv_sub hl [2, 3, 4, 1, 0] rfl) h
def X10_nearest_75 (K29 : Int32 → Int32 → Int32 → Int32 → Mem → Option (Int32 × Mem)) (x1 : Int32) (x2 : Int32) (x3 : Int32) (x4 : Int32) (μ : Mem) : Option (Int32 × Mem) :=
  X10_nearest_76 K29 x1 x2 x4 x3 μ
set_option maxRecDepth 100000 in
set_option maxHeartbeats 4000000 in
theorem w_X10_nearest_75 {g : Gx} {p : Program} {l : Launch} {e : Env} {s : State} {m : MethodId} {args : Array Value} {below : List Frame} {meth : Method} {c : Code} (C0 : Cx Lm g p s m args meth c cX10_nearest 5 (some .int) RX10) {r : Int32} {ν : Mem} (K29 : Int32 → Int32 → Int32 → Int32 → Mem → Option (Int32 × Mem)) (hK29 : ∀ (x1 : Int32) (x2 : Int32) (x3 : Int32) (x4 : Int32) (μ : Mem) (H : Heap) (locs : List Loc) (ls : Array Slot), Px Lm g μ H → va_S (Ax Lm g) s.heap H locs → lv_has ls 5 [(0, .ref (g.2.2.1 + 0)), (1, .int x1), (2, .int x2), (3, .int x3), (4, .int x4)] → K29 x1 x2 x3 x4 μ = some (r, ν) → W p l e { frames := 2, cells := 0, slots := 0, locals := 46 } s m args below meth c H locs 0 0 (MQ below (Qx Lm g (some (.int r)) ν) args s 0 0 (Ax Lm g)) (F0 m 29 ls [])) (x1 : Int32) (x2 : Int32) (x3 : Int32) (x4 : Int32) (μ : Mem) (H : Heap) (locs : List Loc) (ls : Array Slot) (hP : Px Lm g μ H) (hS : va_S (Ax Lm g) s.heap H locs) (hl : lv_has ls 5 [(0, .ref (g.2.2.1 + 0)), (1, .int x1), (2, .int x2), (3, .int x3), (4, .int x4)]) (h : X10_nearest_75 K29 x1 x2 x3 x4 μ = some (r, ν)) : W p l e { frames := 2, cells := 0, slots := 0, locals := 46 } s m args below meth c H locs 0 0 (MQ below (Qx Lm g (some (.int r)) ν) args s 0 0 (Ax Lm g)) (F0 m 75 ls []) := by
  obtain ⟨hx, hb, hr, hml, hown, hts, hlocks, hK⟩ := id C0
  unfold X10_nearest_75 at h
  refine lv_iload_n hx hb dX10_nearest_75 rfl (lv_at hl 3 rfl) ?_
  exact w_X10_nearest_76 C0 K29 hK29 x1 x2 x4 x3 μ _ _ _ hP hS (lv_sub hl [0, 1, 2, 4] rfl) h
def X10_nearest_70 (K29 : Int32 → Int32 → Int32 → Int32 → Mem → Option (Int32 × Mem)) (x1 : Int32) (x2 : Int32) (x4 : Int32) (μ : Mem) : Option (Int32 × Mem) :=
  X10_nearest_76 K29 x1 x2 x4 x4 μ
set_option maxRecDepth 100000 in
set_option maxHeartbeats 4000000 in
theorem w_X10_nearest_70 {g : Gx} {p : Program} {l : Launch} {e : Env} {s : State} {m : MethodId} {args : Array Value} {below : List Frame} {meth : Method} {c : Code} (C0 : Cx Lm g p s m args meth c cX10_nearest 5 (some .int) RX10) {r : Int32} {ν : Mem} (K29 : Int32 → Int32 → Int32 → Int32 → Mem → Option (Int32 × Mem)) (hK29 : ∀ (x1 : Int32) (x2 : Int32) (x3 : Int32) (x4 : Int32) (μ : Mem) (H : Heap) (locs : List Loc) (ls : Array Slot), Px Lm g μ H → va_S (Ax Lm g) s.heap H locs → lv_has ls 5 [(0, .ref (g.2.2.1 + 0)), (1, .int x1), (2, .int x2), (3, .int x3), (4, .int x4)] → K29 x1 x2 x3 x4 μ = some (r, ν) → W p l e { frames := 2, cells := 0, slots := 0, locals := 46 } s m args below meth c H locs 0 0 (MQ below (Qx Lm g (some (.int r)) ν) args s 0 0 (Ax Lm g)) (F0 m 29 ls [])) (x1 : Int32) (x2 : Int32) (x4 : Int32) (μ : Mem) (H : Heap) (locs : List Loc) (ls : Array Slot) (hP : Px Lm g μ H) (hS : va_S (Ax Lm g) s.heap H locs) (hl : lv_has ls 5 [(0, .ref (g.2.2.1 + 0)), (1, .int x1), (2, .int x2), (4, .int x4)]) (h : X10_nearest_70 K29 x1 x2 x4 μ = some (r, ν)) : W p l e { frames := 2, cells := 0, slots := 0, locals := 46 } s m args below meth c H locs 0 0 (MQ below (Qx Lm g (some (.int r)) ν) args s 0 0 (Ax Lm g)) (F0 m 70 ls []) := by
  obtain ⟨hx, hb, hr, hml, hown, hts, hlocks, hK⟩ := id C0
  unfold X10_nearest_70 at h
  refine lv_iload hx hb dX10_nearest_70 (lv_at hl 3 rfl) ?_
  refine lv_goto (tgt := 76) hx hb dX10_nearest_72 (by decide) ?_
  exact w_X10_nearest_76 C0 K29 hK29 x1 x2 x4 x4 μ _ _ _ hP hS (lv_sub hl [0, 1, 2, 3] rfl) h
def X10_nearest_29  : Nat → Int32 → Int32 → Int32 → Int32 → Mem → Option (Int32 × Mem)
  | 0, _, _, _, _, _ => none
  | n + 1, x1, x2, x3, x4, μ => (if (μ 1 2) ≤ x4 then (if (0 : Int32) ≤ x3 then some (x3, μ) else ob2 (X10_finding (2 : Int32) μ) fun r8 μ8 => some (r8, μ8)) else ob2 (X10_isOpen x4 x2 μ) fun r9 μ9 => (if r9 = (0 : Int32) then X10_nearest_75 (X10_nearest_29 n) x1 x2 x3 x4 μ9 else (if x3 < (0 : Int32) then X10_nearest_70 (X10_nearest_29 n) x1 x2 x4 μ9 else ob2 (X10_farOf x1 x4 μ9) fun r12 μ12 => ob2 (X10_farOf x1 x3 μ12) fun r13 μ13 => (if r13 ≤ r12 then X10_nearest_75 (X10_nearest_29 n) x1 x2 x3 x4 μ13 else X10_nearest_70 (X10_nearest_29 n) x1 x2 x4 μ13))))
set_option maxRecDepth 100000 in
set_option maxHeartbeats 4000000 in
theorem w_X10_nearest_29 {g : Gx} {p : Program} {l : Launch} {e : Env} {s : State} {m : MethodId} {args : Array Value} {below : List Frame} {meth : Method} {c : Code} (C0 : Cx Lm g p s m args meth c cX10_nearest 5 (some .int) RX10) {r : Int32} {ν : Mem}  (n : Nat) : ∀ (x1 : Int32) (x2 : Int32) (x3 : Int32) (x4 : Int32) (μ : Mem) (H : Heap) (locs : List Loc) (ls : Array Slot), Px Lm g μ H → va_S (Ax Lm g) s.heap H locs → lv_has ls 5 [(0, .ref (g.2.2.1 + 0)), (1, .int x1), (2, .int x2), (3, .int x3), (4, .int x4)] → X10_nearest_29  n x1 x2 x3 x4 μ = some (r, ν) → W p l e { frames := 2, cells := 0, slots := 0, locals := 46 } s m args below meth c H locs 0 0 (MQ below (Qx Lm g (some (.int r)) ν) args s 0 0 (Ax Lm g)) (F0 m 29 ls []) := by
  obtain ⟨hx, hb, hr, hml, hown, hts, hlocks, hK⟩ := id C0
  induction n with
  | zero =>
    intro x1 x2 x3 x4 μ H locs ls hP hS hl h
    have h : (none : Option (Int32 × Mem)) = some (r, ν) := h
    cases h
  | succ n ih =>
    intro x1 x2 x3 x4 μ H locs ls hP hS hl h
    rw [X10_nearest_29.eq_2] at h
    refine lv_iload hx hb dX10_nearest_29 (lv_at hl 4 rfl) ?_
    refine lv_aload_n hx hb dX10_nearest_31 rfl (lv_at hl 0 rfl) ?_
    refine x_get C0 hP inu10 (k := 0) cm_0 (by decide) rfl 0 (by decide) q4_134 rfl (v := .ref (g.2.2.1 + 1)) rfl dX10_nearest_32 ?_
    refine lv_iconst (v := (2 : Int32)) hx hb dX10_nearest_35 rfl ?_
    refine x_iald C0 hP (k := 1) cm_1 (j := 2) (by decide) rfl dX10_nearest_36 ?_
    refine lv_icmp_ge (tgt := 83) hx hb dX10_nearest_37 (by decide) (fun c6 => ?_) (fun c6 => ?_)
    · rw [if_pos c6] at h
      refine lv_iload_n hx hb dX10_nearest_83 rfl (lv_at hl 3 rfl) ?_
      refine lv_if_ge (tgt := 95) hx hb dX10_nearest_84 (by decide) (fun c7 => ?_) (fun c7 => ?_)
      · rw [if_pos c7] at h
        refine lv_iload_n hx hb dX10_nearest_95 rfl (lv_at hl 3 rfl) ?_
        obtain ⟨rfl, rfl⟩ := some2 h
        exact x_iret C0 hP hS dX10_nearest_96
      · rw [if_neg c7] at h
        refine lv_aload_n hx hb dX10_nearest_87 rfl (lv_at hl 0 rfl) ?_
        refine lv_iconst (v := (2 : Int32)) hx hb dX10_nearest_88 rfl ?_
        obtain ⟨r8, μ8, h1, h⟩ := ob2_some h
        refine x_callV C0 (rest := []) (q := (RX10, TX10, 22)) (c_X10_finding l g (2 : Int32) μ h1) q4_214 q4_211 q4_213 r2_5 q1_11 hd_X10_finding ⟨rfl, rfl⟩ ⟨Nat.le_of_ble_eq_true rfl, Nat.le_of_ble_eq_true rfl⟩ cm_0 (by decide) rfl hP hS hl.1 rfl rfl (Nat.le_of_ble_eq_true rfl) dX10_nearest_89 (fun H locs hP hS => ?_)
        refine W.eq (g2 := F0 m 92 ls [.int r8]) rfl ?_
        refine lv_goto (tgt := 96) hx hb dX10_nearest_92 (by decide) ?_
        obtain ⟨rfl, rfl⟩ := some2 h
        exact x_iret C0 hP hS dX10_nearest_96
    · rw [if_neg c6] at h
      refine lv_aload_n hx hb dX10_nearest_40 rfl (lv_at hl 0 rfl) ?_
      refine lv_iload hx hb dX10_nearest_41 (lv_at hl 4 rfl) ?_
      refine lv_iload_n hx hb dX10_nearest_43 rfl (lv_at hl 2 rfl) ?_
      obtain ⟨r9, μ9, h1, h⟩ := ob2_some h
      refine x_callV C0 (rest := []) (q := (RX10, TX10, 22)) (c_X10_isOpen l g x4 x2 μ h1) q5_96 q5_93 q5_95 r3_9 q1_11 hd_X10_isOpen ⟨rfl, rfl⟩ ⟨Nat.le_of_ble_eq_true rfl, Nat.le_of_ble_eq_true rfl⟩ cm_0 (by decide) rfl hP hS hl.1 rfl rfl (Nat.le_of_ble_eq_true rfl) dX10_nearest_44 (fun H locs hP hS => ?_)
      refine W.eq (g2 := F0 m 47 ls [.int r9]) rfl ?_
      refine lv_if_eq (tgt := 75) hx hb dX10_nearest_47 (by decide) (fun c10 => ?_) (fun c10 => ?_)
      · rw [if_pos c10] at h
        exact w_X10_nearest_75 C0 (X10_nearest_29  n) ih x1 x2 x3 x4 μ9 _ _ _ hP hS (lv_sub hl [0, 1, 2, 3, 4] rfl) h
      · rw [if_neg c10] at h
        refine lv_iload_n hx hb dX10_nearest_50 rfl (lv_at hl 3 rfl) ?_
        refine lv_if_lt (tgt := 70) hx hb dX10_nearest_51 (by decide) (fun c11 => ?_) (fun c11 => ?_)
        · rw [if_pos c11] at h
          exact w_X10_nearest_70 C0 (X10_nearest_29  n) ih x1 x2 x4 μ9 _ _ _ hP hS (lv_sub hl [0, 1, 2, 4] rfl) h
        · rw [if_neg c11] at h
          refine lv_aload_n hx hb dX10_nearest_54 rfl (lv_at hl 0 rfl) ?_
          refine lv_iload_n hx hb dX10_nearest_55 rfl (lv_at hl 1 rfl) ?_
          refine lv_iload hx hb dX10_nearest_56 (lv_at hl 4 rfl) ?_
          obtain ⟨r12, μ12, h1, h⟩ := ob2_some h
          refine x_callV C0 (rest := []) (q := (RX10, TX10, 22)) (c_X10_farOf l g x1 x4 μ9 h1) q5_100 q5_97 q5_99 r3_10 q1_11 hd_X10_farOf ⟨rfl, rfl⟩ ⟨Nat.le_of_ble_eq_true rfl, Nat.le_of_ble_eq_true rfl⟩ cm_0 (by decide) rfl hP hS hl.1 rfl rfl (Nat.le_of_ble_eq_true rfl) dX10_nearest_58 (fun H locs hP hS => ?_)
          refine W.eq (g2 := F0 m 61 ls [.int r12]) rfl ?_
          refine lv_aload_n hx hb dX10_nearest_61 rfl (lv_at hl 0 rfl) ?_
          refine lv_iload_n hx hb dX10_nearest_62 rfl (lv_at hl 1 rfl) ?_
          refine lv_iload_n hx hb dX10_nearest_63 rfl (lv_at hl 3 rfl) ?_
          obtain ⟨r13, μ13, h1, h⟩ := ob2_some h
          refine x_callV C0 (rest := [.int r12]) (q := (RX10, TX10, 22)) (c_X10_farOf l g x1 x3 μ12 h1) q5_100 q5_97 q5_99 r3_10 q1_11 hd_X10_farOf ⟨rfl, rfl⟩ ⟨Nat.le_of_ble_eq_true rfl, Nat.le_of_ble_eq_true rfl⟩ cm_0 (by decide) rfl hP hS hl.1 rfl rfl (Nat.le_of_ble_eq_true rfl) dX10_nearest_64 (fun H locs hP hS => ?_)
          refine W.eq (g2 := F0 m 67 ls [.int r13, .int r12]) rfl ?_
          refine lv_icmp_ge (tgt := 75) hx hb dX10_nearest_67 (by decide) (fun c14 => ?_) (fun c14 => ?_)
          · rw [if_pos c14] at h
            exact w_X10_nearest_75 C0 (X10_nearest_29  n) ih x1 x2 x3 x4 μ13 _ _ _ hP hS (lv_sub hl [0, 1, 2, 3, 4] rfl) h
          · rw [if_neg c14] at h
            exact w_X10_nearest_70 C0 (X10_nearest_29  n) ih x1 x2 x4 μ13 _ _ _ hP hS (lv_sub hl [0, 1, 2, 4] rfl) h
def X10_nearest (x1 : Int32) (x2 : Int32) (μ : Mem) : Option (Int32 × Mem) :=
  ob2 (X10_isMeter x1 μ) fun r1 μ1 => (if r1 = (0 : Int32) then X10_nearest_18 μ1 else ob2 (X10_in x2 (0 : Int32) (23 : Int32) μ1) fun r4 μ4 => (if r4 = (0 : Int32) then X10_nearest_18 μ4 else X10_nearest_29 FU x1 x2 (-1 : Int32) (0 : Int32) μ4))
set_option maxRecDepth 100000 in
set_option maxHeartbeats 4000000 in
theorem c_X10_nearest (l : Launch) (g : Gx) (x1 : Int32) (x2 : Int32) (μ : Mem) {r : Int32} {ν : Mem} (h : X10_nearest x1 x2 μ = some (r, ν)) : Ct Lm g l yX10_nearest cX10_nearest 5 (some .int) { frames := 2, cells := 0, slots := 0, locals := 46 } [.ref (g.2.2.1 + 0), .int x1, .int x2] μ (some (.int r)) ν := by
  refine x_met (lv := [(0, .ref (g.2.2.1 + 0)), (1, .int x1), (2, .int x2)]) rfl (Nat.le_of_ble_eq_true rfl) rfl ?_
  intro p e s m below meth c C0 hP ls hl
  generalize ([.ref (g.2.2.1 + 0), .int x1, .int x2] : List Value).toArray = args at C0 ⊢
  have C0 : Cx Lm g p s m args meth c cX10_nearest 5 (some .int) RX10 := C0
  have hS : va_S (Ax Lm g) s.heap s.heap [] := va_S.rf
  obtain ⟨hx, hb, hr, hml, hown, hts, hlocks, hK⟩ := id C0
  unfold X10_nearest at h
  skip
  refine lv_aload_n hx hb dX10_nearest_0 rfl (lv_at hl 0 rfl) ?_
  refine lv_iload_n hx hb dX10_nearest_1 rfl (lv_at hl 1 rfl) ?_
  obtain ⟨r1, μ1, h1, h⟩ := ob2_some h
  refine x_callV C0 (rest := []) (q := (RX10, TX10, 22)) (c_X10_isMeter l g x1 μ h1) q4_231 q4_228 q4_230 r2_8 q1_11 hd_X10_isMeter ⟨rfl, rfl⟩ ⟨Nat.le_of_ble_eq_true rfl, Nat.le_of_ble_eq_true rfl⟩ cm_0 (by decide) rfl hP hS hl.1 rfl rfl (Nat.le_of_ble_eq_true rfl) dX10_nearest_2 (fun H locs hP hS => ?_)
  refine W.eq (g2 := F0 m 5 ls [.int r1]) rfl ?_
  refine lv_if_eq (tgt := 18) hx hb dX10_nearest_5 (by decide) (fun c2 => ?_) (fun c2 => ?_)
  · rw [if_pos c2] at h
    exact w_X10_nearest_18 C0   μ1 _ _ _ hP hS (lv_sub hl [0] rfl) h
  · rw [if_neg c2] at h
    refine lv_iload_n hx hb dX10_nearest_8 rfl (lv_at hl 2 rfl) ?_
    refine lv_iconst (v := (0 : Int32)) hx hb dX10_nearest_9 rfl ?_
    refine lv_bipush (v := (23 : Int32)) hx hb dX10_nearest_10 (by decide +kernel) ?_
    obtain ⟨r4, μ4, h1, h⟩ := ob2_some h
    refine x_callS C0 (rest := []) (c_X10_in l g x2 (0 : Int32) (23 : Int32) μ1 h1) q4_207 q4_205 q4_206 q1_11 hd_X10_in ⟨rfl, rfl⟩ ⟨Nat.le_of_ble_eq_true rfl, Nat.le_of_ble_eq_true rfl⟩ hP hS hl.1 rfl rfl (Nat.le_of_ble_eq_true rfl) dX10_nearest_12 (fun H locs hP hS => ?_)
    refine W.eq (g2 := F0 m 15 ls [.int r4]) rfl ?_
    refine lv_if_ne (tgt := 24) hx hb dX10_nearest_15 (by decide) (fun c5 => ?_) (fun c5 => ?_)
    · rw [if_neg c5] at h
      refine lv_iconst (v := (-1 : Int32)) hx hb dX10_nearest_24 rfl ?_
      refine lv_istore_n (lv' := [(3, .int (-1 : Int32)), (0, .ref (g.2.2.1 + 0)), (1, .int x1), (2, .int x2)]) hx hb dX10_nearest_25 rfl hl (by decide) rfl (fun ls hl => ?_)
      refine lv_iconst (v := (0 : Int32)) hx hb dX10_nearest_26 rfl ?_
      refine lv_istore (lv' := [(4, .int (0 : Int32)), (3, .int (-1 : Int32)), (0, .ref (g.2.2.1 + 0)), (1, .int x1), (2, .int x2)]) hx hb dX10_nearest_27 hl (by decide) rfl (fun ls hl => ?_)
      exact w_X10_nearest_29 C0  FU x1 x2 (-1 : Int32) (0 : Int32) μ4 _ _ _ hP hS (lv_sub hl [2, 3, 4, 1, 0] rfl) h
    · rw [if_pos c5] at h
      exact w_X10_nearest_18 C0   μ4 _ _ _ hP hS (lv_sub hl [0] rfl) h
def X10_tops_126  (x1 : Int32) (x4 : Int32) (μ : Mem) : Option (Int32 × Mem) :=
  ob (X10_connects x1 μ) fun μ14 => some (x4, μ14)
set_option maxRecDepth 100000 in
set_option maxHeartbeats 4000000 in
theorem w_X10_tops_126 {g : Gx} {p : Program} {l : Launch} {e : Env} {s : State} {m : MethodId} {args : Array Value} {below : List Frame} {meth : Method} {c : Code} (C0 : Cx Lm g p s m args meth c cX10_tops 5 (some .int) RX10) {r : Int32} {ν : Mem}  (x1 : Int32) (x4 : Int32) (μ : Mem) (H : Heap) (locs : List Loc) (ls : Array Slot) (hP : Px Lm g μ H) (hS : va_S (Ax Lm g) s.heap H locs) (hl : lv_has ls 5 [(0, .ref (g.2.2.1 + 0)), (1, .int x1), (4, .int x4)]) (h : X10_tops_126  x1 x4 μ = some (r, ν)) : W p l e { frames := 68, cells := 0, slots := 0, locals := 1543 } s m args below meth c H locs 0 0 (MQ below (Qx Lm g (some (.int r)) ν) args s 0 0 (Ax Lm g)) (F0 m 126 ls []) := by
  obtain ⟨hx, hb, hr, hml, hown, hts, hlocks, hK⟩ := id C0
  unfold X10_tops_126 at h
  refine lv_aload_n hx hb dX10_tops_126 rfl (lv_at hl 0 rfl) ?_
  refine lv_iload_n hx hb dX10_tops_127 rfl (lv_at hl 1 rfl) ?_
  obtain ⟨μ14, h1, h⟩ := ob_some h
  refine x_callV C0 (rest := []) (q := (RX10, TX10, 22)) (c_X10_connects l g x1 μ h1) q5_84 q5_81 q5_83 r3_8 q1_11 hd_X10_connects ⟨rfl, rfl⟩ ⟨Nat.le_of_ble_eq_true rfl, Nat.le_of_ble_eq_true rfl⟩ cm_0 (by decide) rfl hP hS hl.1 rfl rfl (Nat.le_of_ble_eq_true rfl) dX10_tops_128 (fun H locs hP hS => ?_)
  refine W.eq (g2 := F0 m 131 ls []) rfl ?_
  refine lv_iload hx hb dX10_tops_131 (lv_at hl 2 rfl) ?_
  obtain ⟨rfl, rfl⟩ := some2 h
  exact x_iret C0 hP hS dX10_tops_133
def X10_tops_109  (x1 : Int32) (x4 : Int32) (μ : Mem) : Option (Int32 × Mem) :=
  ob2 (X10_of x1 (3 : Int32) μ) fun r12 μ12 => (if r12 < (0 : Int32) then X10_tops_126 x1 x4 μ12 else ob (X10_set x1 (7 : Int32) (0 : Int32) μ12) fun μ15 => X10_tops_126 x1 x4 μ15)
set_option maxRecDepth 100000 in
set_option maxHeartbeats 4000000 in
theorem w_X10_tops_109 {g : Gx} {p : Program} {l : Launch} {e : Env} {s : State} {m : MethodId} {args : Array Value} {below : List Frame} {meth : Method} {c : Code} (C0 : Cx Lm g p s m args meth c cX10_tops 5 (some .int) RX10) {r : Int32} {ν : Mem}  (x1 : Int32) (x4 : Int32) (μ : Mem) (H : Heap) (locs : List Loc) (ls : Array Slot) (hP : Px Lm g μ H) (hS : va_S (Ax Lm g) s.heap H locs) (hl : lv_has ls 5 [(0, .ref (g.2.2.1 + 0)), (1, .int x1), (4, .int x4)]) (h : X10_tops_109  x1 x4 μ = some (r, ν)) : W p l e { frames := 68, cells := 0, slots := 0, locals := 1543 } s m args below meth c H locs 0 0 (MQ below (Qx Lm g (some (.int r)) ν) args s 0 0 (Ax Lm g)) (F0 m 109 ls []) := by
  obtain ⟨hx, hb, hr, hml, hown, hts, hlocks, hK⟩ := id C0
  unfold X10_tops_109 at h
  refine lv_aload_n hx hb dX10_tops_109 rfl (lv_at hl 0 rfl) ?_
  refine lv_iload_n hx hb dX10_tops_110 rfl (lv_at hl 1 rfl) ?_
  refine lv_iconst (v := (3 : Int32)) hx hb dX10_tops_111 rfl ?_
  obtain ⟨r12, μ12, h1, h⟩ := ob2_some h
  refine x_callV C0 (rest := []) (q := (RX10, TX10, 22)) (c_X10_of l g x1 (3 : Int32) μ h1) q4_235 q4_232 q4_234 r2_9 q1_11 hd_X10_of ⟨rfl, rfl⟩ ⟨Nat.le_of_ble_eq_true rfl, Nat.le_of_ble_eq_true rfl⟩ cm_0 (by decide) rfl hP hS hl.1 rfl rfl (Nat.le_of_ble_eq_true rfl) dX10_tops_112 (fun H locs hP hS => ?_)
  refine W.eq (g2 := F0 m 115 ls [.int r12]) rfl ?_
  refine lv_if_lt (tgt := 126) hx hb dX10_tops_115 (by decide) (fun c13 => ?_) (fun c13 => ?_)
  · rw [if_pos c13] at h
    exact w_X10_tops_126 C0  x1 x4 μ12 _ _ _ hP hS (lv_sub hl [0, 1, 2] rfl) h
  · rw [if_neg c13] at h
    refine lv_aload_n hx hb dX10_tops_118 rfl (lv_at hl 0 rfl) ?_
    refine lv_iload_n hx hb dX10_tops_119 rfl (lv_at hl 1 rfl) ?_
    refine lv_bipush (v := (7 : Int32)) hx hb dX10_tops_120 (by decide +kernel) ?_
    refine lv_iconst (v := (0 : Int32)) hx hb dX10_tops_122 rfl ?_
    obtain ⟨μ15, h1, h⟩ := ob_some h
    refine x_callV C0 (rest := []) (q := (RX10, TX10, 22)) (c_X10_set l g x1 (7 : Int32) (0 : Int32) μ12 h1) q4_219 q4_216 q4_218 r2_6 q1_11 hd_X10_set ⟨rfl, rfl⟩ ⟨Nat.le_of_ble_eq_true rfl, Nat.le_of_ble_eq_true rfl⟩ cm_0 (by decide) rfl hP hS hl.1 rfl rfl (Nat.le_of_ble_eq_true rfl) dX10_tops_123 (fun H locs hP hS => ?_)
    refine W.eq (g2 := F0 m 126 ls []) rfl ?_
    exact w_X10_tops_126 C0  x1 x4 μ15 _ _ _ hP hS (lv_sub hl [0, 1, 2] rfl) h
def X10_tops_62  (x1 : Int32) (x2 : Int32) (t0 : Int32) (μ : Mem) : Option (Int32 × Mem) :=
  ob (X10_more x1 (4 : Int32) (-t0) μ) fun μ8 => ob (X10_more x1 (3 : Int32) (x2 - t0) μ8) fun μ9 => ob2 (X10_isSmart x1 μ9) fun r10 μ10 => (if r10 = (0 : Int32) then ob2 (X10_forceIn (0 : Int32) (μ10 1 0) μ10) fun r16 μ16 => ob (X10_set x1 (12 : Int32) r16 μ16) fun μ17 => X10_tops_109 x1 t0 μ17 else X10_tops_109 x1 t0 μ10)
set_option maxRecDepth 100000 in
set_option maxHeartbeats 4000000 in
theorem w_X10_tops_62 {g : Gx} {p : Program} {l : Launch} {e : Env} {s : State} {m : MethodId} {args : Array Value} {below : List Frame} {meth : Method} {c : Code} (C0 : Cx Lm g p s m args meth c cX10_tops 5 (some .int) RX10) {r : Int32} {ν : Mem}  (x1 : Int32) (x2 : Int32) (t0 : Int32) (μ : Mem) (H : Heap) (locs : List Loc) (ls : Array Slot) (hP : Px Lm g μ H) (hS : va_S (Ax Lm g) s.heap H locs) (hl : lv_has ls 5 [(0, .ref (g.2.2.1 + 0)), (1, .int x1), (2, .int x2)]) (h : X10_tops_62  x1 x2 t0 μ = some (r, ν)) : W p l e { frames := 68, cells := 0, slots := 0, locals := 1543 } s m args below meth c H locs 0 0 (MQ below (Qx Lm g (some (.int r)) ν) args s 0 0 (Ax Lm g)) (F0 m 62 ls [.int t0]) := by
  obtain ⟨hx, hb, hr, hml, hown, hts, hlocks, hK⟩ := id C0
  unfold X10_tops_62 at h
  refine lv_istore (lv' := [(4, .int t0), (0, .ref (g.2.2.1 + 0)), (1, .int x1), (2, .int x2)]) hx hb dX10_tops_62 hl (by decide) rfl (fun ls hl => ?_)
  refine lv_aload_n hx hb dX10_tops_64 rfl (lv_at hl 1 rfl) ?_
  refine lv_iload_n hx hb dX10_tops_65 rfl (lv_at hl 2 rfl) ?_
  refine lv_iconst (v := (4 : Int32)) hx hb dX10_tops_66 rfl ?_
  refine lv_iload hx hb dX10_tops_67 (lv_at hl 0 rfl) ?_
  refine lv_ineg hx hb dX10_tops_69 ?_
  obtain ⟨μ8, h1, h⟩ := ob_some h
  refine x_callV C0 (rest := []) (q := (RX10, TX10, 22)) (c_X10_more l g x1 (4 : Int32) (-t0) μ h1) q5_24 q5_21 q5_23 r2_13 q1_11 hd_X10_more ⟨rfl, rfl⟩ ⟨Nat.le_of_ble_eq_true rfl, Nat.le_of_ble_eq_true rfl⟩ cm_0 (by decide) rfl hP hS hl.1 rfl rfl (Nat.le_of_ble_eq_true rfl) dX10_tops_70 (fun H locs hP hS => ?_)
  refine W.eq (g2 := F0 m 73 ls []) rfl ?_
  refine lv_aload_n hx hb dX10_tops_73 rfl (lv_at hl 1 rfl) ?_
  refine lv_iload_n hx hb dX10_tops_74 rfl (lv_at hl 2 rfl) ?_
  refine lv_iconst (v := (3 : Int32)) hx hb dX10_tops_75 rfl ?_
  refine lv_iload_n hx hb dX10_tops_76 rfl (lv_at hl 3 rfl) ?_
  refine lv_iload hx hb dX10_tops_77 (lv_at hl 0 rfl) ?_
  refine lv_isub hx hb dX10_tops_79 ?_
  obtain ⟨μ9, h1, h⟩ := ob_some h
  refine x_callV C0 (rest := []) (q := (RX10, TX10, 22)) (c_X10_more l g x1 (3 : Int32) (x2 - t0) μ8 h1) q5_24 q5_21 q5_23 r2_13 q1_11 hd_X10_more ⟨rfl, rfl⟩ ⟨Nat.le_of_ble_eq_true rfl, Nat.le_of_ble_eq_true rfl⟩ cm_0 (by decide) rfl hP hS hl.1 rfl rfl (Nat.le_of_ble_eq_true rfl) dX10_tops_80 (fun H locs hP hS => ?_)
  refine W.eq (g2 := F0 m 83 ls []) rfl ?_
  refine lv_aload_n hx hb dX10_tops_83 rfl (lv_at hl 1 rfl) ?_
  refine lv_iload_n hx hb dX10_tops_84 rfl (lv_at hl 2 rfl) ?_
  obtain ⟨r10, μ10, h1, h⟩ := ob2_some h
  refine x_callV C0 (rest := []) (q := (RX10, TX10, 22)) (c_X10_isSmart l g x1 μ9 h1) q5_7 q5_4 q5_6 r2_11 q1_11 hd_X10_isSmart ⟨rfl, rfl⟩ ⟨Nat.le_of_ble_eq_true rfl, Nat.le_of_ble_eq_true rfl⟩ cm_0 (by decide) rfl hP hS hl.1 rfl rfl (Nat.le_of_ble_eq_true rfl) dX10_tops_85 (fun H locs hP hS => ?_)
  refine W.eq (g2 := F0 m 88 ls [.int r10]) rfl ?_
  refine lv_if_ne (tgt := 109) hx hb dX10_tops_88 (by decide) (fun c11 => ?_) (fun c11 => ?_)
  · rw [if_neg c11] at h
    exact w_X10_tops_109 C0  x1 t0 μ10 _ _ _ hP hS (lv_sub hl [1, 2, 0] rfl) h
  · rw [if_pos c11] at h
    refine lv_aload_n hx hb dX10_tops_91 rfl (lv_at hl 1 rfl) ?_
    refine lv_iload_n hx hb dX10_tops_92 rfl (lv_at hl 2 rfl) ?_
    refine lv_bipush (v := (12 : Int32)) hx hb dX10_tops_93 (by decide +kernel) ?_
    refine lv_aload_n hx hb dX10_tops_95 rfl (lv_at hl 1 rfl) ?_
    refine lv_iconst (v := (0 : Int32)) hx hb dX10_tops_96 rfl ?_
    refine lv_aload_n hx hb dX10_tops_97 rfl (lv_at hl 1 rfl) ?_
    refine x_get C0 hP inu10 (k := 0) cm_0 (by decide) rfl 0 (by decide) q4_134 rfl (v := .ref (g.2.2.1 + 1)) rfl dX10_tops_98 ?_
    refine lv_iconst (v := (0 : Int32)) hx hb dX10_tops_101 rfl ?_
    refine x_iald C0 hP (k := 1) cm_1 (j := 0) (by decide) rfl dX10_tops_102 ?_
    obtain ⟨r16, μ16, h1, h⟩ := ob2_some h
    refine x_callV C0 (rest := [.int (12 : Int32), .int x1, .ref (g.2.2.1 + 0)]) (q := (RX10, TX10, 22)) (c_X10_forceIn l g (0 : Int32) (μ10 1 0) μ10 h1) q4_223 q4_220 q4_222 r2_7 q1_11 hd_X10_forceIn ⟨rfl, rfl⟩ ⟨Nat.le_of_ble_eq_true rfl, Nat.le_of_ble_eq_true rfl⟩ cm_0 (by decide) rfl hP hS hl.1 rfl rfl (Nat.le_of_ble_eq_true rfl) dX10_tops_103 (fun H locs hP hS => ?_)
    refine W.eq (g2 := F0 m 106 ls [.int r16, .int (12 : Int32), .int x1, .ref (g.2.2.1 + 0)]) rfl ?_
    obtain ⟨μ17, h1, h⟩ := ob_some h
    refine x_callV C0 (rest := []) (q := (RX10, TX10, 22)) (c_X10_set l g x1 (12 : Int32) r16 μ16 h1) q4_219 q4_216 q4_218 r2_6 q1_11 hd_X10_set ⟨rfl, rfl⟩ ⟨Nat.le_of_ble_eq_true rfl, Nat.le_of_ble_eq_true rfl⟩ cm_0 (by decide) rfl hP hS hl.1 rfl rfl (Nat.le_of_ble_eq_true rfl) dX10_tops_106 (fun H locs hP hS => ?_)
    refine W.eq (g2 := F0 m 109 ls []) rfl ?_
    exact w_X10_tops_109 C0  x1 t0 μ17 _ _ _ hP hS (lv_sub hl [1, 2, 0] rfl) h
def X10_tops_38  (x1 : Int32) (x2 : Int32) (t0 : Int32) (μ : Mem) : Option (Int32 × Mem) :=
  ob2 (X10_of x1 (4 : Int32) μ) fun r5 μ5 => (if r5 ≤ t0 then ob2 (X10_of x1 (4 : Int32) μ5) fun r7 μ7 => X10_tops_62 x1 x2 r7 μ7 else X10_tops_62 x1 x2 t0 μ5)
set_option maxRecDepth 100000 in
set_option maxHeartbeats 4000000 in
theorem w_X10_tops_38 {g : Gx} {p : Program} {l : Launch} {e : Env} {s : State} {m : MethodId} {args : Array Value} {below : List Frame} {meth : Method} {c : Code} (C0 : Cx Lm g p s m args meth c cX10_tops 5 (some .int) RX10) {r : Int32} {ν : Mem}  (x1 : Int32) (x2 : Int32) (t0 : Int32) (μ : Mem) (H : Heap) (locs : List Loc) (ls : Array Slot) (hP : Px Lm g μ H) (hS : va_S (Ax Lm g) s.heap H locs) (hl : lv_has ls 5 [(0, .ref (g.2.2.1 + 0)), (1, .int x1), (2, .int x2)]) (h : X10_tops_38  x1 x2 t0 μ = some (r, ν)) : W p l e { frames := 68, cells := 0, slots := 0, locals := 1543 } s m args below meth c H locs 0 0 (MQ below (Qx Lm g (some (.int r)) ν) args s 0 0 (Ax Lm g)) (F0 m 38 ls [.int t0]) := by
  obtain ⟨hx, hb, hr, hml, hown, hts, hlocks, hK⟩ := id C0
  unfold X10_tops_38 at h
  refine lv_istore (lv' := [(4, .int t0), (0, .ref (g.2.2.1 + 0)), (1, .int x1), (2, .int x2)]) hx hb dX10_tops_38 hl (by decide) rfl (fun ls hl => ?_)
  refine lv_iload hx hb dX10_tops_40 (lv_at hl 0 rfl) ?_
  refine lv_aload_n hx hb dX10_tops_42 rfl (lv_at hl 1 rfl) ?_
  refine lv_iload_n hx hb dX10_tops_43 rfl (lv_at hl 2 rfl) ?_
  refine lv_iconst (v := (4 : Int32)) hx hb dX10_tops_44 rfl ?_
  obtain ⟨r5, μ5, h1, h⟩ := ob2_some h
  refine x_callV C0 (rest := [.int t0]) (q := (RX10, TX10, 22)) (c_X10_of l g x1 (4 : Int32) μ h1) q4_235 q4_232 q4_234 r2_9 q1_11 hd_X10_of ⟨rfl, rfl⟩ ⟨Nat.le_of_ble_eq_true rfl, Nat.le_of_ble_eq_true rfl⟩ cm_0 (by decide) rfl hP hS hl.1 rfl rfl (Nat.le_of_ble_eq_true rfl) dX10_tops_45 (fun H locs hP hS => ?_)
  refine W.eq (g2 := F0 m 48 ls [.int r5, .int t0]) rfl ?_
  refine lv_icmp_ge (tgt := 56) hx hb dX10_tops_48 (by decide) (fun c6 => ?_) (fun c6 => ?_)
  · rw [if_pos c6] at h
    refine lv_aload_n hx hb dX10_tops_56 rfl (lv_at hl 1 rfl) ?_
    refine lv_iload_n hx hb dX10_tops_57 rfl (lv_at hl 2 rfl) ?_
    refine lv_iconst (v := (4 : Int32)) hx hb dX10_tops_58 rfl ?_
    obtain ⟨r7, μ7, h1, h⟩ := ob2_some h
    refine x_callV C0 (rest := []) (q := (RX10, TX10, 22)) (c_X10_of l g x1 (4 : Int32) μ5 h1) q4_235 q4_232 q4_234 r2_9 q1_11 hd_X10_of ⟨rfl, rfl⟩ ⟨Nat.le_of_ble_eq_true rfl, Nat.le_of_ble_eq_true rfl⟩ cm_0 (by decide) rfl hP hS hl.1 rfl rfl (Nat.le_of_ble_eq_true rfl) dX10_tops_59 (fun H locs hP hS => ?_)
    refine W.eq (g2 := F0 m 62 ls [.int r7]) rfl ?_
    exact w_X10_tops_62 C0  x1 x2 r7 μ7 _ _ _ hP hS (lv_sub hl [1, 2, 3] rfl) h
  · rw [if_neg c6] at h
    refine lv_iload hx hb dX10_tops_51 (lv_at hl 0 rfl) ?_
    refine lv_goto (tgt := 62) hx hb dX10_tops_53 (by decide) ?_
    exact w_X10_tops_62 C0  x1 x2 t0 μ5 _ _ _ hP hS (lv_sub hl [1, 2, 3] rfl) h
def X10_tops (x1 : Int32) (x2 : Int32) (μ : Mem) : Option (Int32 × Mem) :=
  ob2 (X10_forceIn (2 : Int32) (μ 1 0) μ) fun r1 μ1 => (if (0 : Int32) ≤ r1 then ob2 (X10_saysOf r1 x1 (μ1 1 0) x2 μ1) fun r3 μ3 => ob2 (X10_within r3 (0 : Int32) x2 μ3) fun r4 μ4 => X10_tops_38 x1 x2 r4 μ4 else X10_tops_38 x1 x2 (0 : Int32) μ1)
set_option maxRecDepth 100000 in
set_option maxHeartbeats 4000000 in
theorem c_X10_tops (l : Launch) (g : Gx) (x1 : Int32) (x2 : Int32) (μ : Mem) {r : Int32} {ν : Mem} (h : X10_tops x1 x2 μ = some (r, ν)) : Ct Lm g l yX10_tops cX10_tops 5 (some .int) { frames := 68, cells := 0, slots := 0, locals := 1543 } [.ref (g.2.2.1 + 0), .int x1, .int x2] μ (some (.int r)) ν := by
  refine x_met (lv := [(0, .ref (g.2.2.1 + 0)), (1, .int x1), (2, .int x2)]) rfl (Nat.le_of_ble_eq_true rfl) rfl ?_
  intro p e s m below meth c C0 hP ls hl
  generalize ([.ref (g.2.2.1 + 0), .int x1, .int x2] : List Value).toArray = args at C0 ⊢
  have C0 : Cx Lm g p s m args meth c cX10_tops 5 (some .int) RX10 := C0
  have hS : va_S (Ax Lm g) s.heap s.heap [] := va_S.rf
  obtain ⟨hx, hb, hr, hml, hown, hts, hlocks, hK⟩ := id C0
  unfold X10_tops at h
  skip
  refine lv_aload_n hx hb dX10_tops_0 rfl (lv_at hl 0 rfl) ?_
  refine lv_iconst (v := (2 : Int32)) hx hb dX10_tops_1 rfl ?_
  refine lv_aload_n hx hb dX10_tops_2 rfl (lv_at hl 0 rfl) ?_
  refine x_get C0 hP inu10 (k := 0) cm_0 (by decide) rfl 0 (by decide) q4_134 rfl (v := .ref (g.2.2.1 + 1)) rfl dX10_tops_3 ?_
  refine lv_iconst (v := (0 : Int32)) hx hb dX10_tops_6 rfl ?_
  refine x_iald C0 hP (k := 1) cm_1 (j := 0) (by decide) rfl dX10_tops_7 ?_
  obtain ⟨r1, μ1, h1, h⟩ := ob2_some h
  refine x_callV C0 (rest := []) (q := (RX10, TX10, 22)) (c_X10_forceIn l g (2 : Int32) (μ 1 0) μ h1) q4_223 q4_220 q4_222 r2_7 q1_11 hd_X10_forceIn ⟨rfl, rfl⟩ ⟨Nat.le_of_ble_eq_true rfl, Nat.le_of_ble_eq_true rfl⟩ cm_0 (by decide) rfl hP hS hl.1 rfl rfl (Nat.le_of_ble_eq_true rfl) dX10_tops_8 (fun H locs hP hS => ?_)
  refine W.eq (g2 := F0 m 11 ls [.int r1]) rfl ?_
  refine lv_istore_n (lv' := [(3, .int r1), (0, .ref (g.2.2.1 + 0)), (1, .int x1), (2, .int x2)]) hx hb dX10_tops_11 rfl hl (by decide) rfl (fun ls hl => ?_)
  refine lv_iload_n hx hb dX10_tops_12 rfl (lv_at hl 0 rfl) ?_
  refine lv_if_ge (tgt := 20) hx hb dX10_tops_13 (by decide) (fun c2 => ?_) (fun c2 => ?_)
  · rw [if_pos c2] at h
    refine lv_aload_n hx hb dX10_tops_20 rfl (lv_at hl 1 rfl) ?_
    refine lv_iload_n hx hb dX10_tops_21 rfl (lv_at hl 0 rfl) ?_
    refine lv_iload_n hx hb dX10_tops_22 rfl (lv_at hl 2 rfl) ?_
    refine lv_aload_n hx hb dX10_tops_23 rfl (lv_at hl 1 rfl) ?_
    refine x_get C0 hP inu10 (k := 0) cm_0 (by decide) rfl 0 (by decide) q4_134 rfl (v := .ref (g.2.2.1 + 1)) rfl dX10_tops_24 ?_
    refine lv_iconst (v := (0 : Int32)) hx hb dX10_tops_27 rfl ?_
    refine x_iald C0 hP (k := 1) cm_1 (j := 0) (by decide) rfl dX10_tops_28 ?_
    refine lv_iload_n hx hb dX10_tops_29 rfl (lv_at hl 3 rfl) ?_
    obtain ⟨r3, μ3, h1, h⟩ := ob2_some h
    refine x_callV C0 (rest := []) (q := (RX10, TX10, 22)) (c_X10_saysOf l g r1 x1 (μ1 1 0) x2 μ1 h1) q5_40 q5_37 q5_39 r2_14 q1_11 hd_X10_saysOf ⟨rfl, rfl⟩ ⟨Nat.le_of_ble_eq_true rfl, Nat.le_of_ble_eq_true rfl⟩ cm_0 (by decide) rfl hP hS hl.1 rfl rfl (Nat.le_of_ble_eq_true rfl) dX10_tops_30 (fun H locs hP hS => ?_)
    refine W.eq (g2 := F0 m 33 ls [.int r3]) rfl ?_
    refine lv_iconst (v := (0 : Int32)) hx hb dX10_tops_33 rfl ?_
    refine lv_iload_n hx hb dX10_tops_34 rfl (lv_at hl 3 rfl) ?_
    obtain ⟨r4, μ4, h1, h⟩ := ob2_some h
    refine x_callS C0 (rest := []) (c_X10_within l g r3 (0 : Int32) x2 μ3 h1) q5_111 q5_109 q5_110 q1_11 hd_X10_within ⟨rfl, rfl⟩ ⟨Nat.le_of_ble_eq_true rfl, Nat.le_of_ble_eq_true rfl⟩ hP hS hl.1 rfl rfl (Nat.le_of_ble_eq_true rfl) dX10_tops_35 (fun H locs hP hS => ?_)
    refine W.eq (g2 := F0 m 38 ls [.int r4]) rfl ?_
    exact w_X10_tops_38 C0  x1 x2 r4 μ4 _ _ _ hP hS (lv_sub hl [1, 2, 3] rfl) h
  · rw [if_neg c2] at h
    refine lv_iconst (v := (0 : Int32)) hx hb dX10_tops_16 rfl ?_
    refine lv_goto (tgt := 38) hx hb dX10_tops_17 (by decide) ?_
    exact w_X10_tops_38 C0  x1 x2 (0 : Int32) μ1 _ _ _ hP hS (lv_sub hl [1, 2, 3] rfl) h
