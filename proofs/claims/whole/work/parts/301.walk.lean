def X0_next  (μ : Mem) : Option (Int32 × Mem) :=
  (if (0 : Int32) ≤ (μ 81 5) then some ((-1 : Int32), μ) else gd (¬ μ 81 2 = 0) ((if (μ 81 4) < (0 : Int32) then some ((-1 : Int32), μ) else (if (μ 81 3) ≤ (μ 81 4) then some ((-1 : Int32), μ) else gd (¬ μ 81 2 = 0) ((if (μ 81 4) < (60 : Int32) then gd (¬ μ 81 2 = 0) (gd (inB (μ 81 4) 60) (some (((μ 23 (μ 81 4).toNatClampNeg).toInt8.toInt32 &&& (255 : Int32)), μ))) else some ((-1 : Int32), μ)))))))
set_option maxRecDepth 100000 in
set_option maxHeartbeats 4000000 in
theorem c_X0_next (l : Launch) (g : Gx)  (μ : Mem) {r : Int32} {ν : Mem} (h : X0_next  μ = some (r, ν)) : Ct Lx g l yX0_next cX0_next 1 (some .int) { frames := 0, cells := 0, slots := 0, locals := 0 } [.ref (g.2.2.1 + 81)] μ (some (.int r)) ν := by
  refine x_met (lv := [(0, .ref (g.2.2.1 + 81))]) rfl (Nat.le_of_ble_eq_true rfl) rfl ?_
  intro p e s m below meth c C0 hP ls hl
  generalize ([.ref (g.2.2.1 + 81)] : List Value).toArray = args at C0 ⊢
  have C0 : Cx Lx g p s m args meth c cX0_next 1 (some .int) RX0 := C0
  have hS : va_S (Ax Lx g) s.heap s.heap [] := va_S.rf
  obtain ⟨hx, hb, hr, hml, hown, hts, hlocks, hK⟩ := id C0
  unfold X0_next at h
  skip
  refine lv_aload_n hx hb dX0_next_0 rfl (lv_at hl 0 rfl) ?_
  refine x_get C0 hP inu0 (k := 81) cx_81 (by decide) rfl 5 (by decide) q2_32 rfl (v := .int (μ 81 5)) rfl dX0_next_1 ?_
  refine lv_if_ge (tgt := 44) hx hb dX0_next_4 (by decide) (fun c1 => ?_) (fun c1 => ?_)
  · rw [if_pos c1] at h
    refine lv_iconst (v := (-1 : Int32)) hx hb dX0_next_44 rfl ?_
    obtain ⟨rfl, rfl⟩ := some2 h
    exact x_iret C0 hP hS dX0_next_45
  · rw [if_neg c1] at h
    refine lv_aload_n hx hb dX0_next_7 rfl (lv_at hl 0 rfl) ?_
    obtain ⟨z2, h⟩ := gd_some h
    refine x_get C0 hP inu0 (k := 81) cx_81 (by decide) rfl 2 (by decide) q2_29 rfl (v := .ref (g.2.2.1 + 23)) (by show some (tx g.2.2.1 (μ 81 2)) = _; rw [tx, if_neg z2]) dX0_next_8 ?_
    refine lv_ifnull hx hb dX0_next_11 ?_
    refine lv_aload_n hx hb dX0_next_14 rfl (lv_at hl 0 rfl) ?_
    refine x_get C0 hP inu0 (k := 81) cx_81 (by decide) rfl 4 (by decide) q2_31 rfl (v := .int (μ 81 4)) rfl dX0_next_15 ?_
    refine lv_if_lt (tgt := 44) hx hb dX0_next_18 (by decide) (fun c3 => ?_) (fun c3 => ?_)
    · rw [if_pos c3] at h
      refine lv_iconst (v := (-1 : Int32)) hx hb dX0_next_44 rfl ?_
      obtain ⟨rfl, rfl⟩ := some2 h
      exact x_iret C0 hP hS dX0_next_45
    · rw [if_neg c3] at h
      refine lv_aload_n hx hb dX0_next_21 rfl (lv_at hl 0 rfl) ?_
      refine x_get C0 hP inu0 (k := 81) cx_81 (by decide) rfl 4 (by decide) q2_31 rfl (v := .int (μ 81 4)) rfl dX0_next_22 ?_
      refine lv_aload_n hx hb dX0_next_25 rfl (lv_at hl 0 rfl) ?_
      refine x_get C0 hP inu0 (k := 81) cx_81 (by decide) rfl 3 (by decide) q2_30 rfl (v := .int (μ 81 3)) rfl dX0_next_26 ?_
      refine lv_icmp_ge (tgt := 44) hx hb dX0_next_29 (by decide) (fun c4 => ?_) (fun c4 => ?_)
      · rw [if_pos c4] at h
        refine lv_iconst (v := (-1 : Int32)) hx hb dX0_next_44 rfl ?_
        obtain ⟨rfl, rfl⟩ := some2 h
        exact x_iret C0 hP hS dX0_next_45
      · rw [if_neg c4] at h
        refine lv_aload_n hx hb dX0_next_32 rfl (lv_at hl 0 rfl) ?_
        refine x_get C0 hP inu0 (k := 81) cx_81 (by decide) rfl 4 (by decide) q2_31 rfl (v := .int (μ 81 4)) rfl dX0_next_33 ?_
        refine lv_aload_n hx hb dX0_next_36 rfl (lv_at hl 0 rfl) ?_
        obtain ⟨z5, h⟩ := gd_some h
        refine x_get C0 hP inu0 (k := 81) cx_81 (by decide) rfl 2 (by decide) q2_29 rfl (v := .ref (g.2.2.1 + 23)) (by show some (tx g.2.2.1 (μ 81 2)) = _; rw [tx, if_neg z5]) dX0_next_37 ?_
        refine x_alen C0 hP (k := 23) (Or.inr cx_23) (v := (60 : Int32)) rfl dX0_next_40 ?_
        refine lv_icmp_lt (tgt := 46) hx hb dX0_next_41 (by decide) (fun c6 => ?_) (fun c6 => ?_)
        · rw [if_pos c6] at h
          refine lv_aload_n hx hb dX0_next_46 rfl (lv_at hl 0 rfl) ?_
          obtain ⟨z7, h⟩ := gd_some h
          refine x_get C0 hP inu0 (k := 81) cx_81 (by decide) rfl 2 (by decide) q2_29 rfl (v := .ref (g.2.2.1 + 23)) (by show some (tx g.2.2.1 (μ 81 2)) = _; rw [tx, if_neg z7]) dX0_next_47 ?_
          refine lv_aload_n hx hb dX0_next_50 rfl (lv_at hl 0 rfl) ?_
          refine x_get C0 hP inu0 (k := 81) cx_81 (by decide) rfl 4 (by decide) q2_31 rfl (v := .int (μ 81 4)) rfl dX0_next_51 ?_
          obtain ⟨z8, h⟩ := gd_some h
          refine x_bald C0 hP (k := 23) cx_23 (j := (μ 81 4).toNatClampNeg) z8 rfl dX0_next_54 ?_
          refine lv_sipush (v := (255 : Int32)) hx hb dX0_next_55 (by decide +kernel) ?_
          refine lv_iand hx hb dX0_next_58 ?_
          obtain ⟨rfl, rfl⟩ := some2 h
          exact x_iret C0 hP hS dX0_next_59
        · rw [if_neg c6] at h
          refine lv_iconst (v := (-1 : Int32)) hx hb dX0_next_44 rfl ?_
          obtain ⟨rfl, rfl⟩ := some2 h
          exact x_iret C0 hP hS dX0_next_45
def X0_emit (x1 : Int32) (μ : Mem) : Option Mem :=
  (if (60 : Int32) ≤ (μ 81 1) then some μ else gd (inB (μ 81 1) 60) (lt (st μ 82 (μ 81 1).toNatClampNeg x1) fun μ3 => lt (st μ3 81 1 ((μ3 81 1) + (1 : Int32))) fun μ4 => some μ4))
set_option maxRecDepth 100000 in
set_option maxHeartbeats 4000000 in
theorem c_X0_emit (l : Launch) (g : Gx) (x1 : Int32) (μ : Mem) {ν : Mem} (h : X0_emit x1 μ = some ν) : Ct Lx g l yX0_emit cX0_emit 2 none { frames := 0, cells := 0, slots := 0, locals := 0 } [.ref (g.2.2.1 + 81), .int x1] μ none ν := by
  refine x_met (lv := [(0, .ref (g.2.2.1 + 81)), (1, .int x1)]) rfl (Nat.le_of_ble_eq_true rfl) rfl ?_
  intro p e s m below meth c C0 hP ls hl
  generalize ([.ref (g.2.2.1 + 81), .int x1] : List Value).toArray = args at C0 ⊢
  have C0 : Cx Lx g p s m args meth c cX0_emit 2 none RX0 := C0
  have hS : va_S (Ax Lx g) s.heap s.heap [] := va_S.rf
  obtain ⟨hx, hb, hr, hml, hown, hts, hlocks, hK⟩ := id C0
  unfold X0_emit at h
  skip
  refine lv_aload_n hx hb dX0_emit_0 rfl (lv_at hl 0 rfl) ?_
  refine x_get C0 hP inu0 (k := 81) cx_81 (by decide) rfl 1 (by decide) q2_27 rfl (v := .int (μ 81 1)) rfl dX0_emit_1 ?_
  refine lv_aload_n hx hb dX0_emit_4 rfl (lv_at hl 0 rfl) ?_
  refine x_get C0 hP inu0 (k := 81) cx_81 (by decide) rfl 0 (by decide) q2_25 rfl (v := .ref (g.2.2.1 + 82)) rfl dX0_emit_5 ?_
  refine x_alen C0 hP (k := 82) (Or.inl cx_82) (v := (60 : Int32)) rfl dX0_emit_8 ?_
  refine lv_icmp_ge (tgt := 32) hx hb dX0_emit_9 (by decide) (fun c1 => ?_) (fun c1 => ?_)
  · rw [if_pos c1] at h
    obtain rfl := some1 h
    exact x_vret C0 hP hS dX0_emit_32
  · rw [if_neg c1] at h
    refine lv_aload_n hx hb dX0_emit_12 rfl (lv_at hl 0 rfl) ?_
    refine x_get C0 hP inu0 (k := 81) cx_81 (by decide) rfl 0 (by decide) q2_25 rfl (v := .ref (g.2.2.1 + 82)) rfl dX0_emit_13 ?_
    refine lv_aload_n hx hb dX0_emit_16 rfl (lv_at hl 0 rfl) ?_
    refine x_get C0 hP inu0 (k := 81) cx_81 (by decide) rfl 1 (by decide) q2_27 rfl (v := .int (μ 81 1)) rfl dX0_emit_17 ?_
    refine lv_iload_n hx hb dX0_emit_20 rfl (lv_at hl 1 rfl) ?_
    obtain ⟨z2, h⟩ := gd_some h
    obtain ⟨μ3, e3, h⟩ := lt_some h
    refine x_iast C0 hP hS (k := 82) cx_82 (j := (μ 81 1).toNatClampNeg) z2 rfl dX0_emit_21 (fun H locs hP hS => ?_)
    rw [← e3] at hP
    refine lv_aload_n hx hb dX0_emit_22 rfl (lv_at hl 0 rfl) ?_
    refine lv_dup hx hb dX0_emit_23 rfl ?_
    refine x_get C0 hP inu0 (k := 81) cx_81 (by decide) rfl 1 (by decide) q2_27 rfl (v := .int (μ3 81 1)) rfl dX0_emit_24 ?_
    refine lv_iconst (v := (1 : Int32)) hx hb dX0_emit_27 rfl ?_
    refine lv_iadd hx hb dX0_emit_28 ?_
    obtain ⟨μ4, e4, h⟩ := lt_some h
    refine x_put C0 hP hS inu0 tyX0 tyX0_ok nmX0 (k := 81) cx_81 (by decide) rfl 1 (by decide) q2_27 rfl rfl (v := .int ((μ3 81 1) + (1 : Int32))) (x := ((μ3 81 1) + (1 : Int32))) rfl rfl (Nat.le_of_ble_eq_true rfl) (os_0_1 _ _ _ _) dX0_emit_29 (fun H locs hP hS => ?_)
    rw [← e4] at hP
    obtain rfl := some1 h
    exact x_vret C0 hP hS dX0_emit_32
def X0_isDigit (x0 : Int32) (μ : Mem) : Option (Int32 × Mem) :=
  (if x0 < (48 : Int32) then some ((0 : Int32), μ) else (if (57 : Int32) < x0 then some ((0 : Int32), μ) else some ((1 : Int32), μ)))
set_option maxRecDepth 100000 in
set_option maxHeartbeats 4000000 in
theorem c_X0_isDigit (l : Launch) (g : Gx) (x0 : Int32) (μ : Mem) {r : Int32} {ν : Mem} (h : X0_isDigit x0 μ = some (r, ν)) : Ct Lx g l yX0_isDigit cX0_isDigit 1 (some .boolean) { frames := 0, cells := 0, slots := 0, locals := 0 } [.int x0] μ (some (.int r)) ν := by
  refine x_met (lv := [(0, .int x0)]) rfl (Nat.le_of_ble_eq_true rfl) rfl ?_
  intro p e s m below meth c C0 hP ls hl
  generalize ([.int x0] : List Value).toArray = args at C0 ⊢
  have C0 : Cx Lx g p s m args meth c cX0_isDigit 1 (some .boolean) RX0 := C0
  have hS : va_S (Ax Lx g) s.heap s.heap [] := va_S.rf
  obtain ⟨hx, hb, hr, hml, hown, hts, hlocks, hK⟩ := id C0
  unfold X0_isDigit at h
  skip
  refine lv_iload_n hx hb dX0_isDigit_0 rfl (lv_at hl 0 rfl) ?_
  refine lv_bipush (v := (48 : Int32)) hx hb dX0_isDigit_1 (by decide +kernel) ?_
  refine lv_icmp_lt (tgt := 16) hx hb dX0_isDigit_3 (by decide) (fun c1 => ?_) (fun c1 => ?_)
  · rw [if_pos c1] at h
    refine lv_iconst (v := (0 : Int32)) hx hb dX0_isDigit_16 rfl ?_
    obtain ⟨rfl, rfl⟩ := some2 h
    exact x_zret C0 hP hS (by decide) dX0_isDigit_17
  · rw [if_neg c1] at h
    refine lv_iload_n hx hb dX0_isDigit_6 rfl (lv_at hl 0 rfl) ?_
    refine lv_bipush (v := (57 : Int32)) hx hb dX0_isDigit_7 (by decide +kernel) ?_
    refine lv_icmp_gt (tgt := 16) hx hb dX0_isDigit_9 (by decide) (fun c2 => ?_) (fun c2 => ?_)
    · rw [if_pos c2] at h
      refine lv_iconst (v := (0 : Int32)) hx hb dX0_isDigit_16 rfl ?_
      obtain ⟨rfl, rfl⟩ := some2 h
      exact x_zret C0 hP hS (by decide) dX0_isDigit_17
    · rw [if_neg c2] at h
      refine lv_iconst (v := (1 : Int32)) hx hb dX0_isDigit_12 rfl ?_
      refine lv_goto (tgt := 17) hx hb dX0_isDigit_13 (by decide) ?_
      obtain ⟨rfl, rfl⟩ := some2 h
      exact x_zret C0 hP hS (by decide) dX0_isDigit_17
def X0_readNumber_48  (x1 : Int32) (μ : Mem) : Option Mem :=
  ob (X0_emit x1 μ) fun μ2 => some μ2
set_option maxRecDepth 100000 in
set_option maxHeartbeats 4000000 in
theorem w_X0_readNumber_48 {g : Gx} {p : Program} {l : Launch} {e : Env} {s : State} {m : MethodId} {args : Array Value} {below : List Frame} {meth : Method} {c : Code} (C0 : Cx Lx g p s m args meth c cX0_readNumber 3 none RX0) {ν : Mem}  (x1 : Int32) (μ : Mem) (H : Heap) (locs : List Loc) (ls : Array Slot) (hP : Px Lx g μ H) (hS : va_S (Ax Lx g) s.heap H locs) (hl : lv_has ls 3 [(0, .ref (g.2.2.1 + 81)), (1, .int x1)]) (h : X0_readNumber_48  x1 μ = some ν) : W p l e { frames := 1, cells := 0, slots := 0, locals := 21 } s m args below meth c H locs 0 0 (MQ below (Qx Lx g none ν) args s 0 0 (Ax Lx g)) (F0 m 48 ls []) := by
  obtain ⟨hx, hb, hr, hml, hown, hts, hlocks, hK⟩ := id C0
  unfold X0_readNumber_48 at h
  refine lv_aload_n hx hb dX0_readNumber_48 rfl (lv_at hl 0 rfl) ?_
  refine lv_iload_n hx hb dX0_readNumber_49 rfl (lv_at hl 1 rfl) ?_
  obtain ⟨μ2, h1, h⟩ := ob_some h
  refine x_callV C0 (rest := []) (q := (RX0, TX0, 6)) (c_X0_emit l g x1 μ h1) q3_106 q3_103 q3_105 r1_9 q1_8 hd_X0_emit ⟨rfl, rfl⟩ ⟨Nat.le_of_ble_eq_true rfl, Nat.le_of_ble_eq_true rfl⟩ cx_81 (by decide) rfl hP hS hl.1 rfl rfl (Nat.le_of_ble_eq_true rfl) dX0_readNumber_50 (fun H locs hP hS => ?_)
  refine W.eq (g2 := F0 m 53 ls []) rfl ?_
  obtain rfl := some1 h
  exact x_vret C0 hP hS dX0_readNumber_53
def X0_readNumber_4  : Nat → Int32 → Int32 → Mem → Option Mem
  | 0, _, _, _ => none
  | n + 1, x1, x2, μ => (if (4 : Int32) ≤ x2 then X0_readNumber_48 x1 μ else ob2 (X0_next  μ) fun r3 μ3 => ob2 (X0_isDigit r3 μ3) fun r4 μ4 => (if r4 = (0 : Int32) then X0_readNumber_48 x1 μ4 else ob2 (X0_next  μ4) fun r6 μ6 => lt (st μ6 81 4 ((μ6 81 4) + (1 : Int32))) fun μ7 => (X0_readNumber_4 n) (((x1 * (10 : Int32)) + r6) - (48 : Int32)) (x2 + (1 : Int32)) μ7))
set_option maxRecDepth 100000 in
set_option maxHeartbeats 4000000 in
theorem w_X0_readNumber_4 {g : Gx} {p : Program} {l : Launch} {e : Env} {s : State} {m : MethodId} {args : Array Value} {below : List Frame} {meth : Method} {c : Code} (C0 : Cx Lx g p s m args meth c cX0_readNumber 3 none RX0) {ν : Mem}  (n : Nat) : ∀ (x1 : Int32) (x2 : Int32) (μ : Mem) (H : Heap) (locs : List Loc) (ls : Array Slot), Px Lx g μ H → va_S (Ax Lx g) s.heap H locs → lv_has ls 3 [(0, .ref (g.2.2.1 + 81)), (1, .int x1), (2, .int x2)] → X0_readNumber_4  n x1 x2 μ = some ν → W p l e { frames := 1, cells := 0, slots := 0, locals := 21 } s m args below meth c H locs 0 0 (MQ below (Qx Lx g none ν) args s 0 0 (Ax Lx g)) (F0 m 4 ls []) := by
  obtain ⟨hx, hb, hr, hml, hown, hts, hlocks, hK⟩ := id C0
  induction n with
  | zero =>
    intro x1 x2 μ H locs ls hP hS hl h
    have h : (none : Option Mem) = some ν := h
    cases h
  | succ n ih =>
    intro x1 x2 μ H locs ls hP hS hl h
    rw [X0_readNumber_4.eq_2] at h
    refine lv_iload_n hx hb dX0_readNumber_4 rfl (lv_at hl 2 rfl) ?_
    refine lv_iconst (v := (4 : Int32)) hx hb dX0_readNumber_5 rfl ?_
    refine lv_icmp_ge (tgt := 48) hx hb dX0_readNumber_6 (by decide) (fun c1 => ?_) (fun c1 => ?_)
    · rw [if_pos c1] at h
      exact w_X0_readNumber_48 C0  x1 μ _ _ _ hP hS (lv_sub hl [0, 1] rfl) h
    · rw [if_neg c1] at h
      refine lv_aload_n hx hb dX0_readNumber_9 rfl (lv_at hl 0 rfl) ?_
      obtain ⟨r3, μ3, h1, h⟩ := ob2_some h
      refine x_callV C0 (rest := []) (q := (RX0, TX0, 6)) (c_X0_next l g μ h1) q3_95 q3_92 q3_94 r1_7 q1_8 hd_X0_next ⟨rfl, rfl⟩ ⟨Nat.le_of_ble_eq_true rfl, Nat.le_of_ble_eq_true rfl⟩ cx_81 (by decide) rfl hP hS hl.1 rfl rfl (Nat.le_of_ble_eq_true rfl) dX0_readNumber_10 (fun H locs hP hS => ?_)
      refine W.eq (g2 := F0 m 13 ls [.int r3]) rfl ?_
      obtain ⟨r4, μ4, h1, h⟩ := ob2_some h
      refine x_callS C0 (rest := []) (c_X0_isDigit l g r3 μ3 h1) q3_98 q3_96 q3_97 q1_8 hd_X0_isDigit ⟨rfl, rfl⟩ ⟨Nat.le_of_ble_eq_true rfl, Nat.le_of_ble_eq_true rfl⟩ hP hS hl.1 rfl rfl (Nat.le_of_ble_eq_true rfl) dX0_readNumber_13 (fun H locs hP hS => ?_)
      refine W.eq (g2 := F0 m 16 ls [.int r4]) rfl ?_
      refine lv_if_eq (tgt := 48) hx hb dX0_readNumber_16 (by decide) (fun c5 => ?_) (fun c5 => ?_)
      · rw [if_pos c5] at h
        exact w_X0_readNumber_48 C0  x1 μ4 _ _ _ hP hS (lv_sub hl [0, 1] rfl) h
      · rw [if_neg c5] at h
        refine lv_iload_n hx hb dX0_readNumber_19 rfl (lv_at hl 1 rfl) ?_
        refine lv_bipush (v := (10 : Int32)) hx hb dX0_readNumber_20 (by decide +kernel) ?_
        refine lv_imul hx hb dX0_readNumber_22 ?_
        refine lv_aload_n hx hb dX0_readNumber_23 rfl (lv_at hl 0 rfl) ?_
        obtain ⟨r6, μ6, h1, h⟩ := ob2_some h
        refine x_callV C0 (rest := [.int (x1 * (10 : Int32))]) (q := (RX0, TX0, 6)) (c_X0_next l g μ4 h1) q3_95 q3_92 q3_94 r1_7 q1_8 hd_X0_next ⟨rfl, rfl⟩ ⟨Nat.le_of_ble_eq_true rfl, Nat.le_of_ble_eq_true rfl⟩ cx_81 (by decide) rfl hP hS hl.1 rfl rfl (Nat.le_of_ble_eq_true rfl) dX0_readNumber_24 (fun H locs hP hS => ?_)
        refine W.eq (g2 := F0 m 27 ls [.int r6, .int (x1 * (10 : Int32))]) rfl ?_
        refine lv_iadd hx hb dX0_readNumber_27 ?_
        refine lv_bipush (v := (48 : Int32)) hx hb dX0_readNumber_28 (by decide +kernel) ?_
        refine lv_isub hx hb dX0_readNumber_30 ?_
        refine lv_istore_n (lv' := [(1, .int (((x1 * (10 : Int32)) + r6) - (48 : Int32))), (0, .ref (g.2.2.1 + 81)), (2, .int x2)]) hx hb dX0_readNumber_31 rfl hl (by decide) rfl (fun ls hl => ?_)
        refine lv_aload_n hx hb dX0_readNumber_32 rfl (lv_at hl 1 rfl) ?_
        refine lv_dup hx hb dX0_readNumber_33 rfl ?_
        refine x_get C0 hP inu0 (k := 81) cx_81 (by decide) rfl 4 (by decide) q2_31 rfl (v := .int (μ6 81 4)) rfl dX0_readNumber_34 ?_
        refine lv_iconst (v := (1 : Int32)) hx hb dX0_readNumber_37 rfl ?_
        refine lv_iadd hx hb dX0_readNumber_38 ?_
        obtain ⟨μ7, e7, h⟩ := lt_some h
        refine x_put C0 hP hS inu0 tyX0 tyX0_ok nmX0 (k := 81) cx_81 (by decide) rfl 4 (by decide) q2_31 rfl rfl (v := .int ((μ6 81 4) + (1 : Int32))) (x := ((μ6 81 4) + (1 : Int32))) rfl rfl (Nat.le_of_ble_eq_true rfl) (os_0_4 _ _ _ _) dX0_readNumber_39 (fun H locs hP hS => ?_)
        rw [← e7] at hP
        refine lv_iinc (v := (x2 + (1 : Int32))) (lv' := [(2, .int (x2 + (1 : Int32))), (1, .int (((x1 * (10 : Int32)) + r6) - (48 : Int32))), (0, .ref (g.2.2.1 + 81))]) hx hb dX0_readNumber_42 hl (k := 2) rfl rfl (by decide) rfl (fun ls hl => ?_)
        refine lv_goto (tgt := 4) hx hb dX0_readNumber_45 (by decide) ?_
        exact ih (((x1 * (10 : Int32)) + r6) - (48 : Int32)) (x2 + (1 : Int32)) μ7 _ _ _ hP hS (lv_sub hl [2, 1, 0] rfl) h
def X0_readNumber  (μ : Mem) : Option Mem :=
  X0_readNumber_4 FU (0 : Int32) (0 : Int32) μ
set_option maxRecDepth 100000 in
set_option maxHeartbeats 4000000 in
theorem c_X0_readNumber (l : Launch) (g : Gx)  (μ : Mem) {ν : Mem} (h : X0_readNumber  μ = some ν) : Ct Lx g l yX0_readNumber cX0_readNumber 3 none { frames := 1, cells := 0, slots := 0, locals := 21 } [.ref (g.2.2.1 + 81)] μ none ν := by
  refine x_met (lv := [(0, .ref (g.2.2.1 + 81))]) rfl (Nat.le_of_ble_eq_true rfl) rfl ?_
  intro p e s m below meth c C0 hP ls hl
  generalize ([.ref (g.2.2.1 + 81)] : List Value).toArray = args at C0 ⊢
  have C0 : Cx Lx g p s m args meth c cX0_readNumber 3 none RX0 := C0
  have hS : va_S (Ax Lx g) s.heap s.heap [] := va_S.rf
  obtain ⟨hx, hb, hr, hml, hown, hts, hlocks, hK⟩ := id C0
  unfold X0_readNumber at h
  skip
  refine lv_iconst (v := (0 : Int32)) hx hb dX0_readNumber_0 rfl ?_
  refine lv_istore_n (lv' := [(1, .int (0 : Int32)), (0, .ref (g.2.2.1 + 81))]) hx hb dX0_readNumber_1 rfl hl (by decide) rfl (fun ls hl => ?_)
  refine lv_iconst (v := (0 : Int32)) hx hb dX0_readNumber_2 rfl ?_
  refine lv_istore_n (lv' := [(2, .int (0 : Int32)), (1, .int (0 : Int32)), (0, .ref (g.2.2.1 + 81))]) hx hb dX0_readNumber_3 rfl hl (by decide) rfl (fun ls hl => ?_)
  exact w_X0_readNumber_4 C0  FU (0 : Int32) (0 : Int32) μ _ _ _ hP hS (lv_sub hl [2, 1, 0] rfl) h
def X0_isName (x0 : Int32) (μ : Mem) : Option (Int32 × Mem) :=
  (if x0 = (104 : Int32) then some ((1 : Int32), μ) else (if x0 = (100 : Int32) then some ((1 : Int32), μ) else (if x0 = (117 : Int32) then some ((1 : Int32), μ) else (if x0 = (107 : Int32) then some ((1 : Int32), μ) else (if x0 = (111 : Int32) then some ((1 : Int32), μ) else (if x0 = (99 : Int32) then some ((1 : Int32), μ) else (if x0 = (110 : Int32) then some ((1 : Int32), μ) else some ((0 : Int32), μ))))))))
set_option maxRecDepth 100000 in
set_option maxHeartbeats 4000000 in
theorem c_X0_isName (l : Launch) (g : Gx) (x0 : Int32) (μ : Mem) {r : Int32} {ν : Mem} (h : X0_isName x0 μ = some (r, ν)) : Ct Lx g l yX0_isName cX0_isName 1 (some .boolean) { frames := 0, cells := 0, slots := 0, locals := 0 } [.int x0] μ (some (.int r)) ν := by
  refine x_met (lv := [(0, .int x0)]) rfl (Nat.le_of_ble_eq_true rfl) rfl ?_
  intro p e s m below meth c C0 hP ls hl
  generalize ([.int x0] : List Value).toArray = args at C0 ⊢
  have C0 : Cx Lx g p s m args meth c cX0_isName 1 (some .boolean) RX0 := C0
  have hS : va_S (Ax Lx g) s.heap s.heap [] := va_S.rf
  obtain ⟨hx, hb, hr, hml, hown, hts, hlocks, hK⟩ := id C0
  unfold X0_isName at h
  skip
  refine lv_iload_n hx hb dX0_isName_0 rfl (lv_at hl 0 rfl) ?_
  refine lv_bipush (v := (104 : Int32)) hx hb dX0_isName_1 (by decide +kernel) ?_
  refine lv_icmp_eq (tgt := 42) hx hb dX0_isName_3 (by decide) (fun c1 => ?_) (fun c1 => ?_)
  · rw [if_pos c1] at h
    refine lv_iconst (v := (1 : Int32)) hx hb dX0_isName_42 rfl ?_
    refine lv_goto (tgt := 47) hx hb dX0_isName_43 (by decide) ?_
    obtain ⟨rfl, rfl⟩ := some2 h
    exact x_zret C0 hP hS (by decide) dX0_isName_47
  · rw [if_neg c1] at h
    refine lv_iload_n hx hb dX0_isName_6 rfl (lv_at hl 0 rfl) ?_
    refine lv_bipush (v := (100 : Int32)) hx hb dX0_isName_7 (by decide +kernel) ?_
    refine lv_icmp_eq (tgt := 42) hx hb dX0_isName_9 (by decide) (fun c2 => ?_) (fun c2 => ?_)
    · rw [if_pos c2] at h
      refine lv_iconst (v := (1 : Int32)) hx hb dX0_isName_42 rfl ?_
      refine lv_goto (tgt := 47) hx hb dX0_isName_43 (by decide) ?_
      obtain ⟨rfl, rfl⟩ := some2 h
      exact x_zret C0 hP hS (by decide) dX0_isName_47
    · rw [if_neg c2] at h
      refine lv_iload_n hx hb dX0_isName_12 rfl (lv_at hl 0 rfl) ?_
      refine lv_bipush (v := (117 : Int32)) hx hb dX0_isName_13 (by decide +kernel) ?_
      refine lv_icmp_eq (tgt := 42) hx hb dX0_isName_15 (by decide) (fun c3 => ?_) (fun c3 => ?_)
      · rw [if_pos c3] at h
        refine lv_iconst (v := (1 : Int32)) hx hb dX0_isName_42 rfl ?_
        refine lv_goto (tgt := 47) hx hb dX0_isName_43 (by decide) ?_
        obtain ⟨rfl, rfl⟩ := some2 h
        exact x_zret C0 hP hS (by decide) dX0_isName_47
      · rw [if_neg c3] at h
        refine lv_iload_n hx hb dX0_isName_18 rfl (lv_at hl 0 rfl) ?_
        refine lv_bipush (v := (107 : Int32)) hx hb dX0_isName_19 (by decide +kernel) ?_
        refine lv_icmp_eq (tgt := 42) hx hb dX0_isName_21 (by decide) (fun c4 => ?_) (fun c4 => ?_)
        · rw [if_pos c4] at h
          refine lv_iconst (v := (1 : Int32)) hx hb dX0_isName_42 rfl ?_
          refine lv_goto (tgt := 47) hx hb dX0_isName_43 (by decide) ?_
          obtain ⟨rfl, rfl⟩ := some2 h
          exact x_zret C0 hP hS (by decide) dX0_isName_47
        · rw [if_neg c4] at h
          refine lv_iload_n hx hb dX0_isName_24 rfl (lv_at hl 0 rfl) ?_
          refine lv_bipush (v := (111 : Int32)) hx hb dX0_isName_25 (by decide +kernel) ?_
          refine lv_icmp_eq (tgt := 42) hx hb dX0_isName_27 (by decide) (fun c5 => ?_) (fun c5 => ?_)
          · rw [if_pos c5] at h
            refine lv_iconst (v := (1 : Int32)) hx hb dX0_isName_42 rfl ?_
            refine lv_goto (tgt := 47) hx hb dX0_isName_43 (by decide) ?_
            obtain ⟨rfl, rfl⟩ := some2 h
            exact x_zret C0 hP hS (by decide) dX0_isName_47
          · rw [if_neg c5] at h
            refine lv_iload_n hx hb dX0_isName_30 rfl (lv_at hl 0 rfl) ?_
            refine lv_bipush (v := (99 : Int32)) hx hb dX0_isName_31 (by decide +kernel) ?_
            refine lv_icmp_eq (tgt := 42) hx hb dX0_isName_33 (by decide) (fun c6 => ?_) (fun c6 => ?_)
            · rw [if_pos c6] at h
              refine lv_iconst (v := (1 : Int32)) hx hb dX0_isName_42 rfl ?_
              refine lv_goto (tgt := 47) hx hb dX0_isName_43 (by decide) ?_
              obtain ⟨rfl, rfl⟩ := some2 h
              exact x_zret C0 hP hS (by decide) dX0_isName_47
            · rw [if_neg c6] at h
              refine lv_iload_n hx hb dX0_isName_36 rfl (lv_at hl 0 rfl) ?_
              refine lv_bipush (v := (110 : Int32)) hx hb dX0_isName_37 (by decide +kernel) ?_
              refine lv_icmp_ne (tgt := 46) hx hb dX0_isName_39 (by decide) (fun c7 => ?_) (fun c7 => ?_)
              · rw [if_neg c7] at h
                refine lv_iconst (v := (0 : Int32)) hx hb dX0_isName_46 rfl ?_
                obtain ⟨rfl, rfl⟩ := some2 h
                exact x_zret C0 hP hS (by decide) dX0_isName_47
              · rw [if_pos c7] at h
                refine lv_iconst (v := (1 : Int32)) hx hb dX0_isName_42 rfl ?_
                refine lv_goto (tgt := 47) hx hb dX0_isName_43 (by decide) ?_
                obtain ⟨rfl, rfl⟩ := some2 h
                exact x_zret C0 hP hS (by decide) dX0_isName_47
def X0_fail  (μ : Mem) : Option Mem :=
  (if (0 : Int32) ≤ (μ 81 5) then some μ else lt (st μ 81 5 (μ 81 4)) fun μ2 => some μ2)
set_option maxRecDepth 100000 in
set_option maxHeartbeats 4000000 in
theorem c_X0_fail (l : Launch) (g : Gx)  (μ : Mem) {ν : Mem} (h : X0_fail  μ = some ν) : Ct Lx g l yX0_fail cX0_fail 1 none { frames := 0, cells := 0, slots := 0, locals := 0 } [.ref (g.2.2.1 + 81)] μ none ν := by
  refine x_met (lv := [(0, .ref (g.2.2.1 + 81))]) rfl (Nat.le_of_ble_eq_true rfl) rfl ?_
  intro p e s m below meth c C0 hP ls hl
  generalize ([.ref (g.2.2.1 + 81)] : List Value).toArray = args at C0 ⊢
  have C0 : Cx Lx g p s m args meth c cX0_fail 1 none RX0 := C0
  have hS : va_S (Ax Lx g) s.heap s.heap [] := va_S.rf
  obtain ⟨hx, hb, hr, hml, hown, hts, hlocks, hK⟩ := id C0
  unfold X0_fail at h
  skip
  refine lv_aload_n hx hb dX0_fail_0 rfl (lv_at hl 0 rfl) ?_
  refine x_get C0 hP inu0 (k := 81) cx_81 (by decide) rfl 5 (by decide) q2_32 rfl (v := .int (μ 81 5)) rfl dX0_fail_1 ?_
  refine lv_if_ge (tgt := 15) hx hb dX0_fail_4 (by decide) (fun c1 => ?_) (fun c1 => ?_)
  · rw [if_pos c1] at h
    obtain rfl := some1 h
    exact x_vret C0 hP hS dX0_fail_15
  · rw [if_neg c1] at h
    refine lv_aload_n hx hb dX0_fail_7 rfl (lv_at hl 0 rfl) ?_
    refine lv_aload_n hx hb dX0_fail_8 rfl (lv_at hl 0 rfl) ?_
    refine x_get C0 hP inu0 (k := 81) cx_81 (by decide) rfl 4 (by decide) q2_31 rfl (v := .int (μ 81 4)) rfl dX0_fail_9 ?_
    obtain ⟨μ2, e2, h⟩ := lt_some h
    refine x_put C0 hP hS inu0 tyX0 tyX0_ok nmX0 (k := 81) cx_81 (by decide) rfl 5 (by decide) q2_32 rfl rfl (v := .int (μ 81 4)) (x := (μ 81 4)) rfl rfl (Nat.le_of_ble_eq_true rfl) (os_0_5 _ _ _ _) dX0_fail_12 (fun H locs hP hS => ?_)
    rw [← e2] at hP
    obtain rfl := some1 h
    exact x_vret C0 hP hS dX0_fail_15
def X0_readClosing  (μ : Mem) : Option Mem :=
  ob2 (X0_next  μ) fun r1 μ1 => (if r1 = (41 : Int32) then lt (st μ1 81 4 ((μ1 81 4) + (1 : Int32))) fun μ4 => some μ4 else ob (X0_fail  μ1) fun μ3 => some μ3)
set_option maxRecDepth 100000 in
set_option maxHeartbeats 4000000 in
theorem c_X0_readClosing (l : Launch) (g : Gx)  (μ : Mem) {ν : Mem} (h : X0_readClosing  μ = some ν) : Ct Lx g l yX0_readClosing cX0_readClosing 1 none { frames := 1, cells := 0, slots := 0, locals := 20 } [.ref (g.2.2.1 + 81)] μ none ν := by
  refine x_met (lv := [(0, .ref (g.2.2.1 + 81))]) rfl (Nat.le_of_ble_eq_true rfl) rfl ?_
  intro p e s m below meth c C0 hP ls hl
  generalize ([.ref (g.2.2.1 + 81)] : List Value).toArray = args at C0 ⊢
  have C0 : Cx Lx g p s m args meth c cX0_readClosing 1 none RX0 := C0
  have hS : va_S (Ax Lx g) s.heap s.heap [] := va_S.rf
  obtain ⟨hx, hb, hr, hml, hown, hts, hlocks, hK⟩ := id C0
  unfold X0_readClosing at h
  skip
  refine lv_aload_n hx hb dX0_readClosing_0 rfl (lv_at hl 0 rfl) ?_
  obtain ⟨r1, μ1, h1, h⟩ := ob2_some h
  refine x_callV C0 (rest := []) (q := (RX0, TX0, 6)) (c_X0_next l g μ h1) q3_95 q3_92 q3_94 r1_7 q1_8 hd_X0_next ⟨rfl, rfl⟩ ⟨Nat.le_of_ble_eq_true rfl, Nat.le_of_ble_eq_true rfl⟩ cx_81 (by decide) rfl hP hS hl.1 rfl rfl (Nat.le_of_ble_eq_true rfl) dX0_readClosing_1 (fun H locs hP hS => ?_)
  refine W.eq (g2 := F0 m 4 ls [.int r1]) rfl ?_
  refine lv_bipush (v := (41 : Int32)) hx hb dX0_readClosing_4 (by decide +kernel) ?_
  refine lv_icmp_ne (tgt := 22) hx hb dX0_readClosing_6 (by decide) (fun c2 => ?_) (fun c2 => ?_)
  · rw [if_neg c2] at h
    refine lv_aload_n hx hb dX0_readClosing_22 rfl (lv_at hl 0 rfl) ?_
    obtain ⟨μ3, h1, h⟩ := ob_some h
    refine x_callV C0 (rest := []) (q := (RX0, TX0, 6)) (c_X0_fail l g μ1 h1) q3_117 q3_114 q3_116 r1_11 q1_8 hd_X0_fail ⟨rfl, rfl⟩ ⟨Nat.le_of_ble_eq_true rfl, Nat.le_of_ble_eq_true rfl⟩ cx_81 (by decide) rfl hP hS hl.1 rfl rfl (Nat.le_of_ble_eq_true rfl) dX0_readClosing_23 (fun H locs hP hS => ?_)
    refine W.eq (g2 := F0 m 26 ls []) rfl ?_
    obtain rfl := some1 h
    exact x_vret C0 hP hS dX0_readClosing_26
  · rw [if_pos c2] at h
    refine lv_aload_n hx hb dX0_readClosing_9 rfl (lv_at hl 0 rfl) ?_
    refine lv_dup hx hb dX0_readClosing_10 rfl ?_
    refine x_get C0 hP inu0 (k := 81) cx_81 (by decide) rfl 4 (by decide) q2_31 rfl (v := .int (μ1 81 4)) rfl dX0_readClosing_11 ?_
    refine lv_iconst (v := (1 : Int32)) hx hb dX0_readClosing_14 rfl ?_
    refine lv_iadd hx hb dX0_readClosing_15 ?_
    obtain ⟨μ4, e4, h⟩ := lt_some h
    refine x_put C0 hP hS inu0 tyX0 tyX0_ok nmX0 (k := 81) cx_81 (by decide) rfl 4 (by decide) q2_31 rfl rfl (v := .int ((μ1 81 4) + (1 : Int32))) (x := ((μ1 81 4) + (1 : Int32))) rfl rfl (Nat.le_of_ble_eq_true rfl) (os_0_4 _ _ _ _) dX0_readClosing_16 (fun H locs hP hS => ?_)
    rw [← e4] at hP
    refine lv_goto (tgt := 26) hx hb dX0_readClosing_19 (by decide) ?_
    obtain rfl := some1 h
    exact x_vret C0 hP hS dX0_readClosing_26
def X0_readProduct_31 (S : Int32 → Mem → Option Mem) (K7 : Int32 → Int32 → Mem → Option Mem) (x1 : Int32) (x2 : Int32) (μ : Mem) : Option Mem :=
  ob2 (X0_next  μ) fun r5 μ5 => lt (st μ5 81 4 ((μ5 81 4) + (1 : Int32))) fun μ6 => ob (S x1 μ6) fun μ7 => ob (X0_emit (-r5) μ7) fun μ8 => K7 x1 (x2 + (1 : Int32)) μ8
set_option maxRecDepth 100000 in
set_option maxHeartbeats 4000000 in
theorem w_X0_readProduct_31 {g : Gx} {p : Program} {l : Launch} {e : Env} {s : State} {m : MethodId} {args : Array Value} {below : List Frame} {meth : Method} {c : Code} (C0 : Cx Lx g p s m args meth c cX0_readProduct 4 none RX0) {ν : Mem} (S : Int32 → Mem → Option Mem) {F Lo : Nat} (hS0 : ∀ (x1 : Int32) (μ : Mem) (ν : Mem), S x1 μ = some ν → Ct Lx g l yX0_readSingle cX0_readSingle 3 none { frames := F, cells := 0, slots := 0, locals := Lo } [.ref (g.2.2.1 + 81), .int x1] μ none ν) (K7 : Int32 → Int32 → Mem → Option Mem) (hK7 : ∀ (x1 : Int32) (x2 : Int32) (μ : Mem) (H : Heap) (locs : List Loc) (ls : Array Slot), Px Lx g μ H → va_S (Ax Lx g) s.heap H locs → lv_has ls 4 [(0, .ref (g.2.2.1 + 81)), (1, .int x1), (2, .int x2)] → K7 x1 x2 μ = some ν → W p l e { frames := F + 1, cells := 0, slots := 0, locals := Lo + 22 } s m args below meth c H locs 0 0 (MQ below (Qx Lx g none ν) args s 0 0 (Ax Lx g)) (F0 m 7 ls [])) (x1 : Int32) (x2 : Int32) (μ : Mem) (H : Heap) (locs : List Loc) (ls : Array Slot) (hP : Px Lx g μ H) (hS : va_S (Ax Lx g) s.heap H locs) (hl : lv_has ls 4 [(0, .ref (g.2.2.1 + 81)), (1, .int x1), (2, .int x2)]) (h : X0_readProduct_31 S K7 x1 x2 μ = some ν) : W p l e { frames := F + 1, cells := 0, slots := 0, locals := Lo + 22 } s m args below meth c H locs 0 0 (MQ below (Qx Lx g none ν) args s 0 0 (Ax Lx g)) (F0 m 31 ls []) := by
  obtain ⟨hx, hb, hr, hml, hown, hts, hlocks, hK⟩ := id C0
  unfold X0_readProduct_31 at h
  refine lv_aload_n hx hb dX0_readProduct_31 rfl (lv_at hl 0 rfl) ?_
  obtain ⟨r5, μ5, h1, h⟩ := ob2_some h
  refine x_callV C0 (rest := []) (q := (RX0, TX0, 6)) (c_X0_next l g μ h1) q3_95 q3_92 q3_94 r1_7 q1_8 hd_X0_next ⟨rfl, rfl⟩ ⟨by dsimp only; omega, by dsimp only; omega⟩ cx_81 (by decide) rfl hP hS hl.1 rfl rfl (Nat.le_of_ble_eq_true rfl) dX0_readProduct_32 (fun H locs hP hS => ?_)
  refine W.eq (g2 := F0 m 35 ls [.int r5]) rfl ?_
  refine lv_istore_n (lv' := [(3, .int r5), (0, .ref (g.2.2.1 + 81)), (1, .int x1), (2, .int x2)]) hx hb dX0_readProduct_35 rfl hl (by decide) rfl (fun ls hl => ?_)
  refine lv_aload_n hx hb dX0_readProduct_36 rfl (lv_at hl 1 rfl) ?_
  refine lv_dup hx hb dX0_readProduct_37 rfl ?_
  refine x_get C0 hP inu0 (k := 81) cx_81 (by decide) rfl 4 (by decide) q2_31 rfl (v := .int (μ5 81 4)) rfl dX0_readProduct_38 ?_
  refine lv_iconst (v := (1 : Int32)) hx hb dX0_readProduct_41 rfl ?_
  refine lv_iadd hx hb dX0_readProduct_42 ?_
  obtain ⟨μ6, e6, h⟩ := lt_some h
  refine x_put C0 hP hS inu0 tyX0 tyX0_ok nmX0 (k := 81) cx_81 (by decide) rfl 4 (by decide) q2_31 rfl rfl (v := .int ((μ5 81 4) + (1 : Int32))) (x := ((μ5 81 4) + (1 : Int32))) rfl rfl (Nat.le_of_ble_eq_true rfl) (os_0_4 _ _ _ _) dX0_readProduct_43 (fun H locs hP hS => ?_)
  rw [← e6] at hP
  refine lv_aload_n hx hb dX0_readProduct_46 rfl (lv_at hl 1 rfl) ?_
  refine lv_iload_n hx hb dX0_readProduct_47 rfl (lv_at hl 2 rfl) ?_
  obtain ⟨μ7, h1, h⟩ := ob_some h
  refine x_callV C0 (rest := []) (q := (RX0, TX0, 6)) (hS0 x1 μ6 _ h1) q3_91 q3_88 q3_90 r1_6 q1_8 hd_X0_readSingle ⟨rfl, rfl⟩ ⟨by dsimp only; omega, by dsimp only; omega⟩ cx_81 (by decide) rfl hP hS hl.1 rfl rfl (Nat.le_of_ble_eq_true rfl) dX0_readProduct_48 (fun H locs hP hS => ?_)
  refine W.eq (g2 := F0 m 51 ls []) rfl ?_
  refine lv_aload_n hx hb dX0_readProduct_51 rfl (lv_at hl 1 rfl) ?_
  refine lv_iload_n hx hb dX0_readProduct_52 rfl (lv_at hl 0 rfl) ?_
  refine lv_ineg hx hb dX0_readProduct_53 ?_
  obtain ⟨μ8, h1, h⟩ := ob_some h
  refine x_callV C0 (rest := []) (q := (RX0, TX0, 6)) (c_X0_emit l g (-r5) μ7 h1) q3_106 q3_103 q3_105 r1_9 q1_8 hd_X0_emit ⟨rfl, rfl⟩ ⟨by dsimp only; omega, by dsimp only; omega⟩ cx_81 (by decide) rfl hP hS hl.1 rfl rfl (Nat.le_of_ble_eq_true rfl) dX0_readProduct_54 (fun H locs hP hS => ?_)
  refine W.eq (g2 := F0 m 57 ls []) rfl ?_
  refine lv_iinc (v := (x2 + (1 : Int32))) (lv' := [(2, .int (x2 + (1 : Int32))), (3, .int r5), (0, .ref (g.2.2.1 + 81)), (1, .int x1)]) hx hb dX0_readProduct_57 hl (k := 3) rfl rfl (by decide) rfl (fun ls hl => ?_)
  refine lv_goto (tgt := 7) hx hb dX0_readProduct_60 (by decide) ?_
  exact hK7 x1 (x2 + (1 : Int32)) μ8 _ _ _ hP hS (lv_sub hl [2, 3, 0] rfl) h
def X0_readProduct_7 (S : Int32 → Mem → Option Mem)  : Nat → Int32 → Int32 → Mem → Option Mem
  | 0, _, _, _ => none
  | n + 1, x1, x2, μ => (if (60 : Int32) ≤ x2 then some μ else ob2 (X0_next  μ) fun r3 μ3 => (if r3 = (42 : Int32) then X0_readProduct_31 S (X0_readProduct_7 S n) x1 x2 μ3 else ob2 (X0_next  μ3) fun r9 μ9 => (if r9 = (47 : Int32) then X0_readProduct_31 S (X0_readProduct_7 S n) x1 x2 μ9 else some μ9)))
set_option maxRecDepth 100000 in
set_option maxHeartbeats 4000000 in
theorem w_X0_readProduct_7 {g : Gx} {p : Program} {l : Launch} {e : Env} {s : State} {m : MethodId} {args : Array Value} {below : List Frame} {meth : Method} {c : Code} (C0 : Cx Lx g p s m args meth c cX0_readProduct 4 none RX0) {ν : Mem} (S : Int32 → Mem → Option Mem) {F Lo : Nat} (hS0 : ∀ (x1 : Int32) (μ : Mem) (ν : Mem), S x1 μ = some ν → Ct Lx g l yX0_readSingle cX0_readSingle 3 none { frames := F, cells := 0, slots := 0, locals := Lo } [.ref (g.2.2.1 + 81), .int x1] μ none ν)  (n : Nat) : ∀ (x1 : Int32) (x2 : Int32) (μ : Mem) (H : Heap) (locs : List Loc) (ls : Array Slot), Px Lx g μ H → va_S (Ax Lx g) s.heap H locs → lv_has ls 4 [(0, .ref (g.2.2.1 + 81)), (1, .int x1), (2, .int x2)] → X0_readProduct_7 S  n x1 x2 μ = some ν → W p l e { frames := F + 1, cells := 0, slots := 0, locals := Lo + 22 } s m args below meth c H locs 0 0 (MQ below (Qx Lx g none ν) args s 0 0 (Ax Lx g)) (F0 m 7 ls []) := by
  obtain ⟨hx, hb, hr, hml, hown, hts, hlocks, hK⟩ := id C0
  induction n with
  | zero =>
    intro x1 x2 μ H locs ls hP hS hl h
    have h : (none : Option Mem) = some ν := h
    cases h
  | succ n ih =>
    intro x1 x2 μ H locs ls hP hS hl h
    rw [X0_readProduct_7.eq_2] at h
    refine lv_iload_n hx hb dX0_readProduct_7 rfl (lv_at hl 2 rfl) ?_
    refine lv_bipush (v := (60 : Int32)) hx hb dX0_readProduct_8 (by decide +kernel) ?_
    refine lv_icmp_ge (tgt := 63) hx hb dX0_readProduct_10 (by decide) (fun c2 => ?_) (fun c2 => ?_)
    · rw [if_pos c2] at h
      obtain rfl := some1 h
      exact x_vret C0 hP hS dX0_readProduct_63
    · rw [if_neg c2] at h
      refine lv_aload_n hx hb dX0_readProduct_13 rfl (lv_at hl 0 rfl) ?_
      obtain ⟨r3, μ3, h1, h⟩ := ob2_some h
      refine x_callV C0 (rest := []) (q := (RX0, TX0, 6)) (c_X0_next l g μ h1) q3_95 q3_92 q3_94 r1_7 q1_8 hd_X0_next ⟨rfl, rfl⟩ ⟨by dsimp only; omega, by dsimp only; omega⟩ cx_81 (by decide) rfl hP hS hl.1 rfl rfl (Nat.le_of_ble_eq_true rfl) dX0_readProduct_14 (fun H locs hP hS => ?_)
      refine W.eq (g2 := F0 m 17 ls [.int r3]) rfl ?_
      refine lv_bipush (v := (42 : Int32)) hx hb dX0_readProduct_17 (by decide +kernel) ?_
      refine lv_icmp_eq (tgt := 31) hx hb dX0_readProduct_19 (by decide) (fun c4 => ?_) (fun c4 => ?_)
      · rw [if_pos c4] at h
        exact w_X0_readProduct_31 C0 S hS0 (X0_readProduct_7 S  n) ih x1 x2 μ3 _ _ _ hP hS (lv_sub hl [0, 1, 2] rfl) h
      · rw [if_neg c4] at h
        refine lv_aload_n hx hb dX0_readProduct_22 rfl (lv_at hl 0 rfl) ?_
        obtain ⟨r9, μ9, h1, h⟩ := ob2_some h
        refine x_callV C0 (rest := []) (q := (RX0, TX0, 6)) (c_X0_next l g μ3 h1) q3_95 q3_92 q3_94 r1_7 q1_8 hd_X0_next ⟨rfl, rfl⟩ ⟨by dsimp only; omega, by dsimp only; omega⟩ cx_81 (by decide) rfl hP hS hl.1 rfl rfl (Nat.le_of_ble_eq_true rfl) dX0_readProduct_23 (fun H locs hP hS => ?_)
        refine W.eq (g2 := F0 m 26 ls [.int r9]) rfl ?_
        refine lv_bipush (v := (47 : Int32)) hx hb dX0_readProduct_26 (by decide +kernel) ?_
        refine lv_icmp_ne (tgt := 63) hx hb dX0_readProduct_28 (by decide) (fun c10 => ?_) (fun c10 => ?_)
        · rw [if_neg c10] at h
          obtain rfl := some1 h
          exact x_vret C0 hP hS dX0_readProduct_63
        · rw [if_pos c10] at h
          exact w_X0_readProduct_31 C0 S hS0 (X0_readProduct_7 S  n) ih x1 x2 μ9 _ _ _ hP hS (lv_sub hl [0, 1, 2] rfl) h
def X0_readProduct (S : Int32 → Mem → Option Mem) (x1 : Int32) (μ : Mem) : Option Mem :=
  ob (S x1 μ) fun μ1 => X0_readProduct_7 S FU x1 (0 : Int32) μ1
set_option maxRecDepth 100000 in
set_option maxHeartbeats 4000000 in
theorem c_X0_readProduct (l : Launch) (g : Gx) (S : Int32 → Mem → Option Mem) {F Lo : Nat} (hS0 : ∀ (x1 : Int32) (μ : Mem) (ν : Mem), S x1 μ = some ν → Ct Lx g l yX0_readSingle cX0_readSingle 3 none { frames := F, cells := 0, slots := 0, locals := Lo } [.ref (g.2.2.1 + 81), .int x1] μ none ν) (x1 : Int32) (μ : Mem) {ν : Mem} (h : X0_readProduct S x1 μ = some ν) : Ct Lx g l yX0_readProduct cX0_readProduct 4 none { frames := F + 1, cells := 0, slots := 0, locals := Lo + 22 } [.ref (g.2.2.1 + 81), .int x1] μ none ν := by
  refine x_met (lv := [(0, .ref (g.2.2.1 + 81)), (1, .int x1)]) rfl (Nat.le_of_ble_eq_true rfl) rfl ?_
  intro p e s m below meth c C0 hP ls hl
  generalize ([.ref (g.2.2.1 + 81), .int x1] : List Value).toArray = args at C0 ⊢
  have C0 : Cx Lx g p s m args meth c cX0_readProduct 4 none RX0 := C0
  have hS : va_S (Ax Lx g) s.heap s.heap [] := va_S.rf
  obtain ⟨hx, hb, hr, hml, hown, hts, hlocks, hK⟩ := id C0
  unfold X0_readProduct at h
  skip
  refine lv_aload_n hx hb dX0_readProduct_0 rfl (lv_at hl 0 rfl) ?_
  refine lv_iload_n hx hb dX0_readProduct_1 rfl (lv_at hl 1 rfl) ?_
  obtain ⟨μ1, h1, h⟩ := ob_some h
  refine x_callV C0 (rest := []) (q := (RX0, TX0, 6)) (hS0 x1 μ _ h1) q3_91 q3_88 q3_90 r1_6 q1_8 hd_X0_readSingle ⟨rfl, rfl⟩ ⟨by dsimp only; omega, by dsimp only; omega⟩ cx_81 (by decide) rfl hP hS hl.1 rfl rfl (Nat.le_of_ble_eq_true rfl) dX0_readProduct_2 (fun H locs hP hS => ?_)
  refine W.eq (g2 := F0 m 5 ls []) rfl ?_
  refine lv_iconst (v := (0 : Int32)) hx hb dX0_readProduct_5 rfl ?_
  refine lv_istore_n (lv' := [(2, .int (0 : Int32)), (0, .ref (g.2.2.1 + 81)), (1, .int x1)]) hx hb dX0_readProduct_6 rfl hl (by decide) rfl (fun ls hl => ?_)
  exact w_X0_readProduct_7 C0 S hS0  FU x1 (0 : Int32) μ1 _ _ _ hP hS (lv_sub hl [1, 2, 0] rfl) h
def X0_readSum_31 (S : Int32 → Mem → Option Mem) (K7 : Int32 → Int32 → Mem → Option Mem) (x1 : Int32) (x2 : Int32) (μ : Mem) : Option Mem :=
  ob2 (X0_next  μ) fun r5 μ5 => lt (st μ5 81 4 ((μ5 81 4) + (1 : Int32))) fun μ6 => ob (X0_readProduct S x1 μ6) fun μ7 => ob (X0_emit (-r5) μ7) fun μ8 => K7 x1 (x2 + (1 : Int32)) μ8
set_option maxRecDepth 100000 in
set_option maxHeartbeats 4000000 in
theorem w_X0_readSum_31 {g : Gx} {p : Program} {l : Launch} {e : Env} {s : State} {m : MethodId} {args : Array Value} {below : List Frame} {meth : Method} {c : Code} (C0 : Cx Lx g p s m args meth c cX0_readSum 4 none RX0) {ν : Mem} (S : Int32 → Mem → Option Mem) {F Lo : Nat} (hS0 : ∀ (x1 : Int32) (μ : Mem) (ν : Mem), S x1 μ = some ν → Ct Lx g l yX0_readSingle cX0_readSingle 3 none { frames := F, cells := 0, slots := 0, locals := Lo } [.ref (g.2.2.1 + 81), .int x1] μ none ν) (K7 : Int32 → Int32 → Mem → Option Mem) (hK7 : ∀ (x1 : Int32) (x2 : Int32) (μ : Mem) (H : Heap) (locs : List Loc) (ls : Array Slot), Px Lx g μ H → va_S (Ax Lx g) s.heap H locs → lv_has ls 4 [(0, .ref (g.2.2.1 + 81)), (1, .int x1), (2, .int x2)] → K7 x1 x2 μ = some ν → W p l e { frames := F + 2, cells := 0, slots := 0, locals := Lo + 45 } s m args below meth c H locs 0 0 (MQ below (Qx Lx g none ν) args s 0 0 (Ax Lx g)) (F0 m 7 ls [])) (x1 : Int32) (x2 : Int32) (μ : Mem) (H : Heap) (locs : List Loc) (ls : Array Slot) (hP : Px Lx g μ H) (hS : va_S (Ax Lx g) s.heap H locs) (hl : lv_has ls 4 [(0, .ref (g.2.2.1 + 81)), (1, .int x1), (2, .int x2)]) (h : X0_readSum_31 S K7 x1 x2 μ = some ν) : W p l e { frames := F + 2, cells := 0, slots := 0, locals := Lo + 45 } s m args below meth c H locs 0 0 (MQ below (Qx Lx g none ν) args s 0 0 (Ax Lx g)) (F0 m 31 ls []) := by
  obtain ⟨hx, hb, hr, hml, hown, hts, hlocks, hK⟩ := id C0
  unfold X0_readSum_31 at h
  refine lv_aload_n hx hb dX0_readSum_31 rfl (lv_at hl 0 rfl) ?_
  obtain ⟨r5, μ5, h1, h⟩ := ob2_some h
  refine x_callV C0 (rest := []) (q := (RX0, TX0, 6)) (c_X0_next l g μ h1) q3_95 q3_92 q3_94 r1_7 q1_8 hd_X0_next ⟨rfl, rfl⟩ ⟨by dsimp only; omega, by dsimp only; omega⟩ cx_81 (by decide) rfl hP hS hl.1 rfl rfl (Nat.le_of_ble_eq_true rfl) dX0_readSum_32 (fun H locs hP hS => ?_)
  refine W.eq (g2 := F0 m 35 ls [.int r5]) rfl ?_
  refine lv_istore_n (lv' := [(3, .int r5), (0, .ref (g.2.2.1 + 81)), (1, .int x1), (2, .int x2)]) hx hb dX0_readSum_35 rfl hl (by decide) rfl (fun ls hl => ?_)
  refine lv_aload_n hx hb dX0_readSum_36 rfl (lv_at hl 1 rfl) ?_
  refine lv_dup hx hb dX0_readSum_37 rfl ?_
  refine x_get C0 hP inu0 (k := 81) cx_81 (by decide) rfl 4 (by decide) q2_31 rfl (v := .int (μ5 81 4)) rfl dX0_readSum_38 ?_
  refine lv_iconst (v := (1 : Int32)) hx hb dX0_readSum_41 rfl ?_
  refine lv_iadd hx hb dX0_readSum_42 ?_
  obtain ⟨μ6, e6, h⟩ := lt_some h
  refine x_put C0 hP hS inu0 tyX0 tyX0_ok nmX0 (k := 81) cx_81 (by decide) rfl 4 (by decide) q2_31 rfl rfl (v := .int ((μ5 81 4) + (1 : Int32))) (x := ((μ5 81 4) + (1 : Int32))) rfl rfl (Nat.le_of_ble_eq_true rfl) (os_0_4 _ _ _ _) dX0_readSum_43 (fun H locs hP hS => ?_)
  rw [← e6] at hP
  refine lv_aload_n hx hb dX0_readSum_46 rfl (lv_at hl 1 rfl) ?_
  refine lv_iload_n hx hb dX0_readSum_47 rfl (lv_at hl 2 rfl) ?_
  obtain ⟨μ7, h1, h⟩ := ob_some h
  refine x_callV C0 (rest := []) (q := (RX0, TX0, 6)) (c_X0_readProduct l g S hS0 x1 μ6 h1) q3_87 q3_84 q3_86 r1_5 q1_8 hd_X0_readProduct ⟨rfl, rfl⟩ ⟨by dsimp only; omega, by dsimp only; omega⟩ cx_81 (by decide) rfl hP hS hl.1 rfl rfl (Nat.le_of_ble_eq_true rfl) dX0_readSum_48 (fun H locs hP hS => ?_)
  refine W.eq (g2 := F0 m 51 ls []) rfl ?_
  refine lv_aload_n hx hb dX0_readSum_51 rfl (lv_at hl 1 rfl) ?_
  refine lv_iload_n hx hb dX0_readSum_52 rfl (lv_at hl 0 rfl) ?_
  refine lv_ineg hx hb dX0_readSum_53 ?_
  obtain ⟨μ8, h1, h⟩ := ob_some h
  refine x_callV C0 (rest := []) (q := (RX0, TX0, 6)) (c_X0_emit l g (-r5) μ7 h1) q3_106 q3_103 q3_105 r1_9 q1_8 hd_X0_emit ⟨rfl, rfl⟩ ⟨by dsimp only; omega, by dsimp only; omega⟩ cx_81 (by decide) rfl hP hS hl.1 rfl rfl (Nat.le_of_ble_eq_true rfl) dX0_readSum_54 (fun H locs hP hS => ?_)
  refine W.eq (g2 := F0 m 57 ls []) rfl ?_
  refine lv_iinc (v := (x2 + (1 : Int32))) (lv' := [(2, .int (x2 + (1 : Int32))), (3, .int r5), (0, .ref (g.2.2.1 + 81)), (1, .int x1)]) hx hb dX0_readSum_57 hl (k := 3) rfl rfl (by decide) rfl (fun ls hl => ?_)
  refine lv_goto (tgt := 7) hx hb dX0_readSum_60 (by decide) ?_
  exact hK7 x1 (x2 + (1 : Int32)) μ8 _ _ _ hP hS (lv_sub hl [2, 3, 0] rfl) h
def X0_readSum_7 (S : Int32 → Mem → Option Mem)  : Nat → Int32 → Int32 → Mem → Option Mem
  | 0, _, _, _ => none
  | n + 1, x1, x2, μ => (if (60 : Int32) ≤ x2 then some μ else ob2 (X0_next  μ) fun r3 μ3 => (if r3 = (43 : Int32) then X0_readSum_31 S (X0_readSum_7 S n) x1 x2 μ3 else ob2 (X0_next  μ3) fun r9 μ9 => (if r9 = (45 : Int32) then X0_readSum_31 S (X0_readSum_7 S n) x1 x2 μ9 else some μ9)))
set_option maxRecDepth 100000 in
set_option maxHeartbeats 4000000 in
theorem w_X0_readSum_7 {g : Gx} {p : Program} {l : Launch} {e : Env} {s : State} {m : MethodId} {args : Array Value} {below : List Frame} {meth : Method} {c : Code} (C0 : Cx Lx g p s m args meth c cX0_readSum 4 none RX0) {ν : Mem} (S : Int32 → Mem → Option Mem) {F Lo : Nat} (hS0 : ∀ (x1 : Int32) (μ : Mem) (ν : Mem), S x1 μ = some ν → Ct Lx g l yX0_readSingle cX0_readSingle 3 none { frames := F, cells := 0, slots := 0, locals := Lo } [.ref (g.2.2.1 + 81), .int x1] μ none ν)  (n : Nat) : ∀ (x1 : Int32) (x2 : Int32) (μ : Mem) (H : Heap) (locs : List Loc) (ls : Array Slot), Px Lx g μ H → va_S (Ax Lx g) s.heap H locs → lv_has ls 4 [(0, .ref (g.2.2.1 + 81)), (1, .int x1), (2, .int x2)] → X0_readSum_7 S  n x1 x2 μ = some ν → W p l e { frames := F + 2, cells := 0, slots := 0, locals := Lo + 45 } s m args below meth c H locs 0 0 (MQ below (Qx Lx g none ν) args s 0 0 (Ax Lx g)) (F0 m 7 ls []) := by
  obtain ⟨hx, hb, hr, hml, hown, hts, hlocks, hK⟩ := id C0
  induction n with
  | zero =>
    intro x1 x2 μ H locs ls hP hS hl h
    have h : (none : Option Mem) = some ν := h
    cases h
  | succ n ih =>
    intro x1 x2 μ H locs ls hP hS hl h
    rw [X0_readSum_7.eq_2] at h
    refine lv_iload_n hx hb dX0_readSum_7 rfl (lv_at hl 2 rfl) ?_
    refine lv_bipush (v := (60 : Int32)) hx hb dX0_readSum_8 (by decide +kernel) ?_
    refine lv_icmp_ge (tgt := 63) hx hb dX0_readSum_10 (by decide) (fun c2 => ?_) (fun c2 => ?_)
    · rw [if_pos c2] at h
      obtain rfl := some1 h
      exact x_vret C0 hP hS dX0_readSum_63
    · rw [if_neg c2] at h
      refine lv_aload_n hx hb dX0_readSum_13 rfl (lv_at hl 0 rfl) ?_
      obtain ⟨r3, μ3, h1, h⟩ := ob2_some h
      refine x_callV C0 (rest := []) (q := (RX0, TX0, 6)) (c_X0_next l g μ h1) q3_95 q3_92 q3_94 r1_7 q1_8 hd_X0_next ⟨rfl, rfl⟩ ⟨by dsimp only; omega, by dsimp only; omega⟩ cx_81 (by decide) rfl hP hS hl.1 rfl rfl (Nat.le_of_ble_eq_true rfl) dX0_readSum_14 (fun H locs hP hS => ?_)
      refine W.eq (g2 := F0 m 17 ls [.int r3]) rfl ?_
      refine lv_bipush (v := (43 : Int32)) hx hb dX0_readSum_17 (by decide +kernel) ?_
      refine lv_icmp_eq (tgt := 31) hx hb dX0_readSum_19 (by decide) (fun c4 => ?_) (fun c4 => ?_)
      · rw [if_pos c4] at h
        exact w_X0_readSum_31 C0 S hS0 (X0_readSum_7 S  n) ih x1 x2 μ3 _ _ _ hP hS (lv_sub hl [0, 1, 2] rfl) h
      · rw [if_neg c4] at h
        refine lv_aload_n hx hb dX0_readSum_22 rfl (lv_at hl 0 rfl) ?_
        obtain ⟨r9, μ9, h1, h⟩ := ob2_some h
        refine x_callV C0 (rest := []) (q := (RX0, TX0, 6)) (c_X0_next l g μ3 h1) q3_95 q3_92 q3_94 r1_7 q1_8 hd_X0_next ⟨rfl, rfl⟩ ⟨by dsimp only; omega, by dsimp only; omega⟩ cx_81 (by decide) rfl hP hS hl.1 rfl rfl (Nat.le_of_ble_eq_true rfl) dX0_readSum_23 (fun H locs hP hS => ?_)
        refine W.eq (g2 := F0 m 26 ls [.int r9]) rfl ?_
        refine lv_bipush (v := (45 : Int32)) hx hb dX0_readSum_26 (by decide +kernel) ?_
        refine lv_icmp_ne (tgt := 63) hx hb dX0_readSum_28 (by decide) (fun c10 => ?_) (fun c10 => ?_)
        · rw [if_neg c10] at h
          obtain rfl := some1 h
          exact x_vret C0 hP hS dX0_readSum_63
        · rw [if_pos c10] at h
          exact w_X0_readSum_31 C0 S hS0 (X0_readSum_7 S  n) ih x1 x2 μ9 _ _ _ hP hS (lv_sub hl [0, 1, 2] rfl) h
def X0_readSum (S : Int32 → Mem → Option Mem) (x1 : Int32) (μ : Mem) : Option Mem :=
  ob (X0_readProduct S x1 μ) fun μ1 => X0_readSum_7 S FU x1 (0 : Int32) μ1
set_option maxRecDepth 100000 in
set_option maxHeartbeats 4000000 in
theorem c_X0_readSum (l : Launch) (g : Gx) (S : Int32 → Mem → Option Mem) {F Lo : Nat} (hS0 : ∀ (x1 : Int32) (μ : Mem) (ν : Mem), S x1 μ = some ν → Ct Lx g l yX0_readSingle cX0_readSingle 3 none { frames := F, cells := 0, slots := 0, locals := Lo } [.ref (g.2.2.1 + 81), .int x1] μ none ν) (x1 : Int32) (μ : Mem) {ν : Mem} (h : X0_readSum S x1 μ = some ν) : Ct Lx g l yX0_readSum cX0_readSum 4 none { frames := F + 2, cells := 0, slots := 0, locals := Lo + 45 } [.ref (g.2.2.1 + 81), .int x1] μ none ν := by
  refine x_met (lv := [(0, .ref (g.2.2.1 + 81)), (1, .int x1)]) rfl (Nat.le_of_ble_eq_true rfl) rfl ?_
  intro p e s m below meth c C0 hP ls hl
  generalize ([.ref (g.2.2.1 + 81), .int x1] : List Value).toArray = args at C0 ⊢
  have C0 : Cx Lx g p s m args meth c cX0_readSum 4 none RX0 := C0
  have hS : va_S (Ax Lx g) s.heap s.heap [] := va_S.rf
  obtain ⟨hx, hb, hr, hml, hown, hts, hlocks, hK⟩ := id C0
  unfold X0_readSum at h
  skip
  refine lv_aload_n hx hb dX0_readSum_0 rfl (lv_at hl 0 rfl) ?_
  refine lv_iload_n hx hb dX0_readSum_1 rfl (lv_at hl 1 rfl) ?_
  obtain ⟨μ1, h1, h⟩ := ob_some h
  refine x_callV C0 (rest := []) (q := (RX0, TX0, 6)) (c_X0_readProduct l g S hS0 x1 μ h1) q3_87 q3_84 q3_86 r1_5 q1_8 hd_X0_readProduct ⟨rfl, rfl⟩ ⟨by dsimp only; omega, by dsimp only; omega⟩ cx_81 (by decide) rfl hP hS hl.1 rfl rfl (Nat.le_of_ble_eq_true rfl) dX0_readSum_2 (fun H locs hP hS => ?_)
  refine W.eq (g2 := F0 m 5 ls []) rfl ?_
  refine lv_iconst (v := (0 : Int32)) hx hb dX0_readSum_5 rfl ?_
  refine lv_istore_n (lv' := [(2, .int (0 : Int32)), (0, .ref (g.2.2.1 + 81)), (1, .int x1)]) hx hb dX0_readSum_6 rfl hl (by decide) rfl (fun ls hl => ?_)
  exact w_X0_readSum_7 C0 S hS0  FU x1 (0 : Int32) μ1 _ _ _ hP hS (lv_sub hl [1, 2, 0] rfl) h
def X0_readCompared_28 (S : Int32 → Mem → Option Mem)  (x1 : Int32) (x2 : Int32) (μ : Mem) : Option Mem :=
  lt (st μ 81 4 ((μ 81 4) + (1 : Int32))) fun μ4 => ob (X0_readSum S x1 μ4) fun μ5 => ob (X0_emit (-x2) μ5) fun μ6 => some μ6
set_option maxRecDepth 100000 in
set_option maxHeartbeats 4000000 in
theorem w_X0_readCompared_28 {g : Gx} {p : Program} {l : Launch} {e : Env} {s : State} {m : MethodId} {args : Array Value} {below : List Frame} {meth : Method} {c : Code} (C0 : Cx Lx g p s m args meth c cX0_readCompared 3 none RX0) {ν : Mem} (S : Int32 → Mem → Option Mem) {F Lo : Nat} (hS0 : ∀ (x1 : Int32) (μ : Mem) (ν : Mem), S x1 μ = some ν → Ct Lx g l yX0_readSingle cX0_readSingle 3 none { frames := F, cells := 0, slots := 0, locals := Lo } [.ref (g.2.2.1 + 81), .int x1] μ none ν)  (x1 : Int32) (x2 : Int32) (μ : Mem) (H : Heap) (locs : List Loc) (ls : Array Slot) (hP : Px Lx g μ H) (hS : va_S (Ax Lx g) s.heap H locs) (hl : lv_has ls 3 [(0, .ref (g.2.2.1 + 81)), (1, .int x1), (2, .int x2)]) (h : X0_readCompared_28 S  x1 x2 μ = some ν) : W p l e { frames := F + 3, cells := 0, slots := 0, locals := Lo + 68 } s m args below meth c H locs 0 0 (MQ below (Qx Lx g none ν) args s 0 0 (Ax Lx g)) (F0 m 28 ls []) := by
  obtain ⟨hx, hb, hr, hml, hown, hts, hlocks, hK⟩ := id C0
  unfold X0_readCompared_28 at h
  refine lv_aload_n hx hb dX0_readCompared_28 rfl (lv_at hl 0 rfl) ?_
  refine lv_dup hx hb dX0_readCompared_29 rfl ?_
  refine x_get C0 hP inu0 (k := 81) cx_81 (by decide) rfl 4 (by decide) q2_31 rfl (v := .int (μ 81 4)) rfl dX0_readCompared_30 ?_
  refine lv_iconst (v := (1 : Int32)) hx hb dX0_readCompared_33 rfl ?_
  refine lv_iadd hx hb dX0_readCompared_34 ?_
  obtain ⟨μ4, e4, h⟩ := lt_some h
  refine x_put C0 hP hS inu0 tyX0 tyX0_ok nmX0 (k := 81) cx_81 (by decide) rfl 4 (by decide) q2_31 rfl rfl (v := .int ((μ 81 4) + (1 : Int32))) (x := ((μ 81 4) + (1 : Int32))) rfl rfl (Nat.le_of_ble_eq_true rfl) (os_0_4 _ _ _ _) dX0_readCompared_35 (fun H locs hP hS => ?_)
  rw [← e4] at hP
  refine lv_aload_n hx hb dX0_readCompared_38 rfl (lv_at hl 0 rfl) ?_
  refine lv_iload_n hx hb dX0_readCompared_39 rfl (lv_at hl 1 rfl) ?_
  obtain ⟨μ5, h1, h⟩ := ob_some h
  refine x_callV C0 (rest := []) (q := (RX0, TX0, 6)) (c_X0_readSum l g S hS0 x1 μ4 h1) q3_83 q3_80 q3_82 r1_4 q1_8 hd_X0_readSum ⟨rfl, rfl⟩ ⟨by dsimp only; omega, by dsimp only; omega⟩ cx_81 (by decide) rfl hP hS hl.1 rfl rfl (Nat.le_of_ble_eq_true rfl) dX0_readCompared_40 (fun H locs hP hS => ?_)
  refine W.eq (g2 := F0 m 43 ls []) rfl ?_
  refine lv_aload_n hx hb dX0_readCompared_43 rfl (lv_at hl 0 rfl) ?_
  refine lv_iload_n hx hb dX0_readCompared_44 rfl (lv_at hl 2 rfl) ?_
  refine lv_ineg hx hb dX0_readCompared_45 ?_
  obtain ⟨μ6, h1, h⟩ := ob_some h
  refine x_callV C0 (rest := []) (q := (RX0, TX0, 6)) (c_X0_emit l g (-x2) μ5 h1) q3_106 q3_103 q3_105 r1_9 q1_8 hd_X0_emit ⟨rfl, rfl⟩ ⟨by dsimp only; omega, by dsimp only; omega⟩ cx_81 (by decide) rfl hP hS hl.1 rfl rfl (Nat.le_of_ble_eq_true rfl) dX0_readCompared_46 (fun H locs hP hS => ?_)
  refine W.eq (g2 := F0 m 49 ls []) rfl ?_
  obtain rfl := some1 h
  exact x_vret C0 hP hS dX0_readCompared_49
def X0_readCompared (S : Int32 → Mem → Option Mem) (x1 : Int32) (μ : Mem) : Option Mem :=
  ob (X0_readSum S x1 μ) fun μ1 => ob2 (X0_next  μ1) fun r2 μ2 => (if r2 = (60 : Int32) then X0_readCompared_28 S x1 r2 μ2 else (if r2 = (61 : Int32) then X0_readCompared_28 S x1 r2 μ2 else (if r2 = (62 : Int32) then X0_readCompared_28 S x1 r2 μ2 else some μ2)))
set_option maxRecDepth 100000 in
set_option maxHeartbeats 4000000 in
theorem c_X0_readCompared (l : Launch) (g : Gx) (S : Int32 → Mem → Option Mem) {F Lo : Nat} (hS0 : ∀ (x1 : Int32) (μ : Mem) (ν : Mem), S x1 μ = some ν → Ct Lx g l yX0_readSingle cX0_readSingle 3 none { frames := F, cells := 0, slots := 0, locals := Lo } [.ref (g.2.2.1 + 81), .int x1] μ none ν) (x1 : Int32) (μ : Mem) {ν : Mem} (h : X0_readCompared S x1 μ = some ν) : Ct Lx g l yX0_readCompared cX0_readCompared 3 none { frames := F + 3, cells := 0, slots := 0, locals := Lo + 68 } [.ref (g.2.2.1 + 81), .int x1] μ none ν := by
  refine x_met (lv := [(0, .ref (g.2.2.1 + 81)), (1, .int x1)]) rfl (Nat.le_of_ble_eq_true rfl) rfl ?_
  intro p e s m below meth c C0 hP ls hl
  generalize ([.ref (g.2.2.1 + 81), .int x1] : List Value).toArray = args at C0 ⊢
  have C0 : Cx Lx g p s m args meth c cX0_readCompared 3 none RX0 := C0
  have hS : va_S (Ax Lx g) s.heap s.heap [] := va_S.rf
  obtain ⟨hx, hb, hr, hml, hown, hts, hlocks, hK⟩ := id C0
  unfold X0_readCompared at h
  skip
  refine lv_aload_n hx hb dX0_readCompared_0 rfl (lv_at hl 0 rfl) ?_
  refine lv_iload_n hx hb dX0_readCompared_1 rfl (lv_at hl 1 rfl) ?_
  obtain ⟨μ1, h1, h⟩ := ob_some h
  refine x_callV C0 (rest := []) (q := (RX0, TX0, 6)) (c_X0_readSum l g S hS0 x1 μ h1) q3_83 q3_80 q3_82 r1_4 q1_8 hd_X0_readSum ⟨rfl, rfl⟩ ⟨by dsimp only; omega, by dsimp only; omega⟩ cx_81 (by decide) rfl hP hS hl.1 rfl rfl (Nat.le_of_ble_eq_true rfl) dX0_readCompared_2 (fun H locs hP hS => ?_)
  refine W.eq (g2 := F0 m 5 ls []) rfl ?_
  refine lv_aload_n hx hb dX0_readCompared_5 rfl (lv_at hl 0 rfl) ?_
  obtain ⟨r2, μ2, h1, h⟩ := ob2_some h
  refine x_callV C0 (rest := []) (q := (RX0, TX0, 6)) (c_X0_next l g μ1 h1) q3_95 q3_92 q3_94 r1_7 q1_8 hd_X0_next ⟨rfl, rfl⟩ ⟨by dsimp only; omega, by dsimp only; omega⟩ cx_81 (by decide) rfl hP hS hl.1 rfl rfl (Nat.le_of_ble_eq_true rfl) dX0_readCompared_6 (fun H locs hP hS => ?_)
  refine W.eq (g2 := F0 m 9 ls [.int r2]) rfl ?_
  refine lv_istore_n (lv' := [(2, .int r2), (0, .ref (g.2.2.1 + 81)), (1, .int x1)]) hx hb dX0_readCompared_9 rfl hl (by decide) rfl (fun ls hl => ?_)
  refine lv_iload_n hx hb dX0_readCompared_10 rfl (lv_at hl 0 rfl) ?_
  refine lv_bipush (v := (60 : Int32)) hx hb dX0_readCompared_11 (by decide +kernel) ?_
  refine lv_icmp_eq (tgt := 28) hx hb dX0_readCompared_13 (by decide) (fun c3 => ?_) (fun c3 => ?_)
  · rw [if_pos c3] at h
    exact w_X0_readCompared_28 C0 S hS0  x1 r2 μ2 _ _ _ hP hS (lv_sub hl [1, 2, 0] rfl) h
  · rw [if_neg c3] at h
    refine lv_iload_n hx hb dX0_readCompared_16 rfl (lv_at hl 0 rfl) ?_
    refine lv_bipush (v := (61 : Int32)) hx hb dX0_readCompared_17 (by decide +kernel) ?_
    refine lv_icmp_eq (tgt := 28) hx hb dX0_readCompared_19 (by decide) (fun c7 => ?_) (fun c7 => ?_)
    · rw [if_pos c7] at h
      exact w_X0_readCompared_28 C0 S hS0  x1 r2 μ2 _ _ _ hP hS (lv_sub hl [1, 2, 0] rfl) h
    · rw [if_neg c7] at h
      refine lv_iload_n hx hb dX0_readCompared_22 rfl (lv_at hl 0 rfl) ?_
      refine lv_bipush (v := (62 : Int32)) hx hb dX0_readCompared_23 (by decide +kernel) ?_
      refine lv_icmp_ne (tgt := 49) hx hb dX0_readCompared_25 (by decide) (fun c8 => ?_) (fun c8 => ?_)
      · rw [if_neg c8] at h
        obtain rfl := some1 h
        exact x_vret C0 hP hS dX0_readCompared_49
      · rw [if_pos c8] at h
        exact w_X0_readCompared_28 C0 S hS0  x1 r2 μ2 _ _ _ hP hS (lv_sub hl [1, 2, 0] rfl) h
def X0_readBoth_7 (S : Int32 → Mem → Option Mem)  : Nat → Int32 → Int32 → Mem → Option Mem
  | 0, _, _, _ => none
  | n + 1, x1, x2, μ => (if (60 : Int32) ≤ x2 then some μ else ob2 (X0_next  μ) fun r3 μ3 => (if r3 = (38 : Int32) then lt (st μ3 81 4 ((μ3 81 4) + (1 : Int32))) fun μ5 => ob (X0_readCompared S x1 μ5) fun μ6 => ob (X0_emit (-38 : Int32) μ6) fun μ7 => (X0_readBoth_7 S n) x1 (x2 + (1 : Int32)) μ7 else some μ3))
set_option maxRecDepth 100000 in
set_option maxHeartbeats 4000000 in
theorem w_X0_readBoth_7 {g : Gx} {p : Program} {l : Launch} {e : Env} {s : State} {m : MethodId} {args : Array Value} {below : List Frame} {meth : Method} {c : Code} (C0 : Cx Lx g p s m args meth c cX0_readBoth 3 none RX0) {ν : Mem} (S : Int32 → Mem → Option Mem) {F Lo : Nat} (hS0 : ∀ (x1 : Int32) (μ : Mem) (ν : Mem), S x1 μ = some ν → Ct Lx g l yX0_readSingle cX0_readSingle 3 none { frames := F, cells := 0, slots := 0, locals := Lo } [.ref (g.2.2.1 + 81), .int x1] μ none ν)  (n : Nat) : ∀ (x1 : Int32) (x2 : Int32) (μ : Mem) (H : Heap) (locs : List Loc) (ls : Array Slot), Px Lx g μ H → va_S (Ax Lx g) s.heap H locs → lv_has ls 3 [(0, .ref (g.2.2.1 + 81)), (1, .int x1), (2, .int x2)] → X0_readBoth_7 S  n x1 x2 μ = some ν → W p l e { frames := F + 4, cells := 0, slots := 0, locals := Lo + 90 } s m args below meth c H locs 0 0 (MQ below (Qx Lx g none ν) args s 0 0 (Ax Lx g)) (F0 m 7 ls []) := by
  obtain ⟨hx, hb, hr, hml, hown, hts, hlocks, hK⟩ := id C0
  induction n with
  | zero =>
    intro x1 x2 μ H locs ls hP hS hl h
    have h : (none : Option Mem) = some ν := h
    cases h
  | succ n ih =>
    intro x1 x2 μ H locs ls hP hS hl h
    rw [X0_readBoth_7.eq_2] at h
    refine lv_iload_n hx hb dX0_readBoth_7 rfl (lv_at hl 2 rfl) ?_
    refine lv_bipush (v := (60 : Int32)) hx hb dX0_readBoth_8 (by decide +kernel) ?_
    refine lv_icmp_ge (tgt := 49) hx hb dX0_readBoth_10 (by decide) (fun c2 => ?_) (fun c2 => ?_)
    · rw [if_pos c2] at h
      obtain rfl := some1 h
      exact x_vret C0 hP hS dX0_readBoth_49
    · rw [if_neg c2] at h
      refine lv_aload_n hx hb dX0_readBoth_13 rfl (lv_at hl 0 rfl) ?_
      obtain ⟨r3, μ3, h1, h⟩ := ob2_some h
      refine x_callV C0 (rest := []) (q := (RX0, TX0, 6)) (c_X0_next l g μ h1) q3_95 q3_92 q3_94 r1_7 q1_8 hd_X0_next ⟨rfl, rfl⟩ ⟨by dsimp only; omega, by dsimp only; omega⟩ cx_81 (by decide) rfl hP hS hl.1 rfl rfl (Nat.le_of_ble_eq_true rfl) dX0_readBoth_14 (fun H locs hP hS => ?_)
      refine W.eq (g2 := F0 m 17 ls [.int r3]) rfl ?_
      refine lv_bipush (v := (38 : Int32)) hx hb dX0_readBoth_17 (by decide +kernel) ?_
      refine lv_icmp_ne (tgt := 49) hx hb dX0_readBoth_19 (by decide) (fun c4 => ?_) (fun c4 => ?_)
      · rw [if_neg c4] at h
        obtain rfl := some1 h
        exact x_vret C0 hP hS dX0_readBoth_49
      · rw [if_pos c4] at h
        refine lv_aload_n hx hb dX0_readBoth_22 rfl (lv_at hl 0 rfl) ?_
        refine lv_dup hx hb dX0_readBoth_23 rfl ?_
        refine x_get C0 hP inu0 (k := 81) cx_81 (by decide) rfl 4 (by decide) q2_31 rfl (v := .int (μ3 81 4)) rfl dX0_readBoth_24 ?_
        refine lv_iconst (v := (1 : Int32)) hx hb dX0_readBoth_27 rfl ?_
        refine lv_iadd hx hb dX0_readBoth_28 ?_
        obtain ⟨μ5, e5, h⟩ := lt_some h
        refine x_put C0 hP hS inu0 tyX0 tyX0_ok nmX0 (k := 81) cx_81 (by decide) rfl 4 (by decide) q2_31 rfl rfl (v := .int ((μ3 81 4) + (1 : Int32))) (x := ((μ3 81 4) + (1 : Int32))) rfl rfl (Nat.le_of_ble_eq_true rfl) (os_0_4 _ _ _ _) dX0_readBoth_29 (fun H locs hP hS => ?_)
        rw [← e5] at hP
        refine lv_aload_n hx hb dX0_readBoth_32 rfl (lv_at hl 0 rfl) ?_
        refine lv_iload_n hx hb dX0_readBoth_33 rfl (lv_at hl 1 rfl) ?_
        obtain ⟨μ6, h1, h⟩ := ob_some h
        refine x_callV C0 (rest := []) (q := (RX0, TX0, 6)) (c_X0_readCompared l g S hS0 x1 μ5 h1) q3_79 q3_76 q3_78 r1_3 q1_8 hd_X0_readCompared ⟨rfl, rfl⟩ ⟨by dsimp only; omega, by dsimp only; omega⟩ cx_81 (by decide) rfl hP hS hl.1 rfl rfl (Nat.le_of_ble_eq_true rfl) dX0_readBoth_34 (fun H locs hP hS => ?_)
        refine W.eq (g2 := F0 m 37 ls []) rfl ?_
        refine lv_aload_n hx hb dX0_readBoth_37 rfl (lv_at hl 0 rfl) ?_
        refine lv_bipush (v := (-38 : Int32)) hx hb dX0_readBoth_38 (by decide +kernel) ?_
        obtain ⟨μ7, h1, h⟩ := ob_some h
        refine x_callV C0 (rest := []) (q := (RX0, TX0, 6)) (c_X0_emit l g (-38 : Int32) μ6 h1) q3_106 q3_103 q3_105 r1_9 q1_8 hd_X0_emit ⟨rfl, rfl⟩ ⟨by dsimp only; omega, by dsimp only; omega⟩ cx_81 (by decide) rfl hP hS hl.1 rfl rfl (Nat.le_of_ble_eq_true rfl) dX0_readBoth_40 (fun H locs hP hS => ?_)
        refine W.eq (g2 := F0 m 43 ls []) rfl ?_
        refine lv_iinc (v := (x2 + (1 : Int32))) (lv' := [(2, .int (x2 + (1 : Int32))), (0, .ref (g.2.2.1 + 81)), (1, .int x1)]) hx hb dX0_readBoth_43 hl (k := 2) rfl rfl (by decide) rfl (fun ls hl => ?_)
        refine lv_goto (tgt := 7) hx hb dX0_readBoth_46 (by decide) ?_
        exact ih x1 (x2 + (1 : Int32)) μ7 _ _ _ hP hS (lv_sub hl [1, 2, 0] rfl) h
def X0_readBoth (S : Int32 → Mem → Option Mem) (x1 : Int32) (μ : Mem) : Option Mem :=
  ob (X0_readCompared S x1 μ) fun μ1 => X0_readBoth_7 S FU x1 (0 : Int32) μ1
set_option maxRecDepth 100000 in
set_option maxHeartbeats 4000000 in
theorem c_X0_readBoth (l : Launch) (g : Gx) (S : Int32 → Mem → Option Mem) {F Lo : Nat} (hS0 : ∀ (x1 : Int32) (μ : Mem) (ν : Mem), S x1 μ = some ν → Ct Lx g l yX0_readSingle cX0_readSingle 3 none { frames := F, cells := 0, slots := 0, locals := Lo } [.ref (g.2.2.1 + 81), .int x1] μ none ν) (x1 : Int32) (μ : Mem) {ν : Mem} (h : X0_readBoth S x1 μ = some ν) : Ct Lx g l yX0_readBoth cX0_readBoth 3 none { frames := F + 4, cells := 0, slots := 0, locals := Lo + 90 } [.ref (g.2.2.1 + 81), .int x1] μ none ν := by
  refine x_met (lv := [(0, .ref (g.2.2.1 + 81)), (1, .int x1)]) rfl (Nat.le_of_ble_eq_true rfl) rfl ?_
  intro p e s m below meth c C0 hP ls hl
  generalize ([.ref (g.2.2.1 + 81), .int x1] : List Value).toArray = args at C0 ⊢
  have C0 : Cx Lx g p s m args meth c cX0_readBoth 3 none RX0 := C0
  have hS : va_S (Ax Lx g) s.heap s.heap [] := va_S.rf
  obtain ⟨hx, hb, hr, hml, hown, hts, hlocks, hK⟩ := id C0
  unfold X0_readBoth at h
  skip
  refine lv_aload_n hx hb dX0_readBoth_0 rfl (lv_at hl 0 rfl) ?_
  refine lv_iload_n hx hb dX0_readBoth_1 rfl (lv_at hl 1 rfl) ?_
  obtain ⟨μ1, h1, h⟩ := ob_some h
  refine x_callV C0 (rest := []) (q := (RX0, TX0, 6)) (c_X0_readCompared l g S hS0 x1 μ h1) q3_79 q3_76 q3_78 r1_3 q1_8 hd_X0_readCompared ⟨rfl, rfl⟩ ⟨by dsimp only; omega, by dsimp only; omega⟩ cx_81 (by decide) rfl hP hS hl.1 rfl rfl (Nat.le_of_ble_eq_true rfl) dX0_readBoth_2 (fun H locs hP hS => ?_)
  refine W.eq (g2 := F0 m 5 ls []) rfl ?_
  refine lv_iconst (v := (0 : Int32)) hx hb dX0_readBoth_5 rfl ?_
  refine lv_istore_n (lv' := [(2, .int (0 : Int32)), (0, .ref (g.2.2.1 + 81)), (1, .int x1)]) hx hb dX0_readBoth_6 rfl hl (by decide) rfl (fun ls hl => ?_)
  exact w_X0_readBoth_7 C0 S hS0  FU x1 (0 : Int32) μ1 _ _ _ hP hS (lv_sub hl [1, 2, 0] rfl) h
def X0_readEither_7 (S : Int32 → Mem → Option Mem)  : Nat → Int32 → Int32 → Mem → Option Mem
  | 0, _, _, _ => none
  | n + 1, x1, x2, μ => (if (60 : Int32) ≤ x2 then some μ else ob2 (X0_next  μ) fun r3 μ3 => (if r3 = (124 : Int32) then lt (st μ3 81 4 ((μ3 81 4) + (1 : Int32))) fun μ5 => ob (X0_readBoth S x1 μ5) fun μ6 => ob (X0_emit (-124 : Int32) μ6) fun μ7 => (X0_readEither_7 S n) x1 (x2 + (1 : Int32)) μ7 else some μ3))
set_option maxRecDepth 100000 in
set_option maxHeartbeats 4000000 in
theorem w_X0_readEither_7 {g : Gx} {p : Program} {l : Launch} {e : Env} {s : State} {m : MethodId} {args : Array Value} {below : List Frame} {meth : Method} {c : Code} (C0 : Cx Lx g p s m args meth c cX0_readEither 3 none RX0) {ν : Mem} (S : Int32 → Mem → Option Mem) {F Lo : Nat} (hS0 : ∀ (x1 : Int32) (μ : Mem) (ν : Mem), S x1 μ = some ν → Ct Lx g l yX0_readSingle cX0_readSingle 3 none { frames := F, cells := 0, slots := 0, locals := Lo } [.ref (g.2.2.1 + 81), .int x1] μ none ν)  (n : Nat) : ∀ (x1 : Int32) (x2 : Int32) (μ : Mem) (H : Heap) (locs : List Loc) (ls : Array Slot), Px Lx g μ H → va_S (Ax Lx g) s.heap H locs → lv_has ls 3 [(0, .ref (g.2.2.1 + 81)), (1, .int x1), (2, .int x2)] → X0_readEither_7 S  n x1 x2 μ = some ν → W p l e { frames := F + 5, cells := 0, slots := 0, locals := Lo + 112 } s m args below meth c H locs 0 0 (MQ below (Qx Lx g none ν) args s 0 0 (Ax Lx g)) (F0 m 7 ls []) := by
  obtain ⟨hx, hb, hr, hml, hown, hts, hlocks, hK⟩ := id C0
  induction n with
  | zero =>
    intro x1 x2 μ H locs ls hP hS hl h
    have h : (none : Option Mem) = some ν := h
    cases h
  | succ n ih =>
    intro x1 x2 μ H locs ls hP hS hl h
    rw [X0_readEither_7.eq_2] at h
    refine lv_iload_n hx hb dX0_readEither_7 rfl (lv_at hl 2 rfl) ?_
    refine lv_bipush (v := (60 : Int32)) hx hb dX0_readEither_8 (by decide +kernel) ?_
    refine lv_icmp_ge (tgt := 49) hx hb dX0_readEither_10 (by decide) (fun c2 => ?_) (fun c2 => ?_)
    · rw [if_pos c2] at h
      obtain rfl := some1 h
      exact x_vret C0 hP hS dX0_readEither_49
    · rw [if_neg c2] at h
      refine lv_aload_n hx hb dX0_readEither_13 rfl (lv_at hl 0 rfl) ?_
      obtain ⟨r3, μ3, h1, h⟩ := ob2_some h
      refine x_callV C0 (rest := []) (q := (RX0, TX0, 6)) (c_X0_next l g μ h1) q3_95 q3_92 q3_94 r1_7 q1_8 hd_X0_next ⟨rfl, rfl⟩ ⟨by dsimp only; omega, by dsimp only; omega⟩ cx_81 (by decide) rfl hP hS hl.1 rfl rfl (Nat.le_of_ble_eq_true rfl) dX0_readEither_14 (fun H locs hP hS => ?_)
      refine W.eq (g2 := F0 m 17 ls [.int r3]) rfl ?_
      refine lv_bipush (v := (124 : Int32)) hx hb dX0_readEither_17 (by decide +kernel) ?_
      refine lv_icmp_ne (tgt := 49) hx hb dX0_readEither_19 (by decide) (fun c4 => ?_) (fun c4 => ?_)
      · rw [if_neg c4] at h
        obtain rfl := some1 h
        exact x_vret C0 hP hS dX0_readEither_49
      · rw [if_pos c4] at h
        refine lv_aload_n hx hb dX0_readEither_22 rfl (lv_at hl 0 rfl) ?_
        refine lv_dup hx hb dX0_readEither_23 rfl ?_
        refine x_get C0 hP inu0 (k := 81) cx_81 (by decide) rfl 4 (by decide) q2_31 rfl (v := .int (μ3 81 4)) rfl dX0_readEither_24 ?_
        refine lv_iconst (v := (1 : Int32)) hx hb dX0_readEither_27 rfl ?_
        refine lv_iadd hx hb dX0_readEither_28 ?_
        obtain ⟨μ5, e5, h⟩ := lt_some h
        refine x_put C0 hP hS inu0 tyX0 tyX0_ok nmX0 (k := 81) cx_81 (by decide) rfl 4 (by decide) q2_31 rfl rfl (v := .int ((μ3 81 4) + (1 : Int32))) (x := ((μ3 81 4) + (1 : Int32))) rfl rfl (Nat.le_of_ble_eq_true rfl) (os_0_4 _ _ _ _) dX0_readEither_29 (fun H locs hP hS => ?_)
        rw [← e5] at hP
        refine lv_aload_n hx hb dX0_readEither_32 rfl (lv_at hl 0 rfl) ?_
        refine lv_iload_n hx hb dX0_readEither_33 rfl (lv_at hl 1 rfl) ?_
        obtain ⟨μ6, h1, h⟩ := ob_some h
        refine x_callV C0 (rest := []) (q := (RX0, TX0, 6)) (c_X0_readBoth l g S hS0 x1 μ5 h1) q3_75 q3_72 q3_74 r1_2 q1_8 hd_X0_readBoth ⟨rfl, rfl⟩ ⟨by dsimp only; omega, by dsimp only; omega⟩ cx_81 (by decide) rfl hP hS hl.1 rfl rfl (Nat.le_of_ble_eq_true rfl) dX0_readEither_34 (fun H locs hP hS => ?_)
        refine W.eq (g2 := F0 m 37 ls []) rfl ?_
        refine lv_aload_n hx hb dX0_readEither_37 rfl (lv_at hl 0 rfl) ?_
        refine lv_bipush (v := (-124 : Int32)) hx hb dX0_readEither_38 (by decide +kernel) ?_
        obtain ⟨μ7, h1, h⟩ := ob_some h
        refine x_callV C0 (rest := []) (q := (RX0, TX0, 6)) (c_X0_emit l g (-124 : Int32) μ6 h1) q3_106 q3_103 q3_105 r1_9 q1_8 hd_X0_emit ⟨rfl, rfl⟩ ⟨by dsimp only; omega, by dsimp only; omega⟩ cx_81 (by decide) rfl hP hS hl.1 rfl rfl (Nat.le_of_ble_eq_true rfl) dX0_readEither_40 (fun H locs hP hS => ?_)
        refine W.eq (g2 := F0 m 43 ls []) rfl ?_
        refine lv_iinc (v := (x2 + (1 : Int32))) (lv' := [(2, .int (x2 + (1 : Int32))), (0, .ref (g.2.2.1 + 81)), (1, .int x1)]) hx hb dX0_readEither_43 hl (k := 2) rfl rfl (by decide) rfl (fun ls hl => ?_)
        refine lv_goto (tgt := 7) hx hb dX0_readEither_46 (by decide) ?_
        exact ih x1 (x2 + (1 : Int32)) μ7 _ _ _ hP hS (lv_sub hl [1, 2, 0] rfl) h
def X0_readEither (S : Int32 → Mem → Option Mem) (x1 : Int32) (μ : Mem) : Option Mem :=
  ob (X0_readBoth S x1 μ) fun μ1 => X0_readEither_7 S FU x1 (0 : Int32) μ1
set_option maxRecDepth 100000 in
set_option maxHeartbeats 4000000 in
theorem c_X0_readEither (l : Launch) (g : Gx) (S : Int32 → Mem → Option Mem) {F Lo : Nat} (hS0 : ∀ (x1 : Int32) (μ : Mem) (ν : Mem), S x1 μ = some ν → Ct Lx g l yX0_readSingle cX0_readSingle 3 none { frames := F, cells := 0, slots := 0, locals := Lo } [.ref (g.2.2.1 + 81), .int x1] μ none ν) (x1 : Int32) (μ : Mem) {ν : Mem} (h : X0_readEither S x1 μ = some ν) : Ct Lx g l yX0_readEither cX0_readEither 3 none { frames := F + 5, cells := 0, slots := 0, locals := Lo + 112 } [.ref (g.2.2.1 + 81), .int x1] μ none ν := by
  refine x_met (lv := [(0, .ref (g.2.2.1 + 81)), (1, .int x1)]) rfl (Nat.le_of_ble_eq_true rfl) rfl ?_
  intro p e s m below meth c C0 hP ls hl
  generalize ([.ref (g.2.2.1 + 81), .int x1] : List Value).toArray = args at C0 ⊢
  have C0 : Cx Lx g p s m args meth c cX0_readEither 3 none RX0 := C0
  have hS : va_S (Ax Lx g) s.heap s.heap [] := va_S.rf
  obtain ⟨hx, hb, hr, hml, hown, hts, hlocks, hK⟩ := id C0
  unfold X0_readEither at h
  skip
  refine lv_aload_n hx hb dX0_readEither_0 rfl (lv_at hl 0 rfl) ?_
  refine lv_iload_n hx hb dX0_readEither_1 rfl (lv_at hl 1 rfl) ?_
  obtain ⟨μ1, h1, h⟩ := ob_some h
  refine x_callV C0 (rest := []) (q := (RX0, TX0, 6)) (c_X0_readBoth l g S hS0 x1 μ h1) q3_75 q3_72 q3_74 r1_2 q1_8 hd_X0_readBoth ⟨rfl, rfl⟩ ⟨by dsimp only; omega, by dsimp only; omega⟩ cx_81 (by decide) rfl hP hS hl.1 rfl rfl (Nat.le_of_ble_eq_true rfl) dX0_readEither_2 (fun H locs hP hS => ?_)
  refine W.eq (g2 := F0 m 5 ls []) rfl ?_
  refine lv_iconst (v := (0 : Int32)) hx hb dX0_readEither_5 rfl ?_
  refine lv_istore_n (lv' := [(2, .int (0 : Int32)), (0, .ref (g.2.2.1 + 81)), (1, .int x1)]) hx hb dX0_readEither_6 rfl hl (by decide) rfl (fun ls hl => ?_)
  exact w_X0_readEither_7 C0 S hS0  FU x1 (0 : Int32) μ1 _ _ _ hP hS (lv_sub hl [1, 2, 0] rfl) h
def X0_readSingle_117 (S : Int32 → Mem → Option Mem)   (μ : Mem) : Option Mem :=
  ob (X0_fail  μ) fun μ8 => some μ8
set_option maxRecDepth 100000 in
set_option maxHeartbeats 4000000 in
theorem w_X0_readSingle_117 {g : Gx} {p : Program} {l : Launch} {e : Env} {s : State} {m : MethodId} {args : Array Value} {below : List Frame} {meth : Method} {c : Code} (C0 : Cx Lx g p s m args meth c cX0_readSingle 3 none RX0) {ν : Mem} (S : Int32 → Mem → Option Mem) {F Lo : Nat} (hS0 : ∀ (x1 : Int32) (μ : Mem) (ν : Mem), S x1 μ = some ν → Ct Lx g l yX0_readSingle cX0_readSingle 3 none { frames := F, cells := 0, slots := 0, locals := Lo } [.ref (g.2.2.1 + 81), .int x1] μ none ν)   (μ : Mem) (H : Heap) (locs : List Loc) (ls : Array Slot) (hP : Px Lx g μ H) (hS : va_S (Ax Lx g) s.heap H locs) (hl : lv_has ls 3 [(0, .ref (g.2.2.1 + 81))]) (h : X0_readSingle_117 S   μ = some ν) : W p l e { frames := F + 6, cells := 0, slots := 0, locals := Lo + 134 } s m args below meth c H locs 0 0 (MQ below (Qx Lx g none ν) args s 0 0 (Ax Lx g)) (F0 m 117 ls []) := by
  obtain ⟨hx, hb, hr, hml, hown, hts, hlocks, hK⟩ := id C0
  unfold X0_readSingle_117 at h
  refine lv_aload_n hx hb dX0_readSingle_117 rfl (lv_at hl 0 rfl) ?_
  obtain ⟨μ8, h1, h⟩ := ob_some h
  refine x_callV C0 (rest := []) (q := (RX0, TX0, 6)) (c_X0_fail l g μ h1) q3_117 q3_114 q3_116 r1_11 q1_8 hd_X0_fail ⟨rfl, rfl⟩ ⟨by dsimp only; omega, by dsimp only; omega⟩ cx_81 (by decide) rfl hP hS hl.1 rfl rfl (Nat.le_of_ble_eq_true rfl) dX0_readSingle_118 (fun H locs hP hS => ?_)
  refine W.eq (g2 := F0 m 121 ls []) rfl ?_
  obtain rfl := some1 h
  exact x_vret C0 hP hS dX0_readSingle_121
def X0_readSingle_82 (S : Int32 → Mem → Option Mem)  (x1 : Int32) (x2 : Int32) (μ : Mem) : Option Mem :=
  (if x2 = (40 : Int32) then (if (5 : Int32) ≤ x1 then X0_readSingle_117 S μ else lt (st μ 81 4 ((μ 81 4) + (1 : Int32))) fun μ10 => ob (X0_readEither S (x1 + (1 : Int32)) μ10) fun μ11 => ob (X0_readClosing  μ11) fun μ12 => some μ12) else X0_readSingle_117 S μ)
set_option maxRecDepth 100000 in
set_option maxHeartbeats 4000000 in
theorem w_X0_readSingle_82 {g : Gx} {p : Program} {l : Launch} {e : Env} {s : State} {m : MethodId} {args : Array Value} {below : List Frame} {meth : Method} {c : Code} (C0 : Cx Lx g p s m args meth c cX0_readSingle 3 none RX0) {ν : Mem} (S : Int32 → Mem → Option Mem) {F Lo : Nat} (hS0 : ∀ (x1 : Int32) (μ : Mem) (ν : Mem), S x1 μ = some ν → Ct Lx g l yX0_readSingle cX0_readSingle 3 none { frames := F, cells := 0, slots := 0, locals := Lo } [.ref (g.2.2.1 + 81), .int x1] μ none ν)  (x1 : Int32) (x2 : Int32) (μ : Mem) (H : Heap) (locs : List Loc) (ls : Array Slot) (hP : Px Lx g μ H) (hS : va_S (Ax Lx g) s.heap H locs) (hl : lv_has ls 3 [(0, .ref (g.2.2.1 + 81)), (1, .int x1), (2, .int x2)]) (h : X0_readSingle_82 S  x1 x2 μ = some ν) : W p l e { frames := F + 6, cells := 0, slots := 0, locals := Lo + 134 } s m args below meth c H locs 0 0 (MQ below (Qx Lx g none ν) args s 0 0 (Ax Lx g)) (F0 m 82 ls []) := by
  obtain ⟨hx, hb, hr, hml, hown, hts, hlocks, hK⟩ := id C0
  unfold X0_readSingle_82 at h
  refine lv_iload_n hx hb dX0_readSingle_82 rfl (lv_at hl 2 rfl) ?_
  refine lv_bipush (v := (40 : Int32)) hx hb dX0_readSingle_83 (by decide +kernel) ?_
  refine lv_icmp_ne (tgt := 117) hx hb dX0_readSingle_85 (by decide) (fun c7 => ?_) (fun c7 => ?_)
  · rw [if_neg c7] at h
    exact w_X0_readSingle_117 C0 S hS0   μ _ _ _ hP hS (lv_sub hl [0] rfl) h
  · rw [if_pos c7] at h
    refine lv_iload_n hx hb dX0_readSingle_88 rfl (lv_at hl 1 rfl) ?_
    refine lv_iconst (v := (5 : Int32)) hx hb dX0_readSingle_89 rfl ?_
    refine lv_icmp_ge (tgt := 117) hx hb dX0_readSingle_90 (by decide) (fun c9 => ?_) (fun c9 => ?_)
    · rw [if_pos c9] at h
      exact w_X0_readSingle_117 C0 S hS0   μ _ _ _ hP hS (lv_sub hl [0] rfl) h
    · rw [if_neg c9] at h
      refine lv_aload_n hx hb dX0_readSingle_93 rfl (lv_at hl 0 rfl) ?_
      refine lv_dup hx hb dX0_readSingle_94 rfl ?_
      refine x_get C0 hP inu0 (k := 81) cx_81 (by decide) rfl 4 (by decide) q2_31 rfl (v := .int (μ 81 4)) rfl dX0_readSingle_95 ?_
      refine lv_iconst (v := (1 : Int32)) hx hb dX0_readSingle_98 rfl ?_
      refine lv_iadd hx hb dX0_readSingle_99 ?_
      obtain ⟨μ10, e10, h⟩ := lt_some h
      refine x_put C0 hP hS inu0 tyX0 tyX0_ok nmX0 (k := 81) cx_81 (by decide) rfl 4 (by decide) q2_31 rfl rfl (v := .int ((μ 81 4) + (1 : Int32))) (x := ((μ 81 4) + (1 : Int32))) rfl rfl (Nat.le_of_ble_eq_true rfl) (os_0_4 _ _ _ _) dX0_readSingle_100 (fun H locs hP hS => ?_)
      rw [← e10] at hP
      refine lv_aload_n hx hb dX0_readSingle_103 rfl (lv_at hl 0 rfl) ?_
      refine lv_iload_n hx hb dX0_readSingle_104 rfl (lv_at hl 1 rfl) ?_
      refine lv_iconst (v := (1 : Int32)) hx hb dX0_readSingle_105 rfl ?_
      refine lv_iadd hx hb dX0_readSingle_106 ?_
      obtain ⟨μ11, h1, h⟩ := ob_some h
      refine x_callV C0 (rest := []) (q := (RX0, TX0, 6)) (c_X0_readEither l g S hS0 (x1 + (1 : Int32)) μ10 h1) q3_71 q3_68 q3_70 r1_1 q1_8 hd_X0_readEither ⟨rfl, rfl⟩ ⟨by dsimp only; omega, by dsimp only; omega⟩ cx_81 (by decide) rfl hP hS hl.1 rfl rfl (Nat.le_of_ble_eq_true rfl) dX0_readSingle_107 (fun H locs hP hS => ?_)
      refine W.eq (g2 := F0 m 110 ls []) rfl ?_
      refine lv_aload_n hx hb dX0_readSingle_110 rfl (lv_at hl 0 rfl) ?_
      obtain ⟨μ12, h1, h⟩ := ob_some h
      refine x_callV C0 (rest := []) (q := (RX0, TX0, 6)) (c_X0_readClosing l g μ11 h1) q3_113 q3_110 q3_112 r1_10 q1_8 hd_X0_readClosing ⟨rfl, rfl⟩ ⟨by dsimp only; omega, by dsimp only; omega⟩ cx_81 (by decide) rfl hP hS hl.1 rfl rfl (Nat.le_of_ble_eq_true rfl) dX0_readSingle_111 (fun H locs hP hS => ?_)
      refine W.eq (g2 := F0 m 114 ls []) rfl ?_
      refine lv_goto (tgt := 121) hx hb dX0_readSingle_114 (by decide) ?_
      obtain rfl := some1 h
      exact x_vret C0 hP hS dX0_readSingle_121
def X0_readSingle_body (S : Int32 → Mem → Option Mem) (x1 : Int32) (μ : Mem) : Option Mem :=
  ob2 (X0_next  μ) fun r1 μ1 => ob2 (X0_isDigit r1 μ1) fun r2 μ2 => (if r2 = (0 : Int32) then ob2 (X0_isName r1 μ2) fun r4 μ4 => (if r4 = (0 : Int32) then (if r1 = (33 : Int32) then (if (5 : Int32) ≤ x1 then X0_readSingle_82 S x1 r1 μ4 else lt (st μ4 81 4 ((μ4 81 4) + (1 : Int32))) fun μ14 => ob (S (x1 + (1 : Int32)) μ14) fun μ15 => ob (X0_emit (-33 : Int32) μ15) fun μ16 => some μ16) else X0_readSingle_82 S x1 r1 μ4) else lt (st μ4 81 4 ((μ4 81 4) + (1 : Int32))) fun μ17 => ob (X0_emit (-r1) μ17) fun μ18 => some μ18) else ob (X0_readNumber  μ2) fun μ19 => some μ19)
set_option maxRecDepth 100000 in
set_option maxHeartbeats 4000000 in
theorem c_X0_readSingle_body (l : Launch) (g : Gx) (S : Int32 → Mem → Option Mem) {F Lo : Nat} (hS0 : ∀ (x1 : Int32) (μ : Mem) (ν : Mem), S x1 μ = some ν → Ct Lx g l yX0_readSingle cX0_readSingle 3 none { frames := F, cells := 0, slots := 0, locals := Lo } [.ref (g.2.2.1 + 81), .int x1] μ none ν) (x1 : Int32) (μ : Mem) {ν : Mem} (h : X0_readSingle_body S x1 μ = some ν) : Ct Lx g l yX0_readSingle cX0_readSingle 3 none { frames := F + 6, cells := 0, slots := 0, locals := Lo + 134 } [.ref (g.2.2.1 + 81), .int x1] μ none ν := by
  refine x_met (lv := [(0, .ref (g.2.2.1 + 81)), (1, .int x1)]) rfl (Nat.le_of_ble_eq_true rfl) rfl ?_
  intro p e s m below meth c C0 hP ls hl
  generalize ([.ref (g.2.2.1 + 81), .int x1] : List Value).toArray = args at C0 ⊢
  have C0 : Cx Lx g p s m args meth c cX0_readSingle 3 none RX0 := C0
  have hS : va_S (Ax Lx g) s.heap s.heap [] := va_S.rf
  obtain ⟨hx, hb, hr, hml, hown, hts, hlocks, hK⟩ := id C0
  unfold X0_readSingle_body at h
  skip
  refine lv_aload_n hx hb dX0_readSingle_0 rfl (lv_at hl 0 rfl) ?_
  obtain ⟨r1, μ1, h1, h⟩ := ob2_some h
  refine x_callV C0 (rest := []) (q := (RX0, TX0, 6)) (c_X0_next l g μ h1) q3_95 q3_92 q3_94 r1_7 q1_8 hd_X0_next ⟨rfl, rfl⟩ ⟨by dsimp only; omega, by dsimp only; omega⟩ cx_81 (by decide) rfl hP hS hl.1 rfl rfl (Nat.le_of_ble_eq_true rfl) dX0_readSingle_1 (fun H locs hP hS => ?_)
  refine W.eq (g2 := F0 m 4 ls [.int r1]) rfl ?_
  refine lv_istore_n (lv' := [(2, .int r1), (0, .ref (g.2.2.1 + 81)), (1, .int x1)]) hx hb dX0_readSingle_4 rfl hl (by decide) rfl (fun ls hl => ?_)
  refine lv_iload_n hx hb dX0_readSingle_5 rfl (lv_at hl 0 rfl) ?_
  obtain ⟨r2, μ2, h1, h⟩ := ob2_some h
  refine x_callS C0 (rest := []) (c_X0_isDigit l g r1 μ1 h1) q3_98 q3_96 q3_97 q1_8 hd_X0_isDigit ⟨rfl, rfl⟩ ⟨by dsimp only; omega, by dsimp only; omega⟩ hP hS hl.1 rfl rfl (Nat.le_of_ble_eq_true rfl) dX0_readSingle_6 (fun H locs hP hS => ?_)
  refine W.eq (g2 := F0 m 9 ls [.int r2]) rfl ?_
  refine lv_if_eq (tgt := 19) hx hb dX0_readSingle_9 (by decide) (fun c3 => ?_) (fun c3 => ?_)
  · rw [if_pos c3] at h
    refine lv_iload_n hx hb dX0_readSingle_19 rfl (lv_at hl 0 rfl) ?_
    obtain ⟨r4, μ4, h1, h⟩ := ob2_some h
    refine x_callS C0 (rest := []) (c_X0_isName l g r1 μ2 h1) q3_109 q3_107 q3_108 q1_8 hd_X0_isName ⟨rfl, rfl⟩ ⟨by dsimp only; omega, by dsimp only; omega⟩ hP hS hl.1 rfl rfl (Nat.le_of_ble_eq_true rfl) dX0_readSingle_20 (fun H locs hP hS => ?_)
    refine W.eq (g2 := F0 m 23 ls [.int r4]) rfl ?_
    refine lv_if_eq (tgt := 45) hx hb dX0_readSingle_23 (by decide) (fun c5 => ?_) (fun c5 => ?_)
    · rw [if_pos c5] at h
      refine lv_iload_n hx hb dX0_readSingle_45 rfl (lv_at hl 0 rfl) ?_
      refine lv_bipush (v := (33 : Int32)) hx hb dX0_readSingle_46 (by decide +kernel) ?_
      refine lv_icmp_ne (tgt := 82) hx hb dX0_readSingle_48 (by decide) (fun c6 => ?_) (fun c6 => ?_)
      · rw [if_neg c6] at h
        exact w_X0_readSingle_82 C0 S hS0  x1 r1 μ4 _ _ _ hP hS (lv_sub hl [1, 2, 0] rfl) h
      · rw [if_pos c6] at h
        refine lv_iload_n hx hb dX0_readSingle_51 rfl (lv_at hl 2 rfl) ?_
        refine lv_iconst (v := (5 : Int32)) hx hb dX0_readSingle_52 rfl ?_
        refine lv_icmp_ge (tgt := 82) hx hb dX0_readSingle_53 (by decide) (fun c13 => ?_) (fun c13 => ?_)
        · rw [if_pos c13] at h
          exact w_X0_readSingle_82 C0 S hS0  x1 r1 μ4 _ _ _ hP hS (lv_sub hl [1, 2, 0] rfl) h
        · rw [if_neg c13] at h
          refine lv_aload_n hx hb dX0_readSingle_56 rfl (lv_at hl 1 rfl) ?_
          refine lv_dup hx hb dX0_readSingle_57 rfl ?_
          refine x_get C0 hP inu0 (k := 81) cx_81 (by decide) rfl 4 (by decide) q2_31 rfl (v := .int (μ4 81 4)) rfl dX0_readSingle_58 ?_
          refine lv_iconst (v := (1 : Int32)) hx hb dX0_readSingle_61 rfl ?_
          refine lv_iadd hx hb dX0_readSingle_62 ?_
          obtain ⟨μ14, e14, h⟩ := lt_some h
          refine x_put C0 hP hS inu0 tyX0 tyX0_ok nmX0 (k := 81) cx_81 (by decide) rfl 4 (by decide) q2_31 rfl rfl (v := .int ((μ4 81 4) + (1 : Int32))) (x := ((μ4 81 4) + (1 : Int32))) rfl rfl (Nat.le_of_ble_eq_true rfl) (os_0_4 _ _ _ _) dX0_readSingle_63 (fun H locs hP hS => ?_)
          rw [← e14] at hP
          refine lv_aload_n hx hb dX0_readSingle_66 rfl (lv_at hl 1 rfl) ?_
          refine lv_iload_n hx hb dX0_readSingle_67 rfl (lv_at hl 2 rfl) ?_
          refine lv_iconst (v := (1 : Int32)) hx hb dX0_readSingle_68 rfl ?_
          refine lv_iadd hx hb dX0_readSingle_69 ?_
          obtain ⟨μ15, h1, h⟩ := ob_some h
          refine x_callV C0 (rest := []) (q := (RX0, TX0, 6)) (hS0 (x1 + (1 : Int32)) μ14 _ h1) q3_91 q3_88 q3_90 r1_6 q1_8 hd_X0_readSingle ⟨rfl, rfl⟩ ⟨by dsimp only; omega, by dsimp only; omega⟩ cx_81 (by decide) rfl hP hS hl.1 rfl rfl (Nat.le_of_ble_eq_true rfl) dX0_readSingle_70 (fun H locs hP hS => ?_)
          refine W.eq (g2 := F0 m 73 ls []) rfl ?_
          refine lv_aload_n hx hb dX0_readSingle_73 rfl (lv_at hl 1 rfl) ?_
          refine lv_bipush (v := (-33 : Int32)) hx hb dX0_readSingle_74 (by decide +kernel) ?_
          obtain ⟨μ16, h1, h⟩ := ob_some h
          refine x_callV C0 (rest := []) (q := (RX0, TX0, 6)) (c_X0_emit l g (-33 : Int32) μ15 h1) q3_106 q3_103 q3_105 r1_9 q1_8 hd_X0_emit ⟨rfl, rfl⟩ ⟨by dsimp only; omega, by dsimp only; omega⟩ cx_81 (by decide) rfl hP hS hl.1 rfl rfl (Nat.le_of_ble_eq_true rfl) dX0_readSingle_76 (fun H locs hP hS => ?_)
          refine W.eq (g2 := F0 m 79 ls []) rfl ?_
          refine lv_goto (tgt := 121) hx hb dX0_readSingle_79 (by decide) ?_
          obtain rfl := some1 h
          exact x_vret C0 hP hS dX0_readSingle_121
    · rw [if_neg c5] at h
      refine lv_aload_n hx hb dX0_readSingle_26 rfl (lv_at hl 1 rfl) ?_
      refine lv_dup hx hb dX0_readSingle_27 rfl ?_
      refine x_get C0 hP inu0 (k := 81) cx_81 (by decide) rfl 4 (by decide) q2_31 rfl (v := .int (μ4 81 4)) rfl dX0_readSingle_28 ?_
      refine lv_iconst (v := (1 : Int32)) hx hb dX0_readSingle_31 rfl ?_
      refine lv_iadd hx hb dX0_readSingle_32 ?_
      obtain ⟨μ17, e17, h⟩ := lt_some h
      refine x_put C0 hP hS inu0 tyX0 tyX0_ok nmX0 (k := 81) cx_81 (by decide) rfl 4 (by decide) q2_31 rfl rfl (v := .int ((μ4 81 4) + (1 : Int32))) (x := ((μ4 81 4) + (1 : Int32))) rfl rfl (Nat.le_of_ble_eq_true rfl) (os_0_4 _ _ _ _) dX0_readSingle_33 (fun H locs hP hS => ?_)
      rw [← e17] at hP
      refine lv_aload_n hx hb dX0_readSingle_36 rfl (lv_at hl 1 rfl) ?_
      refine lv_iload_n hx hb dX0_readSingle_37 rfl (lv_at hl 0 rfl) ?_
      refine lv_ineg hx hb dX0_readSingle_38 ?_
      obtain ⟨μ18, h1, h⟩ := ob_some h
      refine x_callV C0 (rest := []) (q := (RX0, TX0, 6)) (c_X0_emit l g (-r1) μ17 h1) q3_106 q3_103 q3_105 r1_9 q1_8 hd_X0_emit ⟨rfl, rfl⟩ ⟨by dsimp only; omega, by dsimp only; omega⟩ cx_81 (by decide) rfl hP hS hl.1 rfl rfl (Nat.le_of_ble_eq_true rfl) dX0_readSingle_39 (fun H locs hP hS => ?_)
      refine W.eq (g2 := F0 m 42 ls []) rfl ?_
      refine lv_goto (tgt := 121) hx hb dX0_readSingle_42 (by decide) ?_
      obtain rfl := some1 h
      exact x_vret C0 hP hS dX0_readSingle_121
  · rw [if_neg c3] at h
    refine lv_aload_n hx hb dX0_readSingle_12 rfl (lv_at hl 1 rfl) ?_
    obtain ⟨μ19, h1, h⟩ := ob_some h
    refine x_callV C0 (rest := []) (q := (RX0, TX0, 6)) (c_X0_readNumber l g μ2 h1) q3_102 q3_99 q3_101 r1_8 q1_8 hd_X0_readNumber ⟨rfl, rfl⟩ ⟨by dsimp only; omega, by dsimp only; omega⟩ cx_81 (by decide) rfl hP hS hl.1 rfl rfl (Nat.le_of_ble_eq_true rfl) dX0_readSingle_13 (fun H locs hP hS => ?_)
    refine W.eq (g2 := F0 m 16 ls []) rfl ?_
    refine lv_goto (tgt := 121) hx hb dX0_readSingle_16 (by decide) ?_
    obtain rfl := some1 h
    exact x_vret C0 hP hS dX0_readSingle_121
def X0_readSingle : Nat → Int32 → Mem → Option Mem
  | 0, _, _ => none
  | n + 1, x1, μ => X0_readSingle_body (X0_readSingle n) x1 μ
theorem c_X0_readSingle (l : Launch) (g : Gx) (n : Nat) : ∀ (x1 : Int32) (μ : Mem) (ν : Mem), X0_readSingle n x1 μ = some ν → Ct Lx g l yX0_readSingle cX0_readSingle 3 none { frames := 6 * n, cells := 0, slots := 0, locals := 134 * n } [.ref (g.2.2.1 + 81), .int x1] μ none ν := by
  induction n with
  | zero =>
    intro x1 μ ν h
    have h : (none : Option Mem) = some ν := h
    cases h
  | succ n ih =>
    intro x1 μ ν h
    rw [X0_readSingle.eq_2] at h
    exact c_X0_readSingle_body l g (X0_readSingle n) ih x1 μ h
