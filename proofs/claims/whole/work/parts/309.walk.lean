def X9_greatest_107 (K50 : Int32 → Int32 → Nat → Int32 → Mem → Option (Int32 × Mem)) (x2 : Int32) (x3 : Int32) (a4 : Nat) (x5 : Int32) (μ : Mem) : Option (Int32 × Mem) :=
  K50 x2 x3 a4 (x5 + (-1 : Int32)) μ
set_option maxRecDepth 100000 in
set_option maxHeartbeats 4000000 in
theorem w_X9_greatest_107 {g : Gx} {p : Program} {l : Launch} {e : Env} {s : State} {m : MethodId} {args : Array Value} {below : List Frame} {meth : Method} {c : Code} (C0 : Cx Lx g p s m args meth c cX9_greatest 7 (some .int) RX9) {r : Int32} {ν : Mem} (K50 : Int32 → Int32 → Nat → Int32 → Mem → Option (Int32 × Mem)) (hK50 : ∀ (x2 : Int32) (x3 : Int32) (a4 : Nat) (ha4 : Id2 a4) (x5 : Int32) (μ : Mem) (H : Heap) (locs : List Loc) (ls : Array Slot), Px Lx g μ H → va_S (Ax Lx g) s.heap H locs → lv_has ls 7 [(0, .ref (g.2.2.1 + 0)), (2, .int x2), (3, .int x3), (4, .ref (g.2.2.1 + a4)), (5, .int x5)] → K50 x2 x3 a4 x5 μ = some (r, ν) → W p l e { frames := 6, cells := 0, slots := 0, locals := 152 } s m args below meth c H locs 0 0 (MQ below (Qx Lx g (some (.int r)) ν) args s 0 0 (Ax Lx g)) (F0 m 50 ls [])) (x2 : Int32) (x3 : Int32) (a4 : Nat) (ha4 : Id2 a4) (x5 : Int32) (μ : Mem) (H : Heap) (locs : List Loc) (ls : Array Slot) (hP : Px Lx g μ H) (hS : va_S (Ax Lx g) s.heap H locs) (hl : lv_has ls 7 [(0, .ref (g.2.2.1 + 0)), (2, .int x2), (3, .int x3), (4, .ref (g.2.2.1 + a4)), (5, .int x5)]) (h : X9_greatest_107 K50 x2 x3 a4 x5 μ = some (r, ν)) : W p l e { frames := 6, cells := 0, slots := 0, locals := 152 } s m args below meth c H locs 0 0 (MQ below (Qx Lx g (some (.int r)) ν) args s 0 0 (Ax Lx g)) (F0 m 107 ls []) := by
  obtain ⟨hx, hb, hr, hml, hown, hts, hlocks, hK⟩ := id C0
  unfold X9_greatest_107 at h
  refine lv_iinc (v := (x5 + (-1 : Int32))) (lv' := [(5, .int (x5 + (-1 : Int32))), (0, .ref (g.2.2.1 + 0)), (2, .int x2), (3, .int x3), (4, .ref (g.2.2.1 + a4))]) hx hb dX9_greatest_107 hl (k := 4) rfl rfl (by decide) rfl (fun ls hl => ?_)
  refine lv_goto (tgt := 50) hx hb dX9_greatest_110 (by decide) ?_
  exact hK50 x2 x3 a4 ha4 (x5 + (-1 : Int32)) μ _ _ _ hP hS (lv_sub hl [1, 2, 3, 4, 0] rfl) h
def X9_greatest_78 (K50 : Int32 → Int32 → Nat → Int32 → Mem → Option (Int32 × Mem)) (x2 : Int32) (x3 : Int32) (a4 : Nat) (x5 : Int32) (t0 : Int32) (μ : Mem) : Option (Int32 × Mem) :=
  (if t0 = (0 : Int32) then gd (inB x2 4) (ob2 (X9_darkMore a4 (88 + 2 * x2.toNatClampNeg) x3 x5 (1 : Int32) μ) fun r12 μ12 => (if r12 = (0 : Int32) then some (x5, μ12) else X9_greatest_107 K50 x2 x3 a4 x5 μ12)) else X9_greatest_107 K50 x2 x3 a4 x5 μ)
set_option maxRecDepth 100000 in
set_option maxHeartbeats 4000000 in
theorem w_X9_greatest_78 {g : Gx} {p : Program} {l : Launch} {e : Env} {s : State} {m : MethodId} {args : Array Value} {below : List Frame} {meth : Method} {c : Code} (C0 : Cx Lx g p s m args meth c cX9_greatest 7 (some .int) RX9) {r : Int32} {ν : Mem} (K50 : Int32 → Int32 → Nat → Int32 → Mem → Option (Int32 × Mem)) (hK50 : ∀ (x2 : Int32) (x3 : Int32) (a4 : Nat) (ha4 : Id2 a4) (x5 : Int32) (μ : Mem) (H : Heap) (locs : List Loc) (ls : Array Slot), Px Lx g μ H → va_S (Ax Lx g) s.heap H locs → lv_has ls 7 [(0, .ref (g.2.2.1 + 0)), (2, .int x2), (3, .int x3), (4, .ref (g.2.2.1 + a4)), (5, .int x5)] → K50 x2 x3 a4 x5 μ = some (r, ν) → W p l e { frames := 6, cells := 0, slots := 0, locals := 152 } s m args below meth c H locs 0 0 (MQ below (Qx Lx g (some (.int r)) ν) args s 0 0 (Ax Lx g)) (F0 m 50 ls [])) (x2 : Int32) (x3 : Int32) (a4 : Nat) (ha4 : Id2 a4) (x5 : Int32) (t0 : Int32) (μ : Mem) (H : Heap) (locs : List Loc) (ls : Array Slot) (hP : Px Lx g μ H) (hS : va_S (Ax Lx g) s.heap H locs) (hl : lv_has ls 7 [(0, .ref (g.2.2.1 + 0)), (2, .int x2), (3, .int x3), (4, .ref (g.2.2.1 + a4)), (5, .int x5)]) (h : X9_greatest_78 K50 x2 x3 a4 x5 t0 μ = some (r, ν)) : W p l e { frames := 6, cells := 0, slots := 0, locals := 152 } s m args below meth c H locs 0 0 (MQ below (Qx Lx g (some (.int r)) ν) args s 0 0 (Ax Lx g)) (F0 m 78 ls [.int t0]) := by
  obtain ⟨hx, hb, hr, hml, hown, hts, hlocks, hK⟩ := id C0
  unfold X9_greatest_78 at h
  refine lv_istore (lv' := [(6, .int t0), (0, .ref (g.2.2.1 + 0)), (2, .int x2), (3, .int x3), (4, .ref (g.2.2.1 + a4)), (5, .int x5)]) hx hb dX9_greatest_78 hl (by decide) rfl (fun ls hl => ?_)
  refine lv_iload hx hb dX9_greatest_80 (lv_at hl 0 rfl) ?_
  refine lv_if_ne (tgt := 107) hx hb dX9_greatest_82 (by decide) (fun c10 => ?_) (fun c10 => ?_)
  · rw [if_neg c10] at h
    exact w_X9_greatest_107 C0 K50 hK50 x2 x3 a4 ha4 x5 μ _ _ _ hP hS (lv_sub hl [1, 2, 3, 4, 5] rfl) h
  · rw [if_pos c10] at h
    refine lv_aload_n hx hb dX9_greatest_85 rfl (lv_at hl 1 rfl) ?_
    refine lv_aload hx hb dX9_greatest_86 (lv_at hl 4 rfl) ?_
    refine lv_aload_n hx hb dX9_greatest_88 rfl (lv_at hl 1 rfl) ?_
    refine x_get C0 hP inu9 (k := 0) cx_0 (by decide) rfl 5 (by decide) q2_86 rfl (v := .ref (g.2.2.1 + 85)) rfl dX9_greatest_89 ?_
    refine lv_iload_n hx hb dX9_greatest_92 rfl (lv_at hl 2 rfl) ?_
    obtain ⟨z11, h⟩ := gd_some h
    refine x_saald C0 hP (k := 85) cx_85 (j := x2.toNatClampNeg) z11 rfl dX9_greatest_93 ?_
    refine W.eq (g2 := F0 m 94 ls [.ref (g.2.2.1 + (88 + 2 * x2.toNatClampNeg)), .ref (g.2.2.1 + a4), .ref (g.2.2.1 + 0)]) rfl ?_
    refine lv_iload_n hx hb dX9_greatest_94 rfl (lv_at hl 3 rfl) ?_
    refine lv_iload hx hb dX9_greatest_95 (lv_at hl 5 rfl) ?_
    refine lv_iconst (v := (1 : Int32)) hx hb dX9_greatest_97 rfl ?_
    obtain ⟨r12, μ12, h1, h⟩ := ob2_some h
    refine x_callV C0 (rest := []) (q := (RX9, TX9, 9)) (c_X9_darkMore l g a4 ha4 (88 + 2 * x2.toNatClampNeg) (sht_i z11) x3 x5 (1 : Int32) μ h1) q3_218 q3_215 q3_217 r1_15 q1_1 hd_X9_darkMore ⟨rfl, rfl⟩ ⟨Nat.le_of_ble_eq_true rfl, Nat.le_of_ble_eq_true rfl⟩ cx_0 (by decide) rfl hP hS hl.1 rfl rfl (Nat.le_of_ble_eq_true rfl) dX9_greatest_98 (fun H locs hP hS => ?_)
    refine W.eq (g2 := F0 m 101 ls [.int r12]) rfl ?_
    refine lv_if_ne (tgt := 107) hx hb dX9_greatest_101 (by decide) (fun c13 => ?_) (fun c13 => ?_)
    · rw [if_neg c13] at h
      exact w_X9_greatest_107 C0 K50 hK50 x2 x3 a4 ha4 x5 μ12 _ _ _ hP hS (lv_sub hl [1, 2, 3, 4, 5] rfl) h
    · rw [if_pos c13] at h
      refine lv_iload hx hb dX9_greatest_104 (lv_at hl 5 rfl) ?_
      obtain ⟨rfl, rfl⟩ := some2 h
      exact x_iret C0 hP hS dX9_greatest_106
def X9_greatest_77 (K50 : Int32 → Int32 → Nat → Int32 → Mem → Option (Int32 × Mem)) (x2 : Int32) (x3 : Int32) (a4 : Nat) (x5 : Int32) (μ : Mem) : Option (Int32 × Mem) :=
  X9_greatest_78 K50 x2 x3 a4 x5 (0 : Int32) μ
set_option maxRecDepth 100000 in
set_option maxHeartbeats 4000000 in
theorem w_X9_greatest_77 {g : Gx} {p : Program} {l : Launch} {e : Env} {s : State} {m : MethodId} {args : Array Value} {below : List Frame} {meth : Method} {c : Code} (C0 : Cx Lx g p s m args meth c cX9_greatest 7 (some .int) RX9) {r : Int32} {ν : Mem} (K50 : Int32 → Int32 → Nat → Int32 → Mem → Option (Int32 × Mem)) (hK50 : ∀ (x2 : Int32) (x3 : Int32) (a4 : Nat) (ha4 : Id2 a4) (x5 : Int32) (μ : Mem) (H : Heap) (locs : List Loc) (ls : Array Slot), Px Lx g μ H → va_S (Ax Lx g) s.heap H locs → lv_has ls 7 [(0, .ref (g.2.2.1 + 0)), (2, .int x2), (3, .int x3), (4, .ref (g.2.2.1 + a4)), (5, .int x5)] → K50 x2 x3 a4 x5 μ = some (r, ν) → W p l e { frames := 6, cells := 0, slots := 0, locals := 152 } s m args below meth c H locs 0 0 (MQ below (Qx Lx g (some (.int r)) ν) args s 0 0 (Ax Lx g)) (F0 m 50 ls [])) (x2 : Int32) (x3 : Int32) (a4 : Nat) (ha4 : Id2 a4) (x5 : Int32) (μ : Mem) (H : Heap) (locs : List Loc) (ls : Array Slot) (hP : Px Lx g μ H) (hS : va_S (Ax Lx g) s.heap H locs) (hl : lv_has ls 7 [(0, .ref (g.2.2.1 + 0)), (2, .int x2), (3, .int x3), (4, .ref (g.2.2.1 + a4)), (5, .int x5)]) (h : X9_greatest_77 K50 x2 x3 a4 x5 μ = some (r, ν)) : W p l e { frames := 6, cells := 0, slots := 0, locals := 152 } s m args below meth c H locs 0 0 (MQ below (Qx Lx g (some (.int r)) ν) args s 0 0 (Ax Lx g)) (F0 m 77 ls []) := by
  obtain ⟨hx, hb, hr, hml, hown, hts, hlocks, hK⟩ := id C0
  unfold X9_greatest_77 at h
  refine lv_iconst (v := (0 : Int32)) hx hb dX9_greatest_77 rfl ?_
  exact w_X9_greatest_78 C0 K50 hK50 x2 x3 a4 ha4 x5 (0 : Int32) μ _ _ _ hP hS (lv_sub hl [0, 1, 2, 3, 4] rfl) h
def X9_greatest_50  : Nat → Int32 → Int32 → Nat → Int32 → Mem → Option (Int32 × Mem)
  | 0, _, _, _, _, _ => none
  | n + 1, x2, x3, a4, x5, μ => (if x5 < (0 : Int32) then ob2 (X9_finding (3 : Int32) μ) fun r8 μ8 => some (r8, μ8) else (if (200 : Int32) ≤ x5 then X9_greatest_77 (X9_greatest_50 n) x2 x3 a4 x5 μ else (if x5 < (μ a4 6) then X9_greatest_77 (X9_greatest_50 n) x2 x3 a4 x5 μ else X9_greatest_78 (X9_greatest_50 n) x2 x3 a4 x5 (1 : Int32) μ)))
set_option maxRecDepth 100000 in
set_option maxHeartbeats 4000000 in
theorem w_X9_greatest_50 {g : Gx} {p : Program} {l : Launch} {e : Env} {s : State} {m : MethodId} {args : Array Value} {below : List Frame} {meth : Method} {c : Code} (C0 : Cx Lx g p s m args meth c cX9_greatest 7 (some .int) RX9) {r : Int32} {ν : Mem}  (n : Nat) : ∀ (x2 : Int32) (x3 : Int32) (a4 : Nat) (ha4 : Id2 a4) (x5 : Int32) (μ : Mem) (H : Heap) (locs : List Loc) (ls : Array Slot), Px Lx g μ H → va_S (Ax Lx g) s.heap H locs → lv_has ls 7 [(0, .ref (g.2.2.1 + 0)), (2, .int x2), (3, .int x3), (4, .ref (g.2.2.1 + a4)), (5, .int x5)] → X9_greatest_50  n x2 x3 a4 x5 μ = some (r, ν) → W p l e { frames := 6, cells := 0, slots := 0, locals := 152 } s m args below meth c H locs 0 0 (MQ below (Qx Lx g (some (.int r)) ν) args s 0 0 (Ax Lx g)) (F0 m 50 ls []) := by
  obtain ⟨hx, hb, hr, hml, hown, hts, hlocks, hK⟩ := id C0
  induction n with
  | zero =>
    intro x2 x3 a4 ha4 x5 μ H locs ls hP hS hl h
    have h : (none : Option (Int32 × Mem)) = some (r, ν) := h
    cases h
  | succ n ih =>
    intro x2 x3 a4 ha4 x5 μ H locs ls hP hS hl h
    rw [X9_greatest_50.eq_2] at h
    refine lv_iload hx hb dX9_greatest_50 (lv_at hl 4 rfl) ?_
    refine lv_if_lt (tgt := 113) hx hb dX9_greatest_52 (by decide) (fun c7 => ?_) (fun c7 => ?_)
    · rw [if_pos c7] at h
      refine lv_aload_n hx hb dX9_greatest_113 rfl (lv_at hl 0 rfl) ?_
      refine lv_iconst (v := (3 : Int32)) hx hb dX9_greatest_114 rfl ?_
      obtain ⟨r8, μ8, h1, h⟩ := ob2_some h
      refine x_callV C0 (rest := []) (q := (RX9, TX9, 9)) (c_X9_finding l g (3 : Int32) μ h1) q2_122 q2_119 q2_121 r1_0 q1_1 hd_X9_finding ⟨rfl, rfl⟩ ⟨Nat.le_of_ble_eq_true rfl, Nat.le_of_ble_eq_true rfl⟩ cx_0 (by decide) rfl hP hS hl.1 rfl rfl (Nat.le_of_ble_eq_true rfl) dX9_greatest_115 (fun H locs hP hS => ?_)
      refine W.eq (g2 := F0 m 118 ls [.int r8]) rfl ?_
      obtain ⟨rfl, rfl⟩ := some2 h
      exact x_iret C0 hP hS dX9_greatest_118
    · rw [if_neg c7] at h
      refine lv_iload hx hb dX9_greatest_55 (lv_at hl 4 rfl) ?_
      refine lv_sipush (v := (200 : Int32)) hx hb dX9_greatest_57 (by decide +kernel) ?_
      refine lv_icmp_ge (tgt := 77) hx hb dX9_greatest_60 (by decide) (fun c9 => ?_) (fun c9 => ?_)
      · rw [if_pos c9] at h
        exact w_X9_greatest_77 C0 (X9_greatest_50  n) ih x2 x3 a4 ha4 x5 μ _ _ _ hP hS (lv_sub hl [0, 1, 2, 3, 4] rfl) h
      · rw [if_neg c9] at h
        refine lv_iload hx hb dX9_greatest_63 (lv_at hl 4 rfl) ?_
        refine lv_aload hx hb dX9_greatest_65 (lv_at hl 3 rfl) ?_
        refine x_get C0 hP inu2 (k := a4) (id2_0 ha4) (by decide) rfl 6 (by decide) q1_162 rfl (v := .int (μ a4 6)) rfl dX9_greatest_67 ?_
        refine lv_icmp_lt (tgt := 77) hx hb dX9_greatest_70 (by decide) (fun c14 => ?_) (fun c14 => ?_)
        · rw [if_pos c14] at h
          exact w_X9_greatest_77 C0 (X9_greatest_50  n) ih x2 x3 a4 ha4 x5 μ _ _ _ hP hS (lv_sub hl [0, 1, 2, 3, 4] rfl) h
        · rw [if_neg c14] at h
          refine lv_iconst (v := (1 : Int32)) hx hb dX9_greatest_73 rfl ?_
          refine lv_goto (tgt := 78) hx hb dX9_greatest_74 (by decide) ?_
          exact w_X9_greatest_78 C0 (X9_greatest_50  n) ih x2 x3 a4 ha4 x5 (1 : Int32) μ _ _ _ hP hS (lv_sub hl [0, 1, 2, 3, 4] rfl) h
def X9_greatest (x1 : Int32) (x2 : Int32) (x3 : Int32) (μ : Mem) : Option (Int32 × Mem) :=
  ob2 (X9_isHolding x1 x2 x3 μ) fun r1 μ1 => (if r1 = (0 : Int32) then ob2 (X9_finding (1 : Int32) μ1) fun r16 μ16 => some (r16, μ16) else gd (inB x2 4) (ob2 (X4_isMissing (88 + 2 * x2.toNatClampNeg) μ1) fun r4 μ4 => (if r4 = (0 : Int32) then gd (inB x1 8) (X9_greatest_50 FU x2 x3 (24 + 2 * x1.toNatClampNeg) (200 : Int32) μ4) else ob2 (X9_finding (2 : Int32) μ4) fun r15 μ15 => some (r15, μ15))))
set_option maxRecDepth 100000 in
set_option maxHeartbeats 4000000 in
theorem c_X9_greatest (l : Launch) (g : Gx) (x1 : Int32) (x2 : Int32) (x3 : Int32) (μ : Mem) {r : Int32} {ν : Mem} (h : X9_greatest x1 x2 x3 μ = some (r, ν)) : Ct Lx g l yX9_greatest cX9_greatest 7 (some .int) { frames := 6, cells := 0, slots := 0, locals := 152 } [.ref (g.2.2.1 + 0), .int x1, .int x2, .int x3] μ (some (.int r)) ν := by
  refine x_met (lv := [(0, .ref (g.2.2.1 + 0)), (1, .int x1), (2, .int x2), (3, .int x3)]) rfl (Nat.le_of_ble_eq_true rfl) rfl ?_
  intro p e s m below meth c C0 hP ls hl
  generalize ([.ref (g.2.2.1 + 0), .int x1, .int x2, .int x3] : List Value).toArray = args at C0 ⊢
  have C0 : Cx Lx g p s m args meth c cX9_greatest 7 (some .int) RX9 := C0
  have hS : va_S (Ax Lx g) s.heap s.heap [] := va_S.rf
  obtain ⟨hx, hb, hr, hml, hown, hts, hlocks, hK⟩ := id C0
  unfold X9_greatest at h
  skip
  refine lv_aload_n hx hb dX9_greatest_0 rfl (lv_at hl 0 rfl) ?_
  refine lv_iload_n hx hb dX9_greatest_1 rfl (lv_at hl 1 rfl) ?_
  refine lv_iload_n hx hb dX9_greatest_2 rfl (lv_at hl 2 rfl) ?_
  refine lv_iload_n hx hb dX9_greatest_3 rfl (lv_at hl 3 rfl) ?_
  obtain ⟨r1, μ1, h1, h⟩ := ob2_some h
  refine x_callV C0 (rest := []) (q := (RX9, TX9, 9)) (c_X9_isHolding l g x1 x2 x3 μ h1) q3_207 q3_204 q3_206 r1_14 q1_1 hd_X9_isHolding ⟨rfl, rfl⟩ ⟨Nat.le_of_ble_eq_true rfl, Nat.le_of_ble_eq_true rfl⟩ cx_0 (by decide) rfl hP hS hl.1 rfl rfl (Nat.le_of_ble_eq_true rfl) dX9_greatest_4 (fun H locs hP hS => ?_)
  refine W.eq (g2 := F0 m 7 ls [.int r1]) rfl ?_
  refine lv_if_ne (tgt := 16) hx hb dX9_greatest_7 (by decide) (fun c2 => ?_) (fun c2 => ?_)
  · rw [if_neg c2] at h
    refine lv_aload_n hx hb dX9_greatest_16 rfl (lv_at hl 0 rfl) ?_
    refine x_get C0 hP inu9 (k := 0) cx_0 (by decide) rfl 5 (by decide) q2_86 rfl (v := .ref (g.2.2.1 + 85)) rfl dX9_greatest_17 ?_
    refine lv_iload_n hx hb dX9_greatest_20 rfl (lv_at hl 2 rfl) ?_
    obtain ⟨z3, h⟩ := gd_some h
    refine x_saald C0 hP (k := 85) cx_85 (j := x2.toNatClampNeg) z3 rfl dX9_greatest_21 ?_
    refine W.eq (g2 := F0 m 22 ls [.ref (g.2.2.1 + (88 + 2 * x2.toNatClampNeg))]) rfl ?_
    obtain ⟨r4, μ4, h1, h⟩ := ob2_some h
    refine x_callV C0 (rest := []) (q := (RX4, TX4, 3)) (c_X4_isMissing l g (88 + 2 * x2.toNatClampNeg) (sht_i z3) μ1 h1) q3_214 q3_211 q3_212 q3_213 q1_10 hd_X4_isMissing ⟨rfl, rfl⟩ ⟨Nat.le_of_ble_eq_true rfl, Nat.le_of_ble_eq_true rfl⟩ (id4_0 (sht_i z3)) (by decide) rfl hP hS hl.1 rfl rfl (Nat.le_of_ble_eq_true rfl) dX9_greatest_22 (fun H locs hP hS => ?_)
    refine W.eq (g2 := F0 m 25 ls [.int r4]) rfl ?_
    refine lv_if_eq (tgt := 34) hx hb dX9_greatest_25 (by decide) (fun c5 => ?_) (fun c5 => ?_)
    · rw [if_pos c5] at h
      refine lv_aload_n hx hb dX9_greatest_34 rfl (lv_at hl 0 rfl) ?_
      refine x_get C0 hP inu9 (k := 0) cx_0 (by decide) rfl 0 (by decide) q2_81 rfl (v := .ref (g.2.2.1 + 1)) rfl dX9_greatest_35 ?_
      refine x_get C0 hP inu7 (k := 1) cx_1 (by decide) rfl 0 (by decide) q1_221 rfl (v := .ref (g.2.2.1 + 2)) rfl dX9_greatest_38 ?_
      refine lv_iload_n hx hb dX9_greatest_41 rfl (lv_at hl 1 rfl) ?_
      obtain ⟨z6, h⟩ := gd_some h
      refine x_maald C0 hP (k := 2) cx_2 (j := x1.toNatClampNeg) z6 rfl dX9_greatest_42 ?_
      refine W.eq (g2 := F0 m 43 ls [.ref (g.2.2.1 + (24 + 2 * x1.toNatClampNeg))]) rfl ?_
      refine lv_astore (lv' := [(4, .ref (g.2.2.1 + (24 + 2 * x1.toNatClampNeg))), (0, .ref (g.2.2.1 + 0)), (1, .int x1), (2, .int x2), (3, .int x3)]) hx hb dX9_greatest_43 hl (by decide) rfl (fun ls hl => ?_)
      refine lv_sipush (v := (200 : Int32)) hx hb dX9_greatest_45 (by decide +kernel) ?_
      refine lv_istore (lv' := [(5, .int (200 : Int32)), (4, .ref (g.2.2.1 + (24 + 2 * x1.toNatClampNeg))), (0, .ref (g.2.2.1 + 0)), (1, .int x1), (2, .int x2), (3, .int x3)]) hx hb dX9_greatest_48 hl (by decide) rfl (fun ls hl => ?_)
      exact w_X9_greatest_50 C0  FU x2 x3 (24 + 2 * x1.toNatClampNeg) (met_i z6) (200 : Int32) μ4 _ _ _ hP hS (lv_sub hl [2, 4, 5, 1, 0] rfl) h
    · rw [if_neg c5] at h
      refine lv_aload_n hx hb dX9_greatest_28 rfl (lv_at hl 0 rfl) ?_
      refine lv_iconst (v := (2 : Int32)) hx hb dX9_greatest_29 rfl ?_
      obtain ⟨r15, μ15, h1, h⟩ := ob2_some h
      refine x_callV C0 (rest := []) (q := (RX9, TX9, 9)) (c_X9_finding l g (2 : Int32) μ4 h1) q2_122 q2_119 q2_121 r1_0 q1_1 hd_X9_finding ⟨rfl, rfl⟩ ⟨Nat.le_of_ble_eq_true rfl, Nat.le_of_ble_eq_true rfl⟩ cx_0 (by decide) rfl hP hS hl.1 rfl rfl (Nat.le_of_ble_eq_true rfl) dX9_greatest_30 (fun H locs hP hS => ?_)
      refine W.eq (g2 := F0 m 33 ls [.int r15]) rfl ?_
      obtain ⟨rfl, rfl⟩ := some2 h
      exact x_iret C0 hP hS dX9_greatest_33
  · rw [if_pos c2] at h
    refine lv_aload_n hx hb dX9_greatest_10 rfl (lv_at hl 0 rfl) ?_
    refine lv_iconst (v := (1 : Int32)) hx hb dX9_greatest_11 rfl ?_
    obtain ⟨r16, μ16, h1, h⟩ := ob2_some h
    refine x_callV C0 (rest := []) (q := (RX9, TX9, 9)) (c_X9_finding l g (1 : Int32) μ1 h1) q2_122 q2_119 q2_121 r1_0 q1_1 hd_X9_finding ⟨rfl, rfl⟩ ⟨Nat.le_of_ble_eq_true rfl, Nat.le_of_ble_eq_true rfl⟩ cx_0 (by decide) rfl hP hS hl.1 rfl rfl (Nat.le_of_ble_eq_true rfl) dX9_greatest_12 (fun H locs hP hS => ?_)
    refine W.eq (g2 := F0 m 15 ls [.int r16]) rfl ?_
    obtain ⟨rfl, rfl⟩ := some2 h
    exact x_iret C0 hP hS dX9_greatest_15
def X9_isReach (x0 : Int32) (μ : Mem) : Option (Int32 × Mem) :=
  (if x0 < (0 : Int32) then some ((0 : Int32), μ) else (if (60 : Int32) < x0 then some ((0 : Int32), μ) else some ((1 : Int32), μ)))
set_option maxRecDepth 100000 in
set_option maxHeartbeats 4000000 in
theorem c_X9_isReach (l : Launch) (g : Gx) (x0 : Int32) (μ : Mem) {r : Int32} {ν : Mem} (h : X9_isReach x0 μ = some (r, ν)) : Ct Lx g l yX9_isReach cX9_isReach 1 (some .boolean) { frames := 0, cells := 0, slots := 0, locals := 0 } [.int x0] μ (some (.int r)) ν := by
  refine x_met (lv := [(0, .int x0)]) rfl (Nat.le_of_ble_eq_true rfl) rfl ?_
  intro p e s m below meth c C0 hP ls hl
  generalize ([.int x0] : List Value).toArray = args at C0 ⊢
  have C0 : Cx Lx g p s m args meth c cX9_isReach 1 (some .boolean) RX9 := C0
  have hS : va_S (Ax Lx g) s.heap s.heap [] := va_S.rf
  obtain ⟨hx, hb, hr, hml, hown, hts, hlocks, hK⟩ := id C0
  unfold X9_isReach at h
  skip
  refine lv_iload_n hx hb dX9_isReach_0 rfl (lv_at hl 0 rfl) ?_
  refine lv_if_lt (tgt := 14) hx hb dX9_isReach_1 (by decide) (fun c1 => ?_) (fun c1 => ?_)
  · rw [if_pos c1] at h
    refine lv_iconst (v := (0 : Int32)) hx hb dX9_isReach_14 rfl ?_
    obtain ⟨rfl, rfl⟩ := some2 h
    exact x_zret C0 hP hS (by decide) dX9_isReach_15
  · rw [if_neg c1] at h
    refine lv_iload_n hx hb dX9_isReach_4 rfl (lv_at hl 0 rfl) ?_
    refine lv_bipush (v := (60 : Int32)) hx hb dX9_isReach_5 (by decide +kernel) ?_
    refine lv_icmp_gt (tgt := 14) hx hb dX9_isReach_7 (by decide) (fun c2 => ?_) (fun c2 => ?_)
    · rw [if_pos c2] at h
      refine lv_iconst (v := (0 : Int32)) hx hb dX9_isReach_14 rfl ?_
      obtain ⟨rfl, rfl⟩ := some2 h
      exact x_zret C0 hP hS (by decide) dX9_isReach_15
    · rw [if_neg c2] at h
      refine lv_iconst (v := (1 : Int32)) hx hb dX9_isReach_10 rfl ?_
      refine lv_goto (tgt := 15) hx hb dX9_isReach_11 (by decide) ?_
      obtain ⟨rfl, rfl⟩ := some2 h
      exact x_zret C0 hP hS (by decide) dX9_isReach_15
def X9_findNear_2  : Nat → Int32 → Int32 → Int32 → Mem → Option Mem
  | 0, _, _, _, _ => none
  | n + 1, x1, x2, x3, μ => (if (μ 1 6) ≤ x3 then some μ else gd (inB x3 8) (ob2 (X5_openWithin (24 + 2 * x3.toNatClampNeg) x1 x2 μ) fun r3 μ3 => gd (inB x3 8) (lt (st μ3 87 x3.toNatClampNeg r3) fun μ5 => (X9_findNear_2 n) x1 x2 (x3 + (1 : Int32)) μ5)))
set_option maxRecDepth 100000 in
set_option maxHeartbeats 4000000 in
theorem w_X9_findNear_2 {g : Gx} {p : Program} {l : Launch} {e : Env} {s : State} {m : MethodId} {args : Array Value} {below : List Frame} {meth : Method} {c : Code} (C0 : Cx Lx g p s m args meth c cX9_findNear 4 none RX9) {ν : Mem}  (n : Nat) : ∀ (x1 : Int32) (x2 : Int32) (x3 : Int32) (μ : Mem) (H : Heap) (locs : List Loc) (ls : Array Slot), Px Lx g μ H → va_S (Ax Lx g) s.heap H locs → lv_has ls 4 [(0, .ref (g.2.2.1 + 0)), (1, .int x1), (2, .int x2), (3, .int x3)] → X9_findNear_2  n x1 x2 x3 μ = some ν → W p l e { frames := 3, cells := 0, slots := 0, locals := 68 } s m args below meth c H locs 0 0 (MQ below (Qx Lx g none ν) args s 0 0 (Ax Lx g)) (F0 m 2 ls []) := by
  obtain ⟨hx, hb, hr, hml, hown, hts, hlocks, hK⟩ := id C0
  induction n with
  | zero =>
    intro x1 x2 x3 μ H locs ls hP hS hl h
    have h : (none : Option Mem) = some ν := h
    cases h
  | succ n ih =>
    intro x1 x2 x3 μ H locs ls hP hS hl h
    rw [X9_findNear_2.eq_2] at h
    refine lv_iload_n hx hb dX9_findNear_2 rfl (lv_at hl 3 rfl) ?_
    refine lv_aload_n hx hb dX9_findNear_3 rfl (lv_at hl 0 rfl) ?_
    refine x_get C0 hP inu9 (k := 0) cx_0 (by decide) rfl 0 (by decide) q2_81 rfl (v := .ref (g.2.2.1 + 1)) rfl dX9_findNear_4 ?_
    refine x_get C0 hP inu7 (k := 1) cx_1 (by decide) rfl 6 (by decide) q1_233 rfl (v := .int (μ 1 6)) rfl dX9_findNear_7 ?_
    refine lv_icmp_ge (tgt := 46) hx hb dX9_findNear_10 (by decide) (fun c1 => ?_) (fun c1 => ?_)
    · rw [if_pos c1] at h
      obtain rfl := some1 h
      exact x_vret C0 hP hS dX9_findNear_46
    · rw [if_neg c1] at h
      refine lv_aload_n hx hb dX9_findNear_13 rfl (lv_at hl 0 rfl) ?_
      refine x_get C0 hP inu9 (k := 0) cx_0 (by decide) rfl 7 (by decide) q2_88 rfl (v := .ref (g.2.2.1 + 87)) rfl dX9_findNear_14 ?_
      refine lv_iload_n hx hb dX9_findNear_17 rfl (lv_at hl 3 rfl) ?_
      refine lv_aload_n hx hb dX9_findNear_18 rfl (lv_at hl 0 rfl) ?_
      refine x_get C0 hP inu9 (k := 0) cx_0 (by decide) rfl 0 (by decide) q2_81 rfl (v := .ref (g.2.2.1 + 1)) rfl dX9_findNear_19 ?_
      refine x_get C0 hP inu7 (k := 1) cx_1 (by decide) rfl 1 (by decide) q1_223 rfl (v := .ref (g.2.2.1 + 3)) rfl dX9_findNear_22 ?_
      refine lv_aload_n hx hb dX9_findNear_25 rfl (lv_at hl 0 rfl) ?_
      refine x_get C0 hP inu9 (k := 0) cx_0 (by decide) rfl 0 (by decide) q2_81 rfl (v := .ref (g.2.2.1 + 1)) rfl dX9_findNear_26 ?_
      refine x_get C0 hP inu7 (k := 1) cx_1 (by decide) rfl 0 (by decide) q1_221 rfl (v := .ref (g.2.2.1 + 2)) rfl dX9_findNear_29 ?_
      refine lv_iload_n hx hb dX9_findNear_32 rfl (lv_at hl 3 rfl) ?_
      obtain ⟨z2, h⟩ := gd_some h
      refine x_maald C0 hP (k := 2) cx_2 (j := x3.toNatClampNeg) z2 rfl dX9_findNear_33 ?_
      refine W.eq (g2 := F0 m 34 ls [.ref (g.2.2.1 + (24 + 2 * x3.toNatClampNeg)), .ref (g.2.2.1 + 3), .int x3, .ref (g.2.2.1 + 87)]) rfl ?_
      refine lv_iload_n hx hb dX9_findNear_34 rfl (lv_at hl 1 rfl) ?_
      refine lv_iload_n hx hb dX9_findNear_35 rfl (lv_at hl 2 rfl) ?_
      obtain ⟨r3, μ3, h1, h⟩ := ob2_some h
      refine x_callV C0 (rest := [.int x3, .ref (g.2.2.1 + 87)]) (q := (RX5, TX5, 5)) (c_X5_openWithin l g (24 + 2 * x3.toNatClampNeg) (met_i z2) x1 x2 μ h1) q4_7 q4_4 q4_5 q4_6 q1_3 hd_X5_openWithin ⟨rfl, rfl⟩ ⟨Nat.le_of_ble_eq_true rfl, Nat.le_of_ble_eq_true rfl⟩ cx_3 (by decide) rfl hP hS hl.1 rfl rfl (Nat.le_of_ble_eq_true rfl) dX9_findNear_36 (fun H locs hP hS => ?_)
      refine W.eq (g2 := F0 m 39 ls [.int r3, .int x3, .ref (g.2.2.1 + 87)]) rfl ?_
      obtain ⟨z4, h⟩ := gd_some h
      obtain ⟨μ5, e5, h⟩ := lt_some h
      refine x_iast C0 hP hS (k := 87) cx_87 (j := x3.toNatClampNeg) z4 rfl dX9_findNear_39 (fun H locs hP hS => ?_)
      rw [← e5] at hP
      refine lv_iinc (v := (x3 + (1 : Int32))) (lv' := [(3, .int (x3 + (1 : Int32))), (0, .ref (g.2.2.1 + 0)), (1, .int x1), (2, .int x2)]) hx hb dX9_findNear_40 hl (k := 3) rfl rfl (by decide) rfl (fun ls hl => ?_)
      refine lv_goto (tgt := 2) hx hb dX9_findNear_43 (by decide) ?_
      exact ih x1 x2 (x3 + (1 : Int32)) μ5 _ _ _ hP hS (lv_sub hl [1, 2, 3, 0] rfl) h
def X9_findNear (x1 : Int32) (x2 : Int32) (μ : Mem) : Option Mem :=
  X9_findNear_2 FU x1 x2 (0 : Int32) μ
set_option maxRecDepth 100000 in
set_option maxHeartbeats 4000000 in
theorem c_X9_findNear (l : Launch) (g : Gx) (x1 : Int32) (x2 : Int32) (μ : Mem) {ν : Mem} (h : X9_findNear x1 x2 μ = some ν) : Ct Lx g l yX9_findNear cX9_findNear 4 none { frames := 3, cells := 0, slots := 0, locals := 68 } [.ref (g.2.2.1 + 0), .int x1, .int x2] μ none ν := by
  refine x_met (lv := [(0, .ref (g.2.2.1 + 0)), (1, .int x1), (2, .int x2)]) rfl (Nat.le_of_ble_eq_true rfl) rfl ?_
  intro p e s m below meth c C0 hP ls hl
  generalize ([.ref (g.2.2.1 + 0), .int x1, .int x2] : List Value).toArray = args at C0 ⊢
  have C0 : Cx Lx g p s m args meth c cX9_findNear 4 none RX9 := C0
  have hS : va_S (Ax Lx g) s.heap s.heap [] := va_S.rf
  obtain ⟨hx, hb, hr, hml, hown, hts, hlocks, hK⟩ := id C0
  unfold X9_findNear at h
  skip
  refine lv_iconst (v := (0 : Int32)) hx hb dX9_findNear_0 rfl ?_
  refine lv_istore_n (lv' := [(3, .int (0 : Int32)), (0, .ref (g.2.2.1 + 0)), (1, .int x1), (2, .int x2)]) hx hb dX9_findNear_1 rfl hl (by decide) rfl (fun ls hl => ?_)
  exact w_X9_findNear_2 C0  FU x1 x2 (0 : Int32) μ _ _ _ hP hS (lv_sub hl [1, 2, 3, 0] rfl) h
def J6_bitCount_0f7a4 (x0 : Int32) (μ : Mem) : Option (Int32 × Mem) :=
  some (((((((((x0 - ((x0.toUInt32 >>> ((1 : Int32).toUInt32 &&& Int32.toUInt32 31)).toInt32 &&& (1431655765 : Int32))) &&& (858993459 : Int32)) + (((x0 - ((x0.toUInt32 >>> ((1 : Int32).toUInt32 &&& Int32.toUInt32 31)).toInt32 &&& (1431655765 : Int32))).toUInt32 >>> ((2 : Int32).toUInt32 &&& Int32.toUInt32 31)).toInt32 &&& (858993459 : Int32))) + ((((x0 - ((x0.toUInt32 >>> ((1 : Int32).toUInt32 &&& Int32.toUInt32 31)).toInt32 &&& (1431655765 : Int32))) &&& (858993459 : Int32)) + (((x0 - ((x0.toUInt32 >>> ((1 : Int32).toUInt32 &&& Int32.toUInt32 31)).toInt32 &&& (1431655765 : Int32))).toUInt32 >>> ((2 : Int32).toUInt32 &&& Int32.toUInt32 31)).toInt32 &&& (858993459 : Int32))).toUInt32 >>> ((4 : Int32).toUInt32 &&& Int32.toUInt32 31)).toInt32) &&& (252645135 : Int32)) + ((((((x0 - ((x0.toUInt32 >>> ((1 : Int32).toUInt32 &&& Int32.toUInt32 31)).toInt32 &&& (1431655765 : Int32))) &&& (858993459 : Int32)) + (((x0 - ((x0.toUInt32 >>> ((1 : Int32).toUInt32 &&& Int32.toUInt32 31)).toInt32 &&& (1431655765 : Int32))).toUInt32 >>> ((2 : Int32).toUInt32 &&& Int32.toUInt32 31)).toInt32 &&& (858993459 : Int32))) + ((((x0 - ((x0.toUInt32 >>> ((1 : Int32).toUInt32 &&& Int32.toUInt32 31)).toInt32 &&& (1431655765 : Int32))) &&& (858993459 : Int32)) + (((x0 - ((x0.toUInt32 >>> ((1 : Int32).toUInt32 &&& Int32.toUInt32 31)).toInt32 &&& (1431655765 : Int32))).toUInt32 >>> ((2 : Int32).toUInt32 &&& Int32.toUInt32 31)).toInt32 &&& (858993459 : Int32))).toUInt32 >>> ((4 : Int32).toUInt32 &&& Int32.toUInt32 31)).toInt32) &&& (252645135 : Int32)).toUInt32 >>> ((8 : Int32).toUInt32 &&& Int32.toUInt32 31)).toInt32) + (((((((x0 - ((x0.toUInt32 >>> ((1 : Int32).toUInt32 &&& Int32.toUInt32 31)).toInt32 &&& (1431655765 : Int32))) &&& (858993459 : Int32)) + (((x0 - ((x0.toUInt32 >>> ((1 : Int32).toUInt32 &&& Int32.toUInt32 31)).toInt32 &&& (1431655765 : Int32))).toUInt32 >>> ((2 : Int32).toUInt32 &&& Int32.toUInt32 31)).toInt32 &&& (858993459 : Int32))) + ((((x0 - ((x0.toUInt32 >>> ((1 : Int32).toUInt32 &&& Int32.toUInt32 31)).toInt32 &&& (1431655765 : Int32))) &&& (858993459 : Int32)) + (((x0 - ((x0.toUInt32 >>> ((1 : Int32).toUInt32 &&& Int32.toUInt32 31)).toInt32 &&& (1431655765 : Int32))).toUInt32 >>> ((2 : Int32).toUInt32 &&& Int32.toUInt32 31)).toInt32 &&& (858993459 : Int32))).toUInt32 >>> ((4 : Int32).toUInt32 &&& Int32.toUInt32 31)).toInt32) &&& (252645135 : Int32)) + ((((((x0 - ((x0.toUInt32 >>> ((1 : Int32).toUInt32 &&& Int32.toUInt32 31)).toInt32 &&& (1431655765 : Int32))) &&& (858993459 : Int32)) + (((x0 - ((x0.toUInt32 >>> ((1 : Int32).toUInt32 &&& Int32.toUInt32 31)).toInt32 &&& (1431655765 : Int32))).toUInt32 >>> ((2 : Int32).toUInt32 &&& Int32.toUInt32 31)).toInt32 &&& (858993459 : Int32))) + ((((x0 - ((x0.toUInt32 >>> ((1 : Int32).toUInt32 &&& Int32.toUInt32 31)).toInt32 &&& (1431655765 : Int32))) &&& (858993459 : Int32)) + (((x0 - ((x0.toUInt32 >>> ((1 : Int32).toUInt32 &&& Int32.toUInt32 31)).toInt32 &&& (1431655765 : Int32))).toUInt32 >>> ((2 : Int32).toUInt32 &&& Int32.toUInt32 31)).toInt32 &&& (858993459 : Int32))).toUInt32 >>> ((4 : Int32).toUInt32 &&& Int32.toUInt32 31)).toInt32) &&& (252645135 : Int32)).toUInt32 >>> ((8 : Int32).toUInt32 &&& Int32.toUInt32 31)).toInt32).toUInt32 >>> ((16 : Int32).toUInt32 &&& Int32.toUInt32 31)).toInt32) &&& (63 : Int32)), μ)
set_option maxRecDepth 100000 in
set_option maxHeartbeats 4000000 in
theorem c_J6_bitCount_0f7a4 (l : Launch) (g : Gx) (x0 : Int32) (μ : Mem) {r : Int32} {ν : Mem} (h : J6_bitCount_0f7a4 x0 μ = some (r, ν)) : Ct Lx g l yJ6_bitCount_0f7a4 cJ6_bitCount_0f7a4 1 (some .int) { frames := 0, cells := 0, slots := 0, locals := 0 } [.int x0] μ (some (.int r)) ν := by
  refine x_met (lv := [(0, .int x0)]) rfl (Nat.le_of_ble_eq_true rfl) rfl ?_
  intro p e s m below meth c C0 hP ls hl
  generalize ([.int x0] : List Value).toArray = args at C0 ⊢
  have C0 : Cx Lx g p s m args meth c cJ6_bitCount_0f7a4 1 (some .int) RJ6 := C0
  have hS : va_S (Ax Lx g) s.heap s.heap [] := va_S.rf
  obtain ⟨hx, hb, hr, hml, hown, hts, hlocks, hK⟩ := id C0
  unfold J6_bitCount_0f7a4 at h
  skip
  refine lv_iload_n hx hb dJ6_bitCount_0f7a4_0 rfl (lv_at hl 0 rfl) ?_
  refine lv_iload_n hx hb dJ6_bitCount_0f7a4_1 rfl (lv_at hl 0 rfl) ?_
  refine lv_iconst (v := (1 : Int32)) hx hb dJ6_bitCount_0f7a4_2 rfl ?_
  refine lv_iushr (v := (x0.toUInt32 >>> ((1 : Int32).toUInt32 &&& Int32.toUInt32 31)).toInt32) hx hb dJ6_bitCount_0f7a4_3 rfl ?_
  refine lv_ldcw (v := (1431655765 : Int32)) hx hb hown (hts _ q4_11) dJ6_bitCount_0f7a4_4 ?_
  refine lv_iand hx hb dJ6_bitCount_0f7a4_7 ?_
  refine lv_isub hx hb dJ6_bitCount_0f7a4_8 ?_
  refine lv_istore_n (lv' := [(0, .int (x0 - ((x0.toUInt32 >>> ((1 : Int32).toUInt32 &&& Int32.toUInt32 31)).toInt32 &&& (1431655765 : Int32))))]) hx hb dJ6_bitCount_0f7a4_9 rfl hl (by decide) rfl (fun ls hl => ?_)
  refine lv_iload_n hx hb dJ6_bitCount_0f7a4_10 rfl (lv_at hl 0 rfl) ?_
  refine lv_ldcw (v := (858993459 : Int32)) hx hb hown (hts _ q4_12) dJ6_bitCount_0f7a4_11 ?_
  refine lv_iand hx hb dJ6_bitCount_0f7a4_14 ?_
  refine lv_iload_n hx hb dJ6_bitCount_0f7a4_15 rfl (lv_at hl 0 rfl) ?_
  refine lv_iconst (v := (2 : Int32)) hx hb dJ6_bitCount_0f7a4_16 rfl ?_
  refine lv_iushr (v := ((x0 - ((x0.toUInt32 >>> ((1 : Int32).toUInt32 &&& Int32.toUInt32 31)).toInt32 &&& (1431655765 : Int32))).toUInt32 >>> ((2 : Int32).toUInt32 &&& Int32.toUInt32 31)).toInt32) hx hb dJ6_bitCount_0f7a4_17 rfl ?_
  refine lv_ldcw (v := (858993459 : Int32)) hx hb hown (hts _ q4_12) dJ6_bitCount_0f7a4_18 ?_
  refine lv_iand hx hb dJ6_bitCount_0f7a4_21 ?_
  refine lv_iadd hx hb dJ6_bitCount_0f7a4_22 ?_
  refine lv_istore_n (lv' := [(0, .int (((x0 - ((x0.toUInt32 >>> ((1 : Int32).toUInt32 &&& Int32.toUInt32 31)).toInt32 &&& (1431655765 : Int32))) &&& (858993459 : Int32)) + (((x0 - ((x0.toUInt32 >>> ((1 : Int32).toUInt32 &&& Int32.toUInt32 31)).toInt32 &&& (1431655765 : Int32))).toUInt32 >>> ((2 : Int32).toUInt32 &&& Int32.toUInt32 31)).toInt32 &&& (858993459 : Int32))))]) hx hb dJ6_bitCount_0f7a4_23 rfl hl (by decide) rfl (fun ls hl => ?_)
  refine lv_iload_n hx hb dJ6_bitCount_0f7a4_24 rfl (lv_at hl 0 rfl) ?_
  refine lv_iload_n hx hb dJ6_bitCount_0f7a4_25 rfl (lv_at hl 0 rfl) ?_
  refine lv_iconst (v := (4 : Int32)) hx hb dJ6_bitCount_0f7a4_26 rfl ?_
  refine lv_iushr (v := ((((x0 - ((x0.toUInt32 >>> ((1 : Int32).toUInt32 &&& Int32.toUInt32 31)).toInt32 &&& (1431655765 : Int32))) &&& (858993459 : Int32)) + (((x0 - ((x0.toUInt32 >>> ((1 : Int32).toUInt32 &&& Int32.toUInt32 31)).toInt32 &&& (1431655765 : Int32))).toUInt32 >>> ((2 : Int32).toUInt32 &&& Int32.toUInt32 31)).toInt32 &&& (858993459 : Int32))).toUInt32 >>> ((4 : Int32).toUInt32 &&& Int32.toUInt32 31)).toInt32) hx hb dJ6_bitCount_0f7a4_27 rfl ?_
  refine lv_iadd hx hb dJ6_bitCount_0f7a4_28 ?_
  refine lv_ldcw (v := (252645135 : Int32)) hx hb hown (hts _ q4_13) dJ6_bitCount_0f7a4_29 ?_
  refine lv_iand hx hb dJ6_bitCount_0f7a4_32 ?_
  refine lv_istore_n (lv' := [(0, .int (((((x0 - ((x0.toUInt32 >>> ((1 : Int32).toUInt32 &&& Int32.toUInt32 31)).toInt32 &&& (1431655765 : Int32))) &&& (858993459 : Int32)) + (((x0 - ((x0.toUInt32 >>> ((1 : Int32).toUInt32 &&& Int32.toUInt32 31)).toInt32 &&& (1431655765 : Int32))).toUInt32 >>> ((2 : Int32).toUInt32 &&& Int32.toUInt32 31)).toInt32 &&& (858993459 : Int32))) + ((((x0 - ((x0.toUInt32 >>> ((1 : Int32).toUInt32 &&& Int32.toUInt32 31)).toInt32 &&& (1431655765 : Int32))) &&& (858993459 : Int32)) + (((x0 - ((x0.toUInt32 >>> ((1 : Int32).toUInt32 &&& Int32.toUInt32 31)).toInt32 &&& (1431655765 : Int32))).toUInt32 >>> ((2 : Int32).toUInt32 &&& Int32.toUInt32 31)).toInt32 &&& (858993459 : Int32))).toUInt32 >>> ((4 : Int32).toUInt32 &&& Int32.toUInt32 31)).toInt32) &&& (252645135 : Int32)))]) hx hb dJ6_bitCount_0f7a4_33 rfl hl (by decide) rfl (fun ls hl => ?_)
  refine lv_iload_n hx hb dJ6_bitCount_0f7a4_34 rfl (lv_at hl 0 rfl) ?_
  refine lv_iload_n hx hb dJ6_bitCount_0f7a4_35 rfl (lv_at hl 0 rfl) ?_
  refine lv_bipush (v := (8 : Int32)) hx hb dJ6_bitCount_0f7a4_36 (by decide +kernel) ?_
  refine lv_iushr (v := ((((((x0 - ((x0.toUInt32 >>> ((1 : Int32).toUInt32 &&& Int32.toUInt32 31)).toInt32 &&& (1431655765 : Int32))) &&& (858993459 : Int32)) + (((x0 - ((x0.toUInt32 >>> ((1 : Int32).toUInt32 &&& Int32.toUInt32 31)).toInt32 &&& (1431655765 : Int32))).toUInt32 >>> ((2 : Int32).toUInt32 &&& Int32.toUInt32 31)).toInt32 &&& (858993459 : Int32))) + ((((x0 - ((x0.toUInt32 >>> ((1 : Int32).toUInt32 &&& Int32.toUInt32 31)).toInt32 &&& (1431655765 : Int32))) &&& (858993459 : Int32)) + (((x0 - ((x0.toUInt32 >>> ((1 : Int32).toUInt32 &&& Int32.toUInt32 31)).toInt32 &&& (1431655765 : Int32))).toUInt32 >>> ((2 : Int32).toUInt32 &&& Int32.toUInt32 31)).toInt32 &&& (858993459 : Int32))).toUInt32 >>> ((4 : Int32).toUInt32 &&& Int32.toUInt32 31)).toInt32) &&& (252645135 : Int32)).toUInt32 >>> ((8 : Int32).toUInt32 &&& Int32.toUInt32 31)).toInt32) hx hb dJ6_bitCount_0f7a4_38 rfl ?_
  refine lv_iadd hx hb dJ6_bitCount_0f7a4_39 ?_
  refine lv_istore_n (lv' := [(0, .int ((((((x0 - ((x0.toUInt32 >>> ((1 : Int32).toUInt32 &&& Int32.toUInt32 31)).toInt32 &&& (1431655765 : Int32))) &&& (858993459 : Int32)) + (((x0 - ((x0.toUInt32 >>> ((1 : Int32).toUInt32 &&& Int32.toUInt32 31)).toInt32 &&& (1431655765 : Int32))).toUInt32 >>> ((2 : Int32).toUInt32 &&& Int32.toUInt32 31)).toInt32 &&& (858993459 : Int32))) + ((((x0 - ((x0.toUInt32 >>> ((1 : Int32).toUInt32 &&& Int32.toUInt32 31)).toInt32 &&& (1431655765 : Int32))) &&& (858993459 : Int32)) + (((x0 - ((x0.toUInt32 >>> ((1 : Int32).toUInt32 &&& Int32.toUInt32 31)).toInt32 &&& (1431655765 : Int32))).toUInt32 >>> ((2 : Int32).toUInt32 &&& Int32.toUInt32 31)).toInt32 &&& (858993459 : Int32))).toUInt32 >>> ((4 : Int32).toUInt32 &&& Int32.toUInt32 31)).toInt32) &&& (252645135 : Int32)) + ((((((x0 - ((x0.toUInt32 >>> ((1 : Int32).toUInt32 &&& Int32.toUInt32 31)).toInt32 &&& (1431655765 : Int32))) &&& (858993459 : Int32)) + (((x0 - ((x0.toUInt32 >>> ((1 : Int32).toUInt32 &&& Int32.toUInt32 31)).toInt32 &&& (1431655765 : Int32))).toUInt32 >>> ((2 : Int32).toUInt32 &&& Int32.toUInt32 31)).toInt32 &&& (858993459 : Int32))) + ((((x0 - ((x0.toUInt32 >>> ((1 : Int32).toUInt32 &&& Int32.toUInt32 31)).toInt32 &&& (1431655765 : Int32))) &&& (858993459 : Int32)) + (((x0 - ((x0.toUInt32 >>> ((1 : Int32).toUInt32 &&& Int32.toUInt32 31)).toInt32 &&& (1431655765 : Int32))).toUInt32 >>> ((2 : Int32).toUInt32 &&& Int32.toUInt32 31)).toInt32 &&& (858993459 : Int32))).toUInt32 >>> ((4 : Int32).toUInt32 &&& Int32.toUInt32 31)).toInt32) &&& (252645135 : Int32)).toUInt32 >>> ((8 : Int32).toUInt32 &&& Int32.toUInt32 31)).toInt32))]) hx hb dJ6_bitCount_0f7a4_40 rfl hl (by decide) rfl (fun ls hl => ?_)
  refine lv_iload_n hx hb dJ6_bitCount_0f7a4_41 rfl (lv_at hl 0 rfl) ?_
  refine lv_iload_n hx hb dJ6_bitCount_0f7a4_42 rfl (lv_at hl 0 rfl) ?_
  refine lv_bipush (v := (16 : Int32)) hx hb dJ6_bitCount_0f7a4_43 (by decide +kernel) ?_
  refine lv_iushr (v := (((((((x0 - ((x0.toUInt32 >>> ((1 : Int32).toUInt32 &&& Int32.toUInt32 31)).toInt32 &&& (1431655765 : Int32))) &&& (858993459 : Int32)) + (((x0 - ((x0.toUInt32 >>> ((1 : Int32).toUInt32 &&& Int32.toUInt32 31)).toInt32 &&& (1431655765 : Int32))).toUInt32 >>> ((2 : Int32).toUInt32 &&& Int32.toUInt32 31)).toInt32 &&& (858993459 : Int32))) + ((((x0 - ((x0.toUInt32 >>> ((1 : Int32).toUInt32 &&& Int32.toUInt32 31)).toInt32 &&& (1431655765 : Int32))) &&& (858993459 : Int32)) + (((x0 - ((x0.toUInt32 >>> ((1 : Int32).toUInt32 &&& Int32.toUInt32 31)).toInt32 &&& (1431655765 : Int32))).toUInt32 >>> ((2 : Int32).toUInt32 &&& Int32.toUInt32 31)).toInt32 &&& (858993459 : Int32))).toUInt32 >>> ((4 : Int32).toUInt32 &&& Int32.toUInt32 31)).toInt32) &&& (252645135 : Int32)) + ((((((x0 - ((x0.toUInt32 >>> ((1 : Int32).toUInt32 &&& Int32.toUInt32 31)).toInt32 &&& (1431655765 : Int32))) &&& (858993459 : Int32)) + (((x0 - ((x0.toUInt32 >>> ((1 : Int32).toUInt32 &&& Int32.toUInt32 31)).toInt32 &&& (1431655765 : Int32))).toUInt32 >>> ((2 : Int32).toUInt32 &&& Int32.toUInt32 31)).toInt32 &&& (858993459 : Int32))) + ((((x0 - ((x0.toUInt32 >>> ((1 : Int32).toUInt32 &&& Int32.toUInt32 31)).toInt32 &&& (1431655765 : Int32))) &&& (858993459 : Int32)) + (((x0 - ((x0.toUInt32 >>> ((1 : Int32).toUInt32 &&& Int32.toUInt32 31)).toInt32 &&& (1431655765 : Int32))).toUInt32 >>> ((2 : Int32).toUInt32 &&& Int32.toUInt32 31)).toInt32 &&& (858993459 : Int32))).toUInt32 >>> ((4 : Int32).toUInt32 &&& Int32.toUInt32 31)).toInt32) &&& (252645135 : Int32)).toUInt32 >>> ((8 : Int32).toUInt32 &&& Int32.toUInt32 31)).toInt32).toUInt32 >>> ((16 : Int32).toUInt32 &&& Int32.toUInt32 31)).toInt32) hx hb dJ6_bitCount_0f7a4_45 rfl ?_
  refine lv_iadd hx hb dJ6_bitCount_0f7a4_46 ?_
  refine lv_istore_n (lv' := [(0, .int (((((((x0 - ((x0.toUInt32 >>> ((1 : Int32).toUInt32 &&& Int32.toUInt32 31)).toInt32 &&& (1431655765 : Int32))) &&& (858993459 : Int32)) + (((x0 - ((x0.toUInt32 >>> ((1 : Int32).toUInt32 &&& Int32.toUInt32 31)).toInt32 &&& (1431655765 : Int32))).toUInt32 >>> ((2 : Int32).toUInt32 &&& Int32.toUInt32 31)).toInt32 &&& (858993459 : Int32))) + ((((x0 - ((x0.toUInt32 >>> ((1 : Int32).toUInt32 &&& Int32.toUInt32 31)).toInt32 &&& (1431655765 : Int32))) &&& (858993459 : Int32)) + (((x0 - ((x0.toUInt32 >>> ((1 : Int32).toUInt32 &&& Int32.toUInt32 31)).toInt32 &&& (1431655765 : Int32))).toUInt32 >>> ((2 : Int32).toUInt32 &&& Int32.toUInt32 31)).toInt32 &&& (858993459 : Int32))).toUInt32 >>> ((4 : Int32).toUInt32 &&& Int32.toUInt32 31)).toInt32) &&& (252645135 : Int32)) + ((((((x0 - ((x0.toUInt32 >>> ((1 : Int32).toUInt32 &&& Int32.toUInt32 31)).toInt32 &&& (1431655765 : Int32))) &&& (858993459 : Int32)) + (((x0 - ((x0.toUInt32 >>> ((1 : Int32).toUInt32 &&& Int32.toUInt32 31)).toInt32 &&& (1431655765 : Int32))).toUInt32 >>> ((2 : Int32).toUInt32 &&& Int32.toUInt32 31)).toInt32 &&& (858993459 : Int32))) + ((((x0 - ((x0.toUInt32 >>> ((1 : Int32).toUInt32 &&& Int32.toUInt32 31)).toInt32 &&& (1431655765 : Int32))) &&& (858993459 : Int32)) + (((x0 - ((x0.toUInt32 >>> ((1 : Int32).toUInt32 &&& Int32.toUInt32 31)).toInt32 &&& (1431655765 : Int32))).toUInt32 >>> ((2 : Int32).toUInt32 &&& Int32.toUInt32 31)).toInt32 &&& (858993459 : Int32))).toUInt32 >>> ((4 : Int32).toUInt32 &&& Int32.toUInt32 31)).toInt32) &&& (252645135 : Int32)).toUInt32 >>> ((8 : Int32).toUInt32 &&& Int32.toUInt32 31)).toInt32) + (((((((x0 - ((x0.toUInt32 >>> ((1 : Int32).toUInt32 &&& Int32.toUInt32 31)).toInt32 &&& (1431655765 : Int32))) &&& (858993459 : Int32)) + (((x0 - ((x0.toUInt32 >>> ((1 : Int32).toUInt32 &&& Int32.toUInt32 31)).toInt32 &&& (1431655765 : Int32))).toUInt32 >>> ((2 : Int32).toUInt32 &&& Int32.toUInt32 31)).toInt32 &&& (858993459 : Int32))) + ((((x0 - ((x0.toUInt32 >>> ((1 : Int32).toUInt32 &&& Int32.toUInt32 31)).toInt32 &&& (1431655765 : Int32))) &&& (858993459 : Int32)) + (((x0 - ((x0.toUInt32 >>> ((1 : Int32).toUInt32 &&& Int32.toUInt32 31)).toInt32 &&& (1431655765 : Int32))).toUInt32 >>> ((2 : Int32).toUInt32 &&& Int32.toUInt32 31)).toInt32 &&& (858993459 : Int32))).toUInt32 >>> ((4 : Int32).toUInt32 &&& Int32.toUInt32 31)).toInt32) &&& (252645135 : Int32)) + ((((((x0 - ((x0.toUInt32 >>> ((1 : Int32).toUInt32 &&& Int32.toUInt32 31)).toInt32 &&& (1431655765 : Int32))) &&& (858993459 : Int32)) + (((x0 - ((x0.toUInt32 >>> ((1 : Int32).toUInt32 &&& Int32.toUInt32 31)).toInt32 &&& (1431655765 : Int32))).toUInt32 >>> ((2 : Int32).toUInt32 &&& Int32.toUInt32 31)).toInt32 &&& (858993459 : Int32))) + ((((x0 - ((x0.toUInt32 >>> ((1 : Int32).toUInt32 &&& Int32.toUInt32 31)).toInt32 &&& (1431655765 : Int32))) &&& (858993459 : Int32)) + (((x0 - ((x0.toUInt32 >>> ((1 : Int32).toUInt32 &&& Int32.toUInt32 31)).toInt32 &&& (1431655765 : Int32))).toUInt32 >>> ((2 : Int32).toUInt32 &&& Int32.toUInt32 31)).toInt32 &&& (858993459 : Int32))).toUInt32 >>> ((4 : Int32).toUInt32 &&& Int32.toUInt32 31)).toInt32) &&& (252645135 : Int32)).toUInt32 >>> ((8 : Int32).toUInt32 &&& Int32.toUInt32 31)).toInt32).toUInt32 >>> ((16 : Int32).toUInt32 &&& Int32.toUInt32 31)).toInt32))]) hx hb dJ6_bitCount_0f7a4_47 rfl hl (by decide) rfl (fun ls hl => ?_)
  refine lv_iload_n hx hb dJ6_bitCount_0f7a4_48 rfl (lv_at hl 0 rfl) ?_
  refine lv_bipush (v := (63 : Int32)) hx hb dJ6_bitCount_0f7a4_49 (by decide +kernel) ?_
  refine lv_iand hx hb dJ6_bitCount_0f7a4_51 ?_
  obtain ⟨rfl, rfl⟩ := some2 h
  exact x_iret C0 hP hS dJ6_bitCount_0f7a4_52
def X9_servesAll_35 (K2 : Int32 → Int32 → Mem → Option (Int32 × Mem)) (x1 : Int32) (x2 : Int32) (μ : Mem) : Option (Int32 × Mem) :=
  K2 x1 (x2 + (1 : Int32)) μ
set_option maxRecDepth 100000 in
set_option maxHeartbeats 4000000 in
theorem w_X9_servesAll_35 {g : Gx} {p : Program} {l : Launch} {e : Env} {s : State} {m : MethodId} {args : Array Value} {below : List Frame} {meth : Method} {c : Code} (C0 : Cx Lx g p s m args meth c cX9_servesAll 3 (some .boolean) RX9) {r : Int32} {ν : Mem} (K2 : Int32 → Int32 → Mem → Option (Int32 × Mem)) (hK2 : ∀ (x1 : Int32) (x2 : Int32) (μ : Mem) (H : Heap) (locs : List Loc) (ls : Array Slot), Px Lx g μ H → va_S (Ax Lx g) s.heap H locs → lv_has ls 3 [(0, .ref (g.2.2.1 + 0)), (1, .int x1), (2, .int x2)] → K2 x1 x2 μ = some (r, ν) → W p l e { frames := 0, cells := 0, slots := 0, locals := 0 } s m args below meth c H locs 0 0 (MQ below (Qx Lx g (some (.int r)) ν) args s 0 0 (Ax Lx g)) (F0 m 2 ls [])) (x1 : Int32) (x2 : Int32) (μ : Mem) (H : Heap) (locs : List Loc) (ls : Array Slot) (hP : Px Lx g μ H) (hS : va_S (Ax Lx g) s.heap H locs) (hl : lv_has ls 3 [(0, .ref (g.2.2.1 + 0)), (1, .int x1), (2, .int x2)]) (h : X9_servesAll_35 K2 x1 x2 μ = some (r, ν)) : W p l e { frames := 0, cells := 0, slots := 0, locals := 0 } s m args below meth c H locs 0 0 (MQ below (Qx Lx g (some (.int r)) ν) args s 0 0 (Ax Lx g)) (F0 m 35 ls []) := by
  obtain ⟨hx, hb, hr, hml, hown, hts, hlocks, hK⟩ := id C0
  unfold X9_servesAll_35 at h
  refine lv_iinc (v := (x2 + (1 : Int32))) (lv' := [(2, .int (x2 + (1 : Int32))), (0, .ref (g.2.2.1 + 0)), (1, .int x1)]) hx hb dX9_servesAll_35 hl (k := 2) rfl rfl (by decide) rfl (fun ls hl => ?_)
  refine lv_goto (tgt := 2) hx hb dX9_servesAll_38 (by decide) ?_
  exact hK2 x1 (x2 + (1 : Int32)) μ _ _ _ hP hS (lv_sub hl [1, 2, 0] rfl) h
def X9_servesAll_2  : Nat → Int32 → Int32 → Mem → Option (Int32 × Mem)
  | 0, _, _, _ => none
  | n + 1, x1, x2, μ => (if (μ 1 6) ≤ x2 then some ((1 : Int32), μ) else gd (inB x2 8) ((if (μ 87 x2.toNatClampNeg) = (0 : Int32) then X9_servesAll_35 (X9_servesAll_2 n) x1 x2 μ else gd (inB x2 8) ((if ((μ 87 x2.toNatClampNeg) &&& x1) = (0 : Int32) then some ((0 : Int32), μ) else X9_servesAll_35 (X9_servesAll_2 n) x1 x2 μ)))))
set_option maxRecDepth 100000 in
set_option maxHeartbeats 4000000 in
theorem w_X9_servesAll_2 {g : Gx} {p : Program} {l : Launch} {e : Env} {s : State} {m : MethodId} {args : Array Value} {below : List Frame} {meth : Method} {c : Code} (C0 : Cx Lx g p s m args meth c cX9_servesAll 3 (some .boolean) RX9) {r : Int32} {ν : Mem}  (n : Nat) : ∀ (x1 : Int32) (x2 : Int32) (μ : Mem) (H : Heap) (locs : List Loc) (ls : Array Slot), Px Lx g μ H → va_S (Ax Lx g) s.heap H locs → lv_has ls 3 [(0, .ref (g.2.2.1 + 0)), (1, .int x1), (2, .int x2)] → X9_servesAll_2  n x1 x2 μ = some (r, ν) → W p l e { frames := 0, cells := 0, slots := 0, locals := 0 } s m args below meth c H locs 0 0 (MQ below (Qx Lx g (some (.int r)) ν) args s 0 0 (Ax Lx g)) (F0 m 2 ls []) := by
  obtain ⟨hx, hb, hr, hml, hown, hts, hlocks, hK⟩ := id C0
  induction n with
  | zero =>
    intro x1 x2 μ H locs ls hP hS hl h
    have h : (none : Option (Int32 × Mem)) = some (r, ν) := h
    cases h
  | succ n ih =>
    intro x1 x2 μ H locs ls hP hS hl h
    rw [X9_servesAll_2.eq_2] at h
    refine lv_iload_n hx hb dX9_servesAll_2 rfl (lv_at hl 2 rfl) ?_
    refine lv_aload_n hx hb dX9_servesAll_3 rfl (lv_at hl 0 rfl) ?_
    refine x_get C0 hP inu9 (k := 0) cx_0 (by decide) rfl 0 (by decide) q2_81 rfl (v := .ref (g.2.2.1 + 1)) rfl dX9_servesAll_4 ?_
    refine x_get C0 hP inu7 (k := 1) cx_1 (by decide) rfl 6 (by decide) q1_233 rfl (v := .int (μ 1 6)) rfl dX9_servesAll_7 ?_
    refine lv_icmp_ge (tgt := 41) hx hb dX9_servesAll_10 (by decide) (fun c1 => ?_) (fun c1 => ?_)
    · rw [if_pos c1] at h
      refine lv_iconst (v := (1 : Int32)) hx hb dX9_servesAll_41 rfl ?_
      obtain ⟨rfl, rfl⟩ := some2 h
      exact x_zret C0 hP hS (by decide) dX9_servesAll_42
    · rw [if_neg c1] at h
      refine lv_aload_n hx hb dX9_servesAll_13 rfl (lv_at hl 0 rfl) ?_
      refine x_get C0 hP inu9 (k := 0) cx_0 (by decide) rfl 7 (by decide) q2_88 rfl (v := .ref (g.2.2.1 + 87)) rfl dX9_servesAll_14 ?_
      refine lv_iload_n hx hb dX9_servesAll_17 rfl (lv_at hl 2 rfl) ?_
      obtain ⟨z2, h⟩ := gd_some h
      refine x_iald C0 hP (k := 87) cx_87 (j := x2.toNatClampNeg) z2 rfl dX9_servesAll_18 ?_
      refine lv_if_eq (tgt := 35) hx hb dX9_servesAll_19 (by decide) (fun c3 => ?_) (fun c3 => ?_)
      · rw [if_pos c3] at h
        exact w_X9_servesAll_35 C0 (X9_servesAll_2  n) ih x1 x2 μ _ _ _ hP hS (lv_sub hl [0, 1, 2] rfl) h
      · rw [if_neg c3] at h
        refine lv_aload_n hx hb dX9_servesAll_22 rfl (lv_at hl 0 rfl) ?_
        refine x_get C0 hP inu9 (k := 0) cx_0 (by decide) rfl 7 (by decide) q2_88 rfl (v := .ref (g.2.2.1 + 87)) rfl dX9_servesAll_23 ?_
        refine lv_iload_n hx hb dX9_servesAll_26 rfl (lv_at hl 2 rfl) ?_
        obtain ⟨z4, h⟩ := gd_some h
        refine x_iald C0 hP (k := 87) cx_87 (j := x2.toNatClampNeg) z4 rfl dX9_servesAll_27 ?_
        refine lv_iload_n hx hb dX9_servesAll_28 rfl (lv_at hl 1 rfl) ?_
        refine lv_iand hx hb dX9_servesAll_29 ?_
        refine lv_if_ne (tgt := 35) hx hb dX9_servesAll_30 (by decide) (fun c5 => ?_) (fun c5 => ?_)
        · rw [if_neg c5] at h
          exact w_X9_servesAll_35 C0 (X9_servesAll_2  n) ih x1 x2 μ _ _ _ hP hS (lv_sub hl [0, 1, 2] rfl) h
        · rw [if_pos c5] at h
          refine lv_iconst (v := (0 : Int32)) hx hb dX9_servesAll_33 rfl ?_
          obtain ⟨rfl, rfl⟩ := some2 h
          exact x_zret C0 hP hS (by decide) dX9_servesAll_34
def X9_servesAll (x1 : Int32) (μ : Mem) : Option (Int32 × Mem) :=
  X9_servesAll_2 FU x1 (0 : Int32) μ
set_option maxRecDepth 100000 in
set_option maxHeartbeats 4000000 in
theorem c_X9_servesAll (l : Launch) (g : Gx) (x1 : Int32) (μ : Mem) {r : Int32} {ν : Mem} (h : X9_servesAll x1 μ = some (r, ν)) : Ct Lx g l yX9_servesAll cX9_servesAll 3 (some .boolean) { frames := 0, cells := 0, slots := 0, locals := 0 } [.ref (g.2.2.1 + 0), .int x1] μ (some (.int r)) ν := by
  refine x_met (lv := [(0, .ref (g.2.2.1 + 0)), (1, .int x1)]) rfl (Nat.le_of_ble_eq_true rfl) rfl ?_
  intro p e s m below meth c C0 hP ls hl
  generalize ([.ref (g.2.2.1 + 0), .int x1] : List Value).toArray = args at C0 ⊢
  have C0 : Cx Lx g p s m args meth c cX9_servesAll 3 (some .boolean) RX9 := C0
  have hS : va_S (Ax Lx g) s.heap s.heap [] := va_S.rf
  obtain ⟨hx, hb, hr, hml, hown, hts, hlocks, hK⟩ := id C0
  unfold X9_servesAll at h
  skip
  refine lv_iconst (v := (0 : Int32)) hx hb dX9_servesAll_0 rfl ?_
  refine lv_istore_n (lv' := [(2, .int (0 : Int32)), (0, .ref (g.2.2.1 + 0)), (1, .int x1)]) hx hb dX9_servesAll_1 rfl hl (by decide) rfl (fun ls hl => ?_)
  exact w_X9_servesAll_2 C0  FU x1 (0 : Int32) μ _ _ _ hP hS (lv_sub hl [1, 2, 0] rfl) h
def X9_fewest_14   (μ : Mem) : Option (Int32 × Mem) :=
  ob2 (X9_finding (1 : Int32) μ) fun r3 μ3 => some (r3, μ3)
set_option maxRecDepth 100000 in
set_option maxHeartbeats 4000000 in
theorem w_X9_fewest_14 {g : Gx} {p : Program} {l : Launch} {e : Env} {s : State} {m : MethodId} {args : Array Value} {below : List Frame} {meth : Method} {c : Code} (C0 : Cx Lx g p s m args meth c cX9_fewest 6 (some .int) RX9) {r : Int32} {ν : Mem}   (μ : Mem) (H : Heap) (locs : List Loc) (ls : Array Slot) (hP : Px Lx g μ H) (hS : va_S (Ax Lx g) s.heap H locs) (hl : lv_has ls 6 [(0, .ref (g.2.2.1 + 0))]) (h : X9_fewest_14   μ = some (r, ν)) : W p l e { frames := 4, cells := 0, slots := 0, locals := 91 } s m args below meth c H locs 0 0 (MQ below (Qx Lx g (some (.int r)) ν) args s 0 0 (Ax Lx g)) (F0 m 14 ls []) := by
  obtain ⟨hx, hb, hr, hml, hown, hts, hlocks, hK⟩ := id C0
  unfold X9_fewest_14 at h
  refine lv_aload_n hx hb dX9_fewest_14 rfl (lv_at hl 0 rfl) ?_
  refine lv_iconst (v := (1 : Int32)) hx hb dX9_fewest_15 rfl ?_
  obtain ⟨r3, μ3, h1, h⟩ := ob2_some h
  refine x_callV C0 (rest := []) (q := (RX9, TX9, 9)) (c_X9_finding l g (1 : Int32) μ h1) q2_122 q2_119 q2_121 r1_0 q1_1 hd_X9_finding ⟨rfl, rfl⟩ ⟨Nat.le_of_ble_eq_true rfl, Nat.le_of_ble_eq_true rfl⟩ cx_0 (by decide) rfl hP hS hl.1 rfl rfl (Nat.le_of_ble_eq_true rfl) dX9_fewest_16 (fun H locs hP hS => ?_)
  refine W.eq (g2 := F0 m 19 ls [.int r3]) rfl ?_
  obtain ⟨rfl, rfl⟩ := some2 h
  exact x_iret C0 hP hS dX9_fewest_19
def X9_fewest_81 (K35 : Int32 → Int32 → Int32 → Mem → Option (Int32 × Mem)) (x3 : Int32) (x4 : Int32) (x5 : Int32) (μ : Mem) : Option (Int32 × Mem) :=
  K35 x3 x4 (x5 + (1 : Int32)) μ
set_option maxRecDepth 100000 in
set_option maxHeartbeats 4000000 in
theorem w_X9_fewest_81 {g : Gx} {p : Program} {l : Launch} {e : Env} {s : State} {m : MethodId} {args : Array Value} {below : List Frame} {meth : Method} {c : Code} (C0 : Cx Lx g p s m args meth c cX9_fewest 6 (some .int) RX9) {r : Int32} {ν : Mem} (K35 : Int32 → Int32 → Int32 → Mem → Option (Int32 × Mem)) (hK35 : ∀ (x3 : Int32) (x4 : Int32) (x5 : Int32) (μ : Mem) (H : Heap) (locs : List Loc) (ls : Array Slot), Px Lx g μ H → va_S (Ax Lx g) s.heap H locs → lv_has ls 6 [(0, .ref (g.2.2.1 + 0)), (3, .int x3), (4, .int x4), (5, .int x5)] → K35 x3 x4 x5 μ = some (r, ν) → W p l e { frames := 4, cells := 0, slots := 0, locals := 91 } s m args below meth c H locs 0 0 (MQ below (Qx Lx g (some (.int r)) ν) args s 0 0 (Ax Lx g)) (F0 m 35 ls [])) (x3 : Int32) (x4 : Int32) (x5 : Int32) (μ : Mem) (H : Heap) (locs : List Loc) (ls : Array Slot) (hP : Px Lx g μ H) (hS : va_S (Ax Lx g) s.heap H locs) (hl : lv_has ls 6 [(0, .ref (g.2.2.1 + 0)), (3, .int x3), (4, .int x4), (5, .int x5)]) (h : X9_fewest_81 K35 x3 x4 x5 μ = some (r, ν)) : W p l e { frames := 4, cells := 0, slots := 0, locals := 91 } s m args below meth c H locs 0 0 (MQ below (Qx Lx g (some (.int r)) ν) args s 0 0 (Ax Lx g)) (F0 m 81 ls []) := by
  obtain ⟨hx, hb, hr, hml, hown, hts, hlocks, hK⟩ := id C0
  unfold X9_fewest_81 at h
  refine lv_iinc (v := (x5 + (1 : Int32))) (lv' := [(5, .int (x5 + (1 : Int32))), (0, .ref (g.2.2.1 + 0)), (3, .int x3), (4, .int x4)]) hx hb dX9_fewest_81 hl (k := 3) rfl rfl (by decide) rfl (fun ls hl => ?_)
  refine lv_goto (tgt := 35) hx hb dX9_fewest_84 (by decide) ?_
  exact hK35 x3 x4 (x5 + (1 : Int32)) μ _ _ _ hP hS (lv_sub hl [1, 2, 3, 0] rfl) h
def X9_fewest_35  : Nat → Int32 → Int32 → Int32 → Mem → Option (Int32 × Mem)
  | 0, _, _, _, _ => none
  | n + 1, x3, x4, x5, μ => (if ((1 : Int32) <<< ((μ 3 4) &&& 31)) ≤ x5 then some (x3, μ) else ob2 (J6_bitCount_0f7a4 x5 μ) fun r8 μ8 => (if x4 ≤ r8 then X9_fewest_81 (X9_fewest_35 n) x3 x4 x5 μ8 else ob2 (X9_servesAll x5 μ8) fun r10 μ10 => (if r10 = (0 : Int32) then X9_fewest_81 (X9_fewest_35 n) x3 x4 x5 μ10 else ob2 (J6_bitCount_0f7a4 x5 μ10) fun r12 μ12 => X9_fewest_81 (X9_fewest_35 n) x5 r12 x5 μ12)))
set_option maxRecDepth 100000 in
set_option maxHeartbeats 4000000 in
theorem w_X9_fewest_35 {g : Gx} {p : Program} {l : Launch} {e : Env} {s : State} {m : MethodId} {args : Array Value} {below : List Frame} {meth : Method} {c : Code} (C0 : Cx Lx g p s m args meth c cX9_fewest 6 (some .int) RX9) {r : Int32} {ν : Mem}  (n : Nat) : ∀ (x3 : Int32) (x4 : Int32) (x5 : Int32) (μ : Mem) (H : Heap) (locs : List Loc) (ls : Array Slot), Px Lx g μ H → va_S (Ax Lx g) s.heap H locs → lv_has ls 6 [(0, .ref (g.2.2.1 + 0)), (3, .int x3), (4, .int x4), (5, .int x5)] → X9_fewest_35  n x3 x4 x5 μ = some (r, ν) → W p l e { frames := 4, cells := 0, slots := 0, locals := 91 } s m args below meth c H locs 0 0 (MQ below (Qx Lx g (some (.int r)) ν) args s 0 0 (Ax Lx g)) (F0 m 35 ls []) := by
  obtain ⟨hx, hb, hr, hml, hown, hts, hlocks, hK⟩ := id C0
  induction n with
  | zero =>
    intro x3 x4 x5 μ H locs ls hP hS hl h
    have h : (none : Option (Int32 × Mem)) = some (r, ν) := h
    cases h
  | succ n ih =>
    intro x3 x4 x5 μ H locs ls hP hS hl h
    rw [X9_fewest_35.eq_2] at h
    refine lv_iload hx hb dX9_fewest_35 (lv_at hl 3 rfl) ?_
    refine lv_iconst (v := (1 : Int32)) hx hb dX9_fewest_37 rfl ?_
    refine lv_aload_n hx hb dX9_fewest_38 rfl (lv_at hl 0 rfl) ?_
    refine x_get C0 hP inu9 (k := 0) cx_0 (by decide) rfl 0 (by decide) q2_81 rfl (v := .ref (g.2.2.1 + 1)) rfl dX9_fewest_39 ?_
    refine x_get C0 hP inu7 (k := 1) cx_1 (by decide) rfl 1 (by decide) q1_223 rfl (v := .ref (g.2.2.1 + 3)) rfl dX9_fewest_42 ?_
    refine x_get C0 hP inu5 (k := 3) cx_3 (by decide) rfl 4 (by decide) q1_42 rfl (v := .int (μ 3 4)) rfl dX9_fewest_45 ?_
    refine lv_ishl hx hb dX9_fewest_48 ?_
    refine lv_icmp_ge (tgt := 87) hx hb dX9_fewest_49 (by decide) (fun c7 => ?_) (fun c7 => ?_)
    · rw [if_pos c7] at h
      refine lv_iload_n hx hb dX9_fewest_87 rfl (lv_at hl 1 rfl) ?_
      obtain ⟨rfl, rfl⟩ := some2 h
      exact x_iret C0 hP hS dX9_fewest_88
    · rw [if_neg c7] at h
      refine lv_iload hx hb dX9_fewest_52 (lv_at hl 3 rfl) ?_
      obtain ⟨r8, μ8, h1, h⟩ := ob2_some h
      refine x_callS C0 (rest := []) (c_J6_bitCount_0f7a4 l g x5 μ h1) q4_10 q4_8 q4_9 q1_14 hd_J6_bitCount_0f7a4 ⟨rfl, rfl⟩ ⟨Nat.le_of_ble_eq_true rfl, Nat.le_of_ble_eq_true rfl⟩ hP hS hl.1 rfl rfl (Nat.le_of_ble_eq_true rfl) dX9_fewest_54 (fun H locs hP hS => ?_)
      refine W.eq (g2 := F0 m 57 ls [.int r8]) rfl ?_
      refine lv_iload hx hb dX9_fewest_57 (lv_at hl 2 rfl) ?_
      refine lv_icmp_ge (tgt := 81) hx hb dX9_fewest_59 (by decide) (fun c9 => ?_) (fun c9 => ?_)
      · rw [if_pos c9] at h
        exact w_X9_fewest_81 C0 (X9_fewest_35  n) ih x3 x4 x5 μ8 _ _ _ hP hS (lv_sub hl [0, 1, 2, 3] rfl) h
      · rw [if_neg c9] at h
        refine lv_aload_n hx hb dX9_fewest_62 rfl (lv_at hl 0 rfl) ?_
        refine lv_iload hx hb dX9_fewest_63 (lv_at hl 3 rfl) ?_
        obtain ⟨r10, μ10, h1, h⟩ := ob2_some h
        refine x_callV C0 (rest := []) (q := (RX9, TX9, 9)) (c_X9_servesAll l g x5 μ8 h1) q4_17 q4_14 q4_16 r2_1 q1_1 hd_X9_servesAll ⟨rfl, rfl⟩ ⟨Nat.le_of_ble_eq_true rfl, Nat.le_of_ble_eq_true rfl⟩ cx_0 (by decide) rfl hP hS hl.1 rfl rfl (Nat.le_of_ble_eq_true rfl) dX9_fewest_65 (fun H locs hP hS => ?_)
        refine W.eq (g2 := F0 m 68 ls [.int r10]) rfl ?_
        refine lv_if_eq (tgt := 81) hx hb dX9_fewest_68 (by decide) (fun c11 => ?_) (fun c11 => ?_)
        · rw [if_pos c11] at h
          exact w_X9_fewest_81 C0 (X9_fewest_35  n) ih x3 x4 x5 μ10 _ _ _ hP hS (lv_sub hl [0, 1, 2, 3] rfl) h
        · rw [if_neg c11] at h
          refine lv_iload hx hb dX9_fewest_71 (lv_at hl 3 rfl) ?_
          refine lv_istore_n (lv' := [(3, .int x5), (0, .ref (g.2.2.1 + 0)), (4, .int x4), (5, .int x5)]) hx hb dX9_fewest_73 rfl hl (by decide) rfl (fun ls hl => ?_)
          refine lv_iload hx hb dX9_fewest_74 (lv_at hl 3 rfl) ?_
          obtain ⟨r12, μ12, h1, h⟩ := ob2_some h
          refine x_callS C0 (rest := []) (c_J6_bitCount_0f7a4 l g x5 μ10 h1) q4_10 q4_8 q4_9 q1_14 hd_J6_bitCount_0f7a4 ⟨rfl, rfl⟩ ⟨Nat.le_of_ble_eq_true rfl, Nat.le_of_ble_eq_true rfl⟩ hP hS hl.1 rfl rfl (Nat.le_of_ble_eq_true rfl) dX9_fewest_76 (fun H locs hP hS => ?_)
          refine W.eq (g2 := F0 m 79 ls [.int r12]) rfl ?_
          refine lv_istore (lv' := [(4, .int r12), (3, .int x5), (0, .ref (g.2.2.1 + 0)), (5, .int x5)]) hx hb dX9_fewest_79 hl (by decide) rfl (fun ls hl => ?_)
          exact w_X9_fewest_81 C0 (X9_fewest_35  n) ih x5 r12 x5 μ12 _ _ _ hP hS (lv_sub hl [2, 1, 0, 3] rfl) h
def X9_fewest (x1 : Int32) (x2 : Int32) (μ : Mem) : Option (Int32 × Mem) :=
  ob2 (X9_isReach x1 μ) fun r1 μ1 => (if r1 = (0 : Int32) then X9_fewest_14 μ1 else ob2 (X9_isClock x2 μ1) fun r4 μ4 => (if r4 = (0 : Int32) then X9_fewest_14 μ4 else ob (X9_findNear x1 x2 μ4) fun μ6 => X9_fewest_35 FU (0 : Int32) (9 : Int32) (0 : Int32) μ6))
set_option maxRecDepth 100000 in
set_option maxHeartbeats 4000000 in
theorem c_X9_fewest (l : Launch) (g : Gx) (x1 : Int32) (x2 : Int32) (μ : Mem) {r : Int32} {ν : Mem} (h : X9_fewest x1 x2 μ = some (r, ν)) : Ct Lx g l yX9_fewest cX9_fewest 6 (some .int) { frames := 4, cells := 0, slots := 0, locals := 91 } [.ref (g.2.2.1 + 0), .int x1, .int x2] μ (some (.int r)) ν := by
  refine x_met (lv := [(0, .ref (g.2.2.1 + 0)), (1, .int x1), (2, .int x2)]) rfl (Nat.le_of_ble_eq_true rfl) rfl ?_
  intro p e s m below meth c C0 hP ls hl
  generalize ([.ref (g.2.2.1 + 0), .int x1, .int x2] : List Value).toArray = args at C0 ⊢
  have C0 : Cx Lx g p s m args meth c cX9_fewest 6 (some .int) RX9 := C0
  have hS : va_S (Ax Lx g) s.heap s.heap [] := va_S.rf
  obtain ⟨hx, hb, hr, hml, hown, hts, hlocks, hK⟩ := id C0
  unfold X9_fewest at h
  skip
  refine lv_iload_n hx hb dX9_fewest_0 rfl (lv_at hl 1 rfl) ?_
  obtain ⟨r1, μ1, h1, h⟩ := ob2_some h
  refine x_callS C0 (rest := []) (c_X9_isReach l g x1 μ h1) q3_239 q3_237 q3_238 q1_1 hd_X9_isReach ⟨rfl, rfl⟩ ⟨Nat.le_of_ble_eq_true rfl, Nat.le_of_ble_eq_true rfl⟩ hP hS hl.1 rfl rfl (Nat.le_of_ble_eq_true rfl) dX9_fewest_1 (fun H locs hP hS => ?_)
  refine W.eq (g2 := F0 m 4 ls [.int r1]) rfl ?_
  refine lv_if_eq (tgt := 14) hx hb dX9_fewest_4 (by decide) (fun c2 => ?_) (fun c2 => ?_)
  · rw [if_pos c2] at h
    exact w_X9_fewest_14 C0   μ1 _ _ _ hP hS (lv_sub hl [0] rfl) h
  · rw [if_neg c2] at h
    refine lv_iload_n hx hb dX9_fewest_7 rfl (lv_at hl 2 rfl) ?_
    obtain ⟨r4, μ4, h1, h⟩ := ob2_some h
    refine x_callS C0 (rest := []) (c_X9_isClock l g x2 μ1 h1) q2_174 q2_172 q2_173 q1_1 hd_X9_isClock ⟨rfl, rfl⟩ ⟨Nat.le_of_ble_eq_true rfl, Nat.le_of_ble_eq_true rfl⟩ hP hS hl.1 rfl rfl (Nat.le_of_ble_eq_true rfl) dX9_fewest_8 (fun H locs hP hS => ?_)
    refine W.eq (g2 := F0 m 11 ls [.int r4]) rfl ?_
    refine lv_if_ne (tgt := 20) hx hb dX9_fewest_11 (by decide) (fun c5 => ?_) (fun c5 => ?_)
    · rw [if_neg c5] at h
      refine lv_aload_n hx hb dX9_fewest_20 rfl (lv_at hl 0 rfl) ?_
      refine lv_iload_n hx hb dX9_fewest_21 rfl (lv_at hl 1 rfl) ?_
      refine lv_iload_n hx hb dX9_fewest_22 rfl (lv_at hl 2 rfl) ?_
      obtain ⟨μ6, h1, h⟩ := ob_some h
      refine x_callV C0 (rest := []) (q := (RX9, TX9, 9)) (c_X9_findNear l g x1 x2 μ4 h1) q4_3 q4_0 q4_2 r2_0 q1_1 hd_X9_findNear ⟨rfl, rfl⟩ ⟨Nat.le_of_ble_eq_true rfl, Nat.le_of_ble_eq_true rfl⟩ cx_0 (by decide) rfl hP hS hl.1 rfl rfl (Nat.le_of_ble_eq_true rfl) dX9_fewest_23 (fun H locs hP hS => ?_)
      refine W.eq (g2 := F0 m 26 ls []) rfl ?_
      refine lv_iconst (v := (0 : Int32)) hx hb dX9_fewest_26 rfl ?_
      refine lv_istore_n (lv' := [(3, .int (0 : Int32)), (0, .ref (g.2.2.1 + 0)), (1, .int x1), (2, .int x2)]) hx hb dX9_fewest_27 rfl hl (by decide) rfl (fun ls hl => ?_)
      refine lv_bipush (v := (9 : Int32)) hx hb dX9_fewest_28 (by decide +kernel) ?_
      refine lv_istore (lv' := [(4, .int (9 : Int32)), (3, .int (0 : Int32)), (0, .ref (g.2.2.1 + 0)), (1, .int x1), (2, .int x2)]) hx hb dX9_fewest_30 hl (by decide) rfl (fun ls hl => ?_)
      refine lv_iconst (v := (0 : Int32)) hx hb dX9_fewest_32 rfl ?_
      refine lv_istore (lv' := [(5, .int (0 : Int32)), (4, .int (9 : Int32)), (3, .int (0 : Int32)), (0, .ref (g.2.2.1 + 0)), (1, .int x1), (2, .int x2)]) hx hb dX9_fewest_33 hl (by decide) rfl (fun ls hl => ?_)
      exact w_X9_fewest_35 C0  FU (0 : Int32) (9 : Int32) (0 : Int32) μ6 _ _ _ hP hS (lv_sub hl [3, 2, 1, 0] rfl) h
    · rw [if_pos c5] at h
      exact w_X9_fewest_14 C0   μ4 _ _ _ hP hS (lv_sub hl [0] rfl) h
def X9_far_14   (μ : Mem) : Option (Int32 × Mem) :=
  ob2 (X9_finding (1 : Int32) μ) fun r3 μ3 => some (r3, μ3)
set_option maxRecDepth 100000 in
set_option maxHeartbeats 4000000 in
theorem w_X9_far_14 {g : Gx} {p : Program} {l : Launch} {e : Env} {s : State} {m : MethodId} {args : Array Value} {below : List Frame} {meth : Method} {c : Code} (C0 : Cx Lx g p s m args meth c cX9_far 6 (some .int) RX9) {r : Int32} {ν : Mem}   (μ : Mem) (H : Heap) (locs : List Loc) (ls : Array Slot) (hP : Px Lx g μ H) (hS : va_S (Ax Lx g) s.heap H locs) (hl : lv_has ls 6 [(0, .ref (g.2.2.1 + 0))]) (h : X9_far_14   μ = some (r, ν)) : W p l e { frames := 4, cells := 0, slots := 0, locals := 91 } s m args below meth c H locs 0 0 (MQ below (Qx Lx g (some (.int r)) ν) args s 0 0 (Ax Lx g)) (F0 m 14 ls []) := by
  obtain ⟨hx, hb, hr, hml, hown, hts, hlocks, hK⟩ := id C0
  unfold X9_far_14 at h
  refine lv_aload_n hx hb dX9_far_14 rfl (lv_at hl 0 rfl) ?_
  refine lv_iconst (v := (1 : Int32)) hx hb dX9_far_15 rfl ?_
  obtain ⟨r3, μ3, h1, h⟩ := ob2_some h
  refine x_callV C0 (rest := []) (q := (RX9, TX9, 9)) (c_X9_finding l g (1 : Int32) μ h1) q2_122 q2_119 q2_121 r1_0 q1_1 hd_X9_finding ⟨rfl, rfl⟩ ⟨Nat.le_of_ble_eq_true rfl, Nat.le_of_ble_eq_true rfl⟩ cx_0 (by decide) rfl hP hS hl.1 rfl rfl (Nat.le_of_ble_eq_true rfl) dX9_far_16 (fun H locs hP hS => ?_)
  refine W.eq (g2 := F0 m 19 ls [.int r3]) rfl ?_
  obtain ⟨rfl, rfl⟩ := some2 h
  exact x_iret C0 hP hS dX9_far_19
def X9_far_65 (K32 : Int32 → Int32 → Int32 → Mem → Option (Int32 × Mem)) (x3 : Int32) (x4 : Int32) (x5 : Int32) (μ : Mem) : Option (Int32 × Mem) :=
  K32 x3 x4 (x5 + (1 : Int32)) μ
set_option maxRecDepth 100000 in
set_option maxHeartbeats 4000000 in
theorem w_X9_far_65 {g : Gx} {p : Program} {l : Launch} {e : Env} {s : State} {m : MethodId} {args : Array Value} {below : List Frame} {meth : Method} {c : Code} (C0 : Cx Lx g p s m args meth c cX9_far 6 (some .int) RX9) {r : Int32} {ν : Mem} (K32 : Int32 → Int32 → Int32 → Mem → Option (Int32 × Mem)) (hK32 : ∀ (x3 : Int32) (x4 : Int32) (x5 : Int32) (μ : Mem) (H : Heap) (locs : List Loc) (ls : Array Slot), Px Lx g μ H → va_S (Ax Lx g) s.heap H locs → lv_has ls 6 [(0, .ref (g.2.2.1 + 0)), (3, .int x3), (4, .int x4), (5, .int x5)] → K32 x3 x4 x5 μ = some (r, ν) → W p l e { frames := 4, cells := 0, slots := 0, locals := 91 } s m args below meth c H locs 0 0 (MQ below (Qx Lx g (some (.int r)) ν) args s 0 0 (Ax Lx g)) (F0 m 32 ls [])) (x3 : Int32) (x4 : Int32) (x5 : Int32) (μ : Mem) (H : Heap) (locs : List Loc) (ls : Array Slot) (hP : Px Lx g μ H) (hS : va_S (Ax Lx g) s.heap H locs) (hl : lv_has ls 6 [(0, .ref (g.2.2.1 + 0)), (3, .int x3), (4, .int x4), (5, .int x5)]) (h : X9_far_65 K32 x3 x4 x5 μ = some (r, ν)) : W p l e { frames := 4, cells := 0, slots := 0, locals := 91 } s m args below meth c H locs 0 0 (MQ below (Qx Lx g (some (.int r)) ν) args s 0 0 (Ax Lx g)) (F0 m 65 ls []) := by
  obtain ⟨hx, hb, hr, hml, hown, hts, hlocks, hK⟩ := id C0
  unfold X9_far_65 at h
  refine lv_iinc (v := (x5 + (1 : Int32))) (lv' := [(5, .int (x5 + (1 : Int32))), (0, .ref (g.2.2.1 + 0)), (3, .int x3), (4, .int x4)]) hx hb dX9_far_65 hl (k := 3) rfl rfl (by decide) rfl (fun ls hl => ?_)
  refine lv_goto (tgt := 32) hx hb dX9_far_68 (by decide) ?_
  exact hK32 x3 x4 (x5 + (1 : Int32)) μ _ _ _ hP hS (lv_sub hl [1, 2, 3, 0] rfl) h
def X9_far_32  : Nat → Int32 → Int32 → Int32 → Mem → Option (Int32 × Mem)
  | 0, _, _, _, _ => none
  | n + 1, x3, x4, x5, μ => (if (μ 1 6) ≤ x5 then some (x4, μ) else gd (inB x5 8) ((if ((μ 87 x5.toNatClampNeg) &&& x3) = (0 : Int32) then X9_far_65 (X9_far_32 n) x3 (x4 ||| ((1 : Int32) <<< (x5 &&& 31))) x5 μ else X9_far_65 (X9_far_32 n) x3 x4 x5 μ)))
set_option maxRecDepth 100000 in
set_option maxHeartbeats 4000000 in
theorem w_X9_far_32 {g : Gx} {p : Program} {l : Launch} {e : Env} {s : State} {m : MethodId} {args : Array Value} {below : List Frame} {meth : Method} {c : Code} (C0 : Cx Lx g p s m args meth c cX9_far 6 (some .int) RX9) {r : Int32} {ν : Mem}  (n : Nat) : ∀ (x3 : Int32) (x4 : Int32) (x5 : Int32) (μ : Mem) (H : Heap) (locs : List Loc) (ls : Array Slot), Px Lx g μ H → va_S (Ax Lx g) s.heap H locs → lv_has ls 6 [(0, .ref (g.2.2.1 + 0)), (3, .int x3), (4, .int x4), (5, .int x5)] → X9_far_32  n x3 x4 x5 μ = some (r, ν) → W p l e { frames := 4, cells := 0, slots := 0, locals := 91 } s m args below meth c H locs 0 0 (MQ below (Qx Lx g (some (.int r)) ν) args s 0 0 (Ax Lx g)) (F0 m 32 ls []) := by
  obtain ⟨hx, hb, hr, hml, hown, hts, hlocks, hK⟩ := id C0
  induction n with
  | zero =>
    intro x3 x4 x5 μ H locs ls hP hS hl h
    have h : (none : Option (Int32 × Mem)) = some (r, ν) := h
    cases h
  | succ n ih =>
    intro x3 x4 x5 μ H locs ls hP hS hl h
    rw [X9_far_32.eq_2] at h
    refine lv_iload hx hb dX9_far_32 (lv_at hl 3 rfl) ?_
    refine lv_aload_n hx hb dX9_far_34 rfl (lv_at hl 0 rfl) ?_
    refine x_get C0 hP inu9 (k := 0) cx_0 (by decide) rfl 0 (by decide) q2_81 rfl (v := .ref (g.2.2.1 + 1)) rfl dX9_far_35 ?_
    refine x_get C0 hP inu7 (k := 1) cx_1 (by decide) rfl 6 (by decide) q1_233 rfl (v := .int (μ 1 6)) rfl dX9_far_38 ?_
    refine lv_icmp_ge (tgt := 71) hx hb dX9_far_41 (by decide) (fun c7 => ?_) (fun c7 => ?_)
    · rw [if_pos c7] at h
      refine lv_iload hx hb dX9_far_71 (lv_at hl 2 rfl) ?_
      obtain ⟨rfl, rfl⟩ := some2 h
      exact x_iret C0 hP hS dX9_far_73
    · rw [if_neg c7] at h
      refine lv_aload_n hx hb dX9_far_44 rfl (lv_at hl 0 rfl) ?_
      refine x_get C0 hP inu9 (k := 0) cx_0 (by decide) rfl 7 (by decide) q2_88 rfl (v := .ref (g.2.2.1 + 87)) rfl dX9_far_45 ?_
      refine lv_iload hx hb dX9_far_48 (lv_at hl 3 rfl) ?_
      obtain ⟨z8, h⟩ := gd_some h
      refine x_iald C0 hP (k := 87) cx_87 (j := x5.toNatClampNeg) z8 rfl dX9_far_50 ?_
      refine lv_iload_n hx hb dX9_far_51 rfl (lv_at hl 1 rfl) ?_
      refine lv_iand hx hb dX9_far_52 ?_
      refine lv_if_ne (tgt := 65) hx hb dX9_far_53 (by decide) (fun c9 => ?_) (fun c9 => ?_)
      · rw [if_neg c9] at h
        exact w_X9_far_65 C0 (X9_far_32  n) ih x3 x4 x5 μ _ _ _ hP hS (lv_sub hl [0, 1, 2, 3] rfl) h
      · rw [if_pos c9] at h
        refine lv_iload hx hb dX9_far_56 (lv_at hl 2 rfl) ?_
        refine lv_iconst (v := (1 : Int32)) hx hb dX9_far_58 rfl ?_
        refine lv_iload hx hb dX9_far_59 (lv_at hl 3 rfl) ?_
        refine lv_ishl hx hb dX9_far_61 ?_
        refine lv_ior hx hb dX9_far_62 ?_
        refine lv_istore (lv' := [(4, .int (x4 ||| ((1 : Int32) <<< (x5 &&& 31)))), (0, .ref (g.2.2.1 + 0)), (3, .int x3), (5, .int x5)]) hx hb dX9_far_63 hl (by decide) rfl (fun ls hl => ?_)
        exact w_X9_far_65 C0 (X9_far_32  n) ih x3 (x4 ||| ((1 : Int32) <<< (x5 &&& 31))) x5 μ _ _ _ hP hS (lv_sub hl [1, 2, 0, 3] rfl) h
def X9_far (x1 : Int32) (x2 : Int32) (x3 : Int32) (μ : Mem) : Option (Int32 × Mem) :=
  ob2 (X9_isReach x1 μ) fun r1 μ1 => (if r1 = (0 : Int32) then X9_far_14 μ1 else ob2 (X9_isClock x2 μ1) fun r4 μ4 => (if r4 = (0 : Int32) then X9_far_14 μ4 else ob (X9_findNear x1 x2 μ4) fun μ6 => X9_far_32 FU x3 (0 : Int32) (0 : Int32) μ6))
set_option maxRecDepth 100000 in
set_option maxHeartbeats 4000000 in
theorem c_X9_far (l : Launch) (g : Gx) (x1 : Int32) (x2 : Int32) (x3 : Int32) (μ : Mem) {r : Int32} {ν : Mem} (h : X9_far x1 x2 x3 μ = some (r, ν)) : Ct Lx g l yX9_far cX9_far 6 (some .int) { frames := 4, cells := 0, slots := 0, locals := 91 } [.ref (g.2.2.1 + 0), .int x1, .int x2, .int x3] μ (some (.int r)) ν := by
  refine x_met (lv := [(0, .ref (g.2.2.1 + 0)), (1, .int x1), (2, .int x2), (3, .int x3)]) rfl (Nat.le_of_ble_eq_true rfl) rfl ?_
  intro p e s m below meth c C0 hP ls hl
  generalize ([.ref (g.2.2.1 + 0), .int x1, .int x2, .int x3] : List Value).toArray = args at C0 ⊢
  have C0 : Cx Lx g p s m args meth c cX9_far 6 (some .int) RX9 := C0
  have hS : va_S (Ax Lx g) s.heap s.heap [] := va_S.rf
  obtain ⟨hx, hb, hr, hml, hown, hts, hlocks, hK⟩ := id C0
  unfold X9_far at h
  skip
  refine lv_iload_n hx hb dX9_far_0 rfl (lv_at hl 1 rfl) ?_
  obtain ⟨r1, μ1, h1, h⟩ := ob2_some h
  refine x_callS C0 (rest := []) (c_X9_isReach l g x1 μ h1) q3_239 q3_237 q3_238 q1_1 hd_X9_isReach ⟨rfl, rfl⟩ ⟨Nat.le_of_ble_eq_true rfl, Nat.le_of_ble_eq_true rfl⟩ hP hS hl.1 rfl rfl (Nat.le_of_ble_eq_true rfl) dX9_far_1 (fun H locs hP hS => ?_)
  refine W.eq (g2 := F0 m 4 ls [.int r1]) rfl ?_
  refine lv_if_eq (tgt := 14) hx hb dX9_far_4 (by decide) (fun c2 => ?_) (fun c2 => ?_)
  · rw [if_pos c2] at h
    exact w_X9_far_14 C0   μ1 _ _ _ hP hS (lv_sub hl [0] rfl) h
  · rw [if_neg c2] at h
    refine lv_iload_n hx hb dX9_far_7 rfl (lv_at hl 2 rfl) ?_
    obtain ⟨r4, μ4, h1, h⟩ := ob2_some h
    refine x_callS C0 (rest := []) (c_X9_isClock l g x2 μ1 h1) q2_174 q2_172 q2_173 q1_1 hd_X9_isClock ⟨rfl, rfl⟩ ⟨Nat.le_of_ble_eq_true rfl, Nat.le_of_ble_eq_true rfl⟩ hP hS hl.1 rfl rfl (Nat.le_of_ble_eq_true rfl) dX9_far_8 (fun H locs hP hS => ?_)
    refine W.eq (g2 := F0 m 11 ls [.int r4]) rfl ?_
    refine lv_if_ne (tgt := 20) hx hb dX9_far_11 (by decide) (fun c5 => ?_) (fun c5 => ?_)
    · rw [if_neg c5] at h
      refine lv_aload_n hx hb dX9_far_20 rfl (lv_at hl 0 rfl) ?_
      refine lv_iload_n hx hb dX9_far_21 rfl (lv_at hl 1 rfl) ?_
      refine lv_iload_n hx hb dX9_far_22 rfl (lv_at hl 2 rfl) ?_
      obtain ⟨μ6, h1, h⟩ := ob_some h
      refine x_callV C0 (rest := []) (q := (RX9, TX9, 9)) (c_X9_findNear l g x1 x2 μ4 h1) q4_3 q4_0 q4_2 r2_0 q1_1 hd_X9_findNear ⟨rfl, rfl⟩ ⟨Nat.le_of_ble_eq_true rfl, Nat.le_of_ble_eq_true rfl⟩ cx_0 (by decide) rfl hP hS hl.1 rfl rfl (Nat.le_of_ble_eq_true rfl) dX9_far_23 (fun H locs hP hS => ?_)
      refine W.eq (g2 := F0 m 26 ls []) rfl ?_
      refine lv_iconst (v := (0 : Int32)) hx hb dX9_far_26 rfl ?_
      refine lv_istore (lv' := [(4, .int (0 : Int32)), (0, .ref (g.2.2.1 + 0)), (1, .int x1), (2, .int x2), (3, .int x3)]) hx hb dX9_far_27 hl (by decide) rfl (fun ls hl => ?_)
      refine lv_iconst (v := (0 : Int32)) hx hb dX9_far_29 rfl ?_
      refine lv_istore (lv' := [(5, .int (0 : Int32)), (4, .int (0 : Int32)), (0, .ref (g.2.2.1 + 0)), (1, .int x1), (2, .int x2), (3, .int x3)]) hx hb dX9_far_30 hl (by decide) rfl (fun ls hl => ?_)
      exact w_X9_far_32 C0  FU x3 (0 : Int32) (0 : Int32) μ6 _ _ _ hP hS (lv_sub hl [2, 5, 1, 0] rfl) h
    · rw [if_pos c5] at h
      exact w_X9_far_14 C0   μ4 _ _ _ hP hS (lv_sub hl [0] rfl) h
def X9_voice_20   (μ : Mem) : Option (Int32 × Mem) :=
  ob2 (X9_finding (1 : Int32) μ) fun r3 μ3 => some (r3, μ3)
set_option maxRecDepth 100000 in
set_option maxHeartbeats 4000000 in
theorem w_X9_voice_20 {g : Gx} {p : Program} {l : Launch} {e : Env} {s : State} {m : MethodId} {args : Array Value} {below : List Frame} {meth : Method} {c : Code} (C0 : Cx Lx g p s m args meth c cX9_voice 4 (some .int) RX9) {r : Int32} {ν : Mem}   (μ : Mem) (H : Heap) (locs : List Loc) (ls : Array Slot) (hP : Px Lx g μ H) (hS : va_S (Ax Lx g) s.heap H locs) (hl : lv_has ls 4 [(0, .ref (g.2.2.1 + 0))]) (h : X9_voice_20   μ = some (r, ν)) : W p l e { frames := 52, cells := 0, slots := 0, locals := 1128 } s m args below meth c H locs 0 0 (MQ below (Qx Lx g (some (.int r)) ν) args s 0 0 (Ax Lx g)) (F0 m 20 ls []) := by
  obtain ⟨hx, hb, hr, hml, hown, hts, hlocks, hK⟩ := id C0
  unfold X9_voice_20 at h
  refine lv_aload_n hx hb dX9_voice_20 rfl (lv_at hl 0 rfl) ?_
  refine lv_iconst (v := (1 : Int32)) hx hb dX9_voice_21 rfl ?_
  obtain ⟨r3, μ3, h1, h⟩ := ob2_some h
  refine x_callV C0 (rest := []) (q := (RX9, TX9, 9)) (c_X9_finding l g (1 : Int32) μ h1) q2_122 q2_119 q2_121 r1_0 q1_1 hd_X9_finding ⟨rfl, rfl⟩ ⟨Nat.le_of_ble_eq_true rfl, Nat.le_of_ble_eq_true rfl⟩ cx_0 (by decide) rfl hP hS hl.1 rfl rfl (Nat.le_of_ble_eq_true rfl) dX9_voice_22 (fun H locs hP hS => ?_)
  refine W.eq (g2 := F0 m 25 ls [.int r3]) rfl ?_
  obtain ⟨rfl, rfl⟩ := some2 h
  exact x_iret C0 hP hS dX9_voice_25
def X9_voice (x1 : Int32) (x2 : Int32) (x3 : Int32) (μ : Mem) : Option (Int32 × Mem) :=
  ob2 (X7_hasMeter x1 μ) fun r1 μ1 => (if r1 = (0 : Int32) then X9_voice_20 μ1 else (if x2 < (0 : Int32) then X9_voice_20 μ1 else (if x2 < (4 : Int32) then gd (inB x1 8) (ob2 (X8_speak (24 + 2 * x1.toNatClampNeg) x2 x3 μ1) fun r7 μ7 => some (r7, μ7)) else X9_voice_20 μ1)))
set_option maxRecDepth 100000 in
set_option maxHeartbeats 4000000 in
theorem c_X9_voice (l : Launch) (g : Gx) (x1 : Int32) (x2 : Int32) (x3 : Int32) (μ : Mem) {r : Int32} {ν : Mem} (h : X9_voice x1 x2 x3 μ = some (r, ν)) : Ct Lx g l yX9_voice cX9_voice 4 (some .int) { frames := 52, cells := 0, slots := 0, locals := 1128 } [.ref (g.2.2.1 + 0), .int x1, .int x2, .int x3] μ (some (.int r)) ν := by
  refine x_met (lv := [(0, .ref (g.2.2.1 + 0)), (1, .int x1), (2, .int x2), (3, .int x3)]) rfl (Nat.le_of_ble_eq_true rfl) rfl ?_
  intro p e s m below meth c C0 hP ls hl
  generalize ([.ref (g.2.2.1 + 0), .int x1, .int x2, .int x3] : List Value).toArray = args at C0 ⊢
  have C0 : Cx Lx g p s m args meth c cX9_voice 4 (some .int) RX9 := C0
  have hS : va_S (Ax Lx g) s.heap s.heap [] := va_S.rf
  obtain ⟨hx, hb, hr, hml, hown, hts, hlocks, hK⟩ := id C0
  unfold X9_voice at h
  skip
  refine lv_aload_n hx hb dX9_voice_0 rfl (lv_at hl 0 rfl) ?_
  refine x_get C0 hP inu9 (k := 0) cx_0 (by decide) rfl 0 (by decide) q2_81 rfl (v := .ref (g.2.2.1 + 1)) rfl dX9_voice_1 ?_
  refine lv_iload_n hx hb dX9_voice_4 rfl (lv_at hl 1 rfl) ?_
  obtain ⟨r1, μ1, h1, h⟩ := ob2_some h
  refine x_callV C0 (rest := []) (q := (RX7, TX7, 9)) (c_X7_hasMeter l g x1 μ h1) q2_143 q2_140 q2_141 q2_142 q1_2 hd_X7_hasMeter ⟨rfl, rfl⟩ ⟨Nat.le_of_ble_eq_true rfl, Nat.le_of_ble_eq_true rfl⟩ cx_1 (by decide) rfl hP hS hl.1 rfl rfl (Nat.le_of_ble_eq_true rfl) dX9_voice_5 (fun H locs hP hS => ?_)
  refine W.eq (g2 := F0 m 8 ls [.int r1]) rfl ?_
  refine lv_if_eq (tgt := 20) hx hb dX9_voice_8 (by decide) (fun c2 => ?_) (fun c2 => ?_)
  · rw [if_pos c2] at h
    exact w_X9_voice_20 C0   μ1 _ _ _ hP hS (lv_sub hl [0] rfl) h
  · rw [if_neg c2] at h
    refine lv_iload_n hx hb dX9_voice_11 rfl (lv_at hl 2 rfl) ?_
    refine lv_if_lt (tgt := 20) hx hb dX9_voice_12 (by decide) (fun c4 => ?_) (fun c4 => ?_)
    · rw [if_pos c4] at h
      exact w_X9_voice_20 C0   μ1 _ _ _ hP hS (lv_sub hl [0] rfl) h
    · rw [if_neg c4] at h
      refine lv_iload_n hx hb dX9_voice_15 rfl (lv_at hl 2 rfl) ?_
      refine lv_iconst (v := (4 : Int32)) hx hb dX9_voice_16 rfl ?_
      refine lv_icmp_lt (tgt := 26) hx hb dX9_voice_17 (by decide) (fun c5 => ?_) (fun c5 => ?_)
      · rw [if_pos c5] at h
        refine lv_aload_n hx hb dX9_voice_26 rfl (lv_at hl 0 rfl) ?_
        refine x_get C0 hP inu9 (k := 0) cx_0 (by decide) rfl 4 (by decide) q2_85 rfl (v := .ref (g.2.2.1 + 83)) rfl dX9_voice_27 ?_
        refine lv_aload_n hx hb dX9_voice_30 rfl (lv_at hl 0 rfl) ?_
        refine x_get C0 hP inu9 (k := 0) cx_0 (by decide) rfl 0 (by decide) q2_81 rfl (v := .ref (g.2.2.1 + 1)) rfl dX9_voice_31 ?_
        refine x_get C0 hP inu7 (k := 1) cx_1 (by decide) rfl 0 (by decide) q1_221 rfl (v := .ref (g.2.2.1 + 2)) rfl dX9_voice_34 ?_
        refine lv_iload_n hx hb dX9_voice_37 rfl (lv_at hl 1 rfl) ?_
        obtain ⟨z6, h⟩ := gd_some h
        refine x_maald C0 hP (k := 2) cx_2 (j := x1.toNatClampNeg) z6 rfl dX9_voice_38 ?_
        refine W.eq (g2 := F0 m 39 ls [.ref (g.2.2.1 + (24 + 2 * x1.toNatClampNeg)), .ref (g.2.2.1 + 83)]) rfl ?_
        refine lv_iload_n hx hb dX9_voice_39 rfl (lv_at hl 2 rfl) ?_
        refine lv_iload_n hx hb dX9_voice_40 rfl (lv_at hl 3 rfl) ?_
        obtain ⟨r7, μ7, h1, h⟩ := ob2_some h
        refine x_callV C0 (rest := []) (q := (RX8, TX8, 2)) (c_X8_speak l g (24 + 2 * x1.toNatClampNeg) (met_i z6) x2 x3 μ1 h1) q4_29 q4_26 q4_27 q4_28 q1_9 hd_X8_speak ⟨rfl, rfl⟩ ⟨Nat.le_of_ble_eq_true rfl, Nat.le_of_ble_eq_true rfl⟩ cx_83 (by decide) rfl hP hS hl.1 rfl rfl (Nat.le_of_ble_eq_true rfl) dX9_voice_41 (fun H locs hP hS => ?_)
        refine W.eq (g2 := F0 m 44 ls [.int r7]) rfl ?_
        obtain ⟨rfl, rfl⟩ := some2 h
        exact x_iret C0 hP hS dX9_voice_44
      · rw [if_neg c5] at h
        exact w_X9_voice_20 C0   μ1 _ _ _ hP hS (lv_sub hl [0] rfl) h
def X9_trace_15   (μ : Mem) : Option (Int32 × Mem) :=
  ob2 (X9_finding (2 : Int32) μ) fun r2 μ2 => some (r2, μ2)
set_option maxRecDepth 100000 in
set_option maxHeartbeats 4000000 in
theorem w_X9_trace_15 {g : Gx} {p : Program} {l : Launch} {e : Env} {s : State} {m : MethodId} {args : Array Value} {below : List Frame} {meth : Method} {c : Code} (C0 : Cx Lx g p s m args meth c cX9_trace 2 (some .int) RX9) {r : Int32} {ν : Mem}   (μ : Mem) (H : Heap) (locs : List Loc) (ls : Array Slot) (hP : Px Lx g μ H) (hS : va_S (Ax Lx g) s.heap H locs) (hl : lv_has ls 2 [(0, .ref (g.2.2.1 + 0))]) (h : X9_trace_15   μ = some (r, ν)) : W p l e { frames := 1, cells := 0, slots := 0, locals := 21 } s m args below meth c H locs 0 0 (MQ below (Qx Lx g (some (.int r)) ν) args s 0 0 (Ax Lx g)) (F0 m 15 ls []) := by
  obtain ⟨hx, hb, hr, hml, hown, hts, hlocks, hK⟩ := id C0
  unfold X9_trace_15 at h
  refine lv_aload_n hx hb dX9_trace_15 rfl (lv_at hl 0 rfl) ?_
  refine lv_iconst (v := (2 : Int32)) hx hb dX9_trace_16 rfl ?_
  obtain ⟨r2, μ2, h1, h⟩ := ob2_some h
  refine x_callV C0 (rest := []) (q := (RX9, TX9, 9)) (c_X9_finding l g (2 : Int32) μ h1) q2_122 q2_119 q2_121 r1_0 q1_1 hd_X9_finding ⟨rfl, rfl⟩ ⟨Nat.le_of_ble_eq_true rfl, Nat.le_of_ble_eq_true rfl⟩ cx_0 (by decide) rfl hP hS hl.1 rfl rfl (Nat.le_of_ble_eq_true rfl) dX9_trace_17 (fun H locs hP hS => ?_)
  refine W.eq (g2 := F0 m 20 ls [.int r2]) rfl ?_
  obtain ⟨rfl, rfl⟩ := some2 h
  exact x_iret C0 hP hS dX9_trace_20
def X9_trace (x1 : Int32) (μ : Mem) : Option (Int32 × Mem) :=
  (if x1 < (0 : Int32) then X9_trace_15 μ else (if x1 < (μ 83 1) then gd (inB x1 40) (some ((μ 84 x1.toNatClampNeg), μ)) else X9_trace_15 μ))
set_option maxRecDepth 100000 in
set_option maxHeartbeats 4000000 in
theorem c_X9_trace (l : Launch) (g : Gx) (x1 : Int32) (μ : Mem) {r : Int32} {ν : Mem} (h : X9_trace x1 μ = some (r, ν)) : Ct Lx g l yX9_trace cX9_trace 2 (some .int) { frames := 1, cells := 0, slots := 0, locals := 21 } [.ref (g.2.2.1 + 0), .int x1] μ (some (.int r)) ν := by
  refine x_met (lv := [(0, .ref (g.2.2.1 + 0)), (1, .int x1)]) rfl (Nat.le_of_ble_eq_true rfl) rfl ?_
  intro p e s m below meth c C0 hP ls hl
  generalize ([.ref (g.2.2.1 + 0), .int x1] : List Value).toArray = args at C0 ⊢
  have C0 : Cx Lx g p s m args meth c cX9_trace 2 (some .int) RX9 := C0
  have hS : va_S (Ax Lx g) s.heap s.heap [] := va_S.rf
  obtain ⟨hx, hb, hr, hml, hown, hts, hlocks, hK⟩ := id C0
  unfold X9_trace at h
  skip
  refine lv_iload_n hx hb dX9_trace_0 rfl (lv_at hl 1 rfl) ?_
  refine lv_if_lt (tgt := 15) hx hb dX9_trace_1 (by decide) (fun c1 => ?_) (fun c1 => ?_)
  · rw [if_pos c1] at h
    exact w_X9_trace_15 C0   μ _ _ _ hP hS (lv_sub hl [0] rfl) h
  · rw [if_neg c1] at h
    refine lv_iload_n hx hb dX9_trace_4 rfl (lv_at hl 1 rfl) ?_
    refine lv_aload_n hx hb dX9_trace_5 rfl (lv_at hl 0 rfl) ?_
    refine x_get C0 hP inu9 (k := 0) cx_0 (by decide) rfl 4 (by decide) q2_85 rfl (v := .ref (g.2.2.1 + 83)) rfl dX9_trace_6 ?_
    refine x_get C0 hP inu8 (k := 83) cx_83 (by decide) rfl 1 (by decide) q2_55 rfl (v := .int (μ 83 1)) rfl dX9_trace_9 ?_
    refine lv_icmp_lt (tgt := 21) hx hb dX9_trace_12 (by decide) (fun c3 => ?_) (fun c3 => ?_)
    · rw [if_pos c3] at h
      refine lv_aload_n hx hb dX9_trace_21 rfl (lv_at hl 0 rfl) ?_
      refine x_get C0 hP inu9 (k := 0) cx_0 (by decide) rfl 4 (by decide) q2_85 rfl (v := .ref (g.2.2.1 + 83)) rfl dX9_trace_22 ?_
      refine x_get C0 hP inu8 (k := 83) cx_83 (by decide) rfl 0 (by decide) q2_53 rfl (v := .ref (g.2.2.1 + 84)) rfl dX9_trace_25 ?_
      refine lv_iload_n hx hb dX9_trace_28 rfl (lv_at hl 1 rfl) ?_
      obtain ⟨z4, h⟩ := gd_some h
      refine x_iald C0 hP (k := 84) cx_84 (j := x1.toNatClampNeg) z4 rfl dX9_trace_29 ?_
      obtain ⟨rfl, rfl⟩ := some2 h
      exact x_iret C0 hP hS dX9_trace_30
    · rw [if_neg c3] at h
      exact w_X9_trace_15 C0   μ _ _ _ hP hS (lv_sub hl [0] rfl) h
