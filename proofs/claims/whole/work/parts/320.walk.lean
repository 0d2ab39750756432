def X10_told_35 (K7 : Int32 → Int32 → Int32 → Int32 → Mem → Option (Int32 × Mem)) (x1 : Int32) (x3 : Int32) (x4 : Int32) (t0 : Int32) (t1 : Int32) (μ : Mem) : Option (Int32 × Mem) :=
  ob2 (X10_of x4 (4 : Int32) μ) fun r17 μ17 => K7 x1 (t0 + t1) (x3 + r17) (x4 + (1 : Int32)) μ17
set_option maxRecDepth 100000 in
set_option maxHeartbeats 4000000 in
theorem w_X10_told_35 {g : Gx} {p : Program} {l : Launch} {e : Env} {s : State} {m : MethodId} {args : Array Value} {below : List Frame} {meth : Method} {c : Code} (C0 : Cx Lm g p s m args meth c cX10_told 5 (some .int) RX10) {r : Int32} {ν : Mem} (K7 : Int32 → Int32 → Int32 → Int32 → Mem → Option (Int32 × Mem)) (hK7 : ∀ (x1 : Int32) (x2 : Int32) (x3 : Int32) (x4 : Int32) (μ : Mem) (H : Heap) (locs : List Loc) (ls : Array Slot), Px Lm g μ H → va_S (Ax Lm g) s.heap H locs → lv_has ls 5 [(0, .ref (g.2.2.1 + 0)), (1, .int x1), (2, .int x2), (3, .int x3), (4, .int x4)] → K7 x1 x2 x3 x4 μ = some (r, ν) → W p l e { frames := 1, cells := 0, slots := 0, locals := 22 } s m args below meth c H locs 0 0 (MQ below (Qx Lm g (some (.int r)) ν) args s 0 0 (Ax Lm g)) (F0 m 7 ls [])) (x1 : Int32) (x3 : Int32) (x4 : Int32) (t0 : Int32) (t1 : Int32) (μ : Mem) (H : Heap) (locs : List Loc) (ls : Array Slot) (hP : Px Lm g μ H) (hS : va_S (Ax Lm g) s.heap H locs) (hl : lv_has ls 5 [(0, .ref (g.2.2.1 + 0)), (1, .int x1), (3, .int x3), (4, .int x4)]) (h : X10_told_35 K7 x1 x3 x4 t0 t1 μ = some (r, ν)) : W p l e { frames := 1, cells := 0, slots := 0, locals := 22 } s m args below meth c H locs 0 0 (MQ below (Qx Lm g (some (.int r)) ν) args s 0 0 (Ax Lm g)) (F0 m 35 ls [.int t1, .int t0]) := by
  obtain ⟨hx, hb, hr, hml, hown, hts, hlocks, hK⟩ := id C0
  unfold X10_told_35 at h
  refine lv_iadd hx hb dX10_told_35 ?_
  refine lv_istore_n (lv' := [(2, .int (t0 + t1)), (0, .ref (g.2.2.1 + 0)), (1, .int x1), (3, .int x3), (4, .int x4)]) hx hb dX10_told_36 rfl hl (by decide) rfl (fun ls hl => ?_)
  refine lv_iload_n hx hb dX10_told_37 rfl (lv_at hl 3 rfl) ?_
  refine lv_aload_n hx hb dX10_told_38 rfl (lv_at hl 1 rfl) ?_
  refine lv_iload hx hb dX10_told_39 (lv_at hl 4 rfl) ?_
  refine lv_iconst (v := (4 : Int32)) hx hb dX10_told_41 rfl ?_
  obtain ⟨r17, μ17, h1, h⟩ := ob2_some h
  refine x_callV C0 (rest := [.int x3]) (q := (RX10, TX10, 22)) (c_X10_of l g x4 (4 : Int32) μ h1) q4_235 q4_232 q4_234 r2_9 q1_11 hd_X10_of ⟨rfl, rfl⟩ ⟨Nat.le_of_ble_eq_true rfl, Nat.le_of_ble_eq_true rfl⟩ cm_0 (by decide) rfl hP hS hl.1 rfl rfl (Nat.le_of_ble_eq_true rfl) dX10_told_42 (fun H locs hP hS => ?_)
  refine W.eq (g2 := F0 m 45 ls [.int r17, .int x3]) rfl ?_
  refine lv_iadd hx hb dX10_told_45 ?_
  refine lv_istore_n (lv' := [(3, .int (x3 + r17)), (2, .int (t0 + t1)), (0, .ref (g.2.2.1 + 0)), (1, .int x1), (4, .int x4)]) hx hb dX10_told_46 rfl hl (by decide) rfl (fun ls hl => ?_)
  refine lv_iinc (v := (x4 + (1 : Int32))) (lv' := [(4, .int (x4 + (1 : Int32))), (3, .int (x3 + r17)), (2, .int (t0 + t1)), (0, .ref (g.2.2.1 + 0)), (1, .int x1)]) hx hb dX10_told_47 hl (k := 4) rfl rfl (by decide) rfl (fun ls hl => ?_)
  refine lv_goto (tgt := 7) hx hb dX10_told_50 (by decide) ?_
  exact hK7 x1 (t0 + t1) (x3 + r17) (x4 + (1 : Int32)) μ17 _ _ _ hP hS (lv_sub hl [3, 4, 2, 1, 0] rfl) h
def X10_told_7  : Nat → Int32 → Int32 → Int32 → Int32 → Mem → Option (Int32 × Mem)
  | 0, _, _, _, _, _ => none
  | n + 1, x1, x2, x3, x4, μ => (if (μ 1 1) ≤ x4 then (if x1 = (0 : Int32) then some ((μ 1 1), μ) else (if x1 = (1 : Int32) then some ((μ 1 2), μ) else (if x1 = (2 : Int32) then some ((μ 1 3), μ) else (if x1 = (3 : Int32) then some ((μ 1 0), μ) else (if x1 = (4 : Int32) then some ((μ 1 6), μ) else (if x1 = (5 : Int32) then some ((μ 1 4), μ) else (if x1 = (6 : Int32) then some ((μ 1 5), μ) else (if x1 = (7 : Int32) then some ((μ 1 7), μ) else (if x1 = (8 : Int32) then some ((μ 1 8), μ) else (if x1 = (9 : Int32) then some (x2, μ) else (if x1 = (10 : Int32) then some (x3, μ) else (if x1 = (11 : Int32) then some ((μ 0 14), μ) else ob2 (X10_finding (1 : Int32) μ) fun r14 μ14 => some (r14, μ14))))))))))))) else ob2 (X10_of x4 (6 : Int32) μ) fun r15 μ15 => (if r15 = (0 : Int32) then X10_told_35 (X10_told_7 n) x1 x3 x4 x2 (1 : Int32) μ15 else X10_told_35 (X10_told_7 n) x1 x3 x4 x2 (0 : Int32) μ15))
set_option maxRecDepth 100000 in
set_option maxHeartbeats 4000000 in
theorem w_X10_told_7 {g : Gx} {p : Program} {l : Launch} {e : Env} {s : State} {m : MethodId} {args : Array Value} {below : List Frame} {meth : Method} {c : Code} (C0 : Cx Lm g p s m args meth c cX10_told 5 (some .int) RX10) {r : Int32} {ν : Mem}  (n : Nat) : ∀ (x1 : Int32) (x2 : Int32) (x3 : Int32) (x4 : Int32) (μ : Mem) (H : Heap) (locs : List Loc) (ls : Array Slot), Px Lm g μ H → va_S (Ax Lm g) s.heap H locs → lv_has ls 5 [(0, .ref (g.2.2.1 + 0)), (1, .int x1), (2, .int x2), (3, .int x3), (4, .int x4)] → X10_told_7  n x1 x2 x3 x4 μ = some (r, ν) → W p l e { frames := 1, cells := 0, slots := 0, locals := 22 } s m args below meth c H locs 0 0 (MQ below (Qx Lm g (some (.int r)) ν) args s 0 0 (Ax Lm g)) (F0 m 7 ls []) := by
  obtain ⟨hx, hb, hr, hml, hown, hts, hlocks, hK⟩ := id C0
  induction n with
  | zero =>
    intro x1 x2 x3 x4 μ H locs ls hP hS hl h
    have h : (none : Option (Int32 × Mem)) = some (r, ν) := h
    cases h
  | succ n ih =>
    intro x1 x2 x3 x4 μ H locs ls hP hS hl h
    rw [X10_told_7.eq_2] at h
    refine lv_iload hx hb dX10_told_7 (lv_at hl 4 rfl) ?_
    refine lv_aload_n hx hb dX10_told_9 rfl (lv_at hl 0 rfl) ?_
    refine x_get C0 hP inu10 (k := 0) cm_0 (by decide) rfl 0 (by decide) q4_134 rfl (v := .ref (g.2.2.1 + 1)) rfl dX10_told_10 ?_
    refine lv_iconst (v := (1 : Int32)) hx hb dX10_told_13 rfl ?_
    refine x_iald C0 hP (k := 1) cm_1 (j := 1) (by decide) rfl dX10_told_14 ?_
    refine lv_icmp_ge (tgt := 53) hx hb dX10_told_15 (by decide) (fun c1 => ?_) (fun c1 => ?_)
    · rw [if_pos c1] at h
      refine lv_iload_n hx hb dX10_told_53 rfl (lv_at hl 1 rfl) ?_
      by_cases c2 : x1 = (0 : Int32)
      · rw [if_pos c2] at h
        refine lv_tableIn (tgt := 116) (off := 62) hx hb dX10_told_54 (by rw [c2]; decide) (by rw [c2]; decide) (by rw [c2]; decide) (by decide) ?_
        refine lv_aload_n hx hb dX10_told_116 rfl (lv_at hl 0 rfl) ?_
        refine x_get C0 hP inu10 (k := 0) cm_0 (by decide) rfl 0 (by decide) q4_134 rfl (v := .ref (g.2.2.1 + 1)) rfl dX10_told_117 ?_
        refine lv_iconst (v := (1 : Int32)) hx hb dX10_told_120 rfl ?_
        refine x_iald C0 hP (k := 1) cm_1 (j := 1) (by decide) rfl dX10_told_121 ?_
        obtain ⟨rfl, rfl⟩ := some2 h
        exact x_iret C0 hP hS dX10_told_122
      rw [if_neg c2] at h
      by_cases c3 : x1 = (1 : Int32)
      · rw [if_pos c3] at h
        refine lv_tableIn (tgt := 123) (off := 69) hx hb dX10_told_54 (by rw [c3]; decide) (by rw [c3]; decide) (by rw [c3]; decide) (by decide) ?_
        refine lv_aload_n hx hb dX10_told_123 rfl (lv_at hl 0 rfl) ?_
        refine x_get C0 hP inu10 (k := 0) cm_0 (by decide) rfl 0 (by decide) q4_134 rfl (v := .ref (g.2.2.1 + 1)) rfl dX10_told_124 ?_
        refine lv_iconst (v := (2 : Int32)) hx hb dX10_told_127 rfl ?_
        refine x_iald C0 hP (k := 1) cm_1 (j := 2) (by decide) rfl dX10_told_128 ?_
        obtain ⟨rfl, rfl⟩ := some2 h
        exact x_iret C0 hP hS dX10_told_129
      rw [if_neg c3] at h
      by_cases c4 : x1 = (2 : Int32)
      · rw [if_pos c4] at h
        refine lv_tableIn (tgt := 130) (off := 76) hx hb dX10_told_54 (by rw [c4]; decide) (by rw [c4]; decide) (by rw [c4]; decide) (by decide) ?_
        refine lv_aload_n hx hb dX10_told_130 rfl (lv_at hl 0 rfl) ?_
        refine x_get C0 hP inu10 (k := 0) cm_0 (by decide) rfl 0 (by decide) q4_134 rfl (v := .ref (g.2.2.1 + 1)) rfl dX10_told_131 ?_
        refine lv_iconst (v := (3 : Int32)) hx hb dX10_told_134 rfl ?_
        refine x_iald C0 hP (k := 1) cm_1 (j := 3) (by decide) rfl dX10_told_135 ?_
        obtain ⟨rfl, rfl⟩ := some2 h
        exact x_iret C0 hP hS dX10_told_136
      rw [if_neg c4] at h
      by_cases c5 : x1 = (3 : Int32)
      · rw [if_pos c5] at h
        refine lv_tableIn (tgt := 137) (off := 83) hx hb dX10_told_54 (by rw [c5]; decide) (by rw [c5]; decide) (by rw [c5]; decide) (by decide) ?_
        refine lv_aload_n hx hb dX10_told_137 rfl (lv_at hl 0 rfl) ?_
        refine x_get C0 hP inu10 (k := 0) cm_0 (by decide) rfl 0 (by decide) q4_134 rfl (v := .ref (g.2.2.1 + 1)) rfl dX10_told_138 ?_
        refine lv_iconst (v := (0 : Int32)) hx hb dX10_told_141 rfl ?_
        refine x_iald C0 hP (k := 1) cm_1 (j := 0) (by decide) rfl dX10_told_142 ?_
        obtain ⟨rfl, rfl⟩ := some2 h
        exact x_iret C0 hP hS dX10_told_143
      rw [if_neg c5] at h
      by_cases c6 : x1 = (4 : Int32)
      · rw [if_pos c6] at h
        refine lv_tableIn (tgt := 144) (off := 90) hx hb dX10_told_54 (by rw [c6]; decide) (by rw [c6]; decide) (by rw [c6]; decide) (by decide) ?_
        refine lv_aload_n hx hb dX10_told_144 rfl (lv_at hl 0 rfl) ?_
        refine x_get C0 hP inu10 (k := 0) cm_0 (by decide) rfl 0 (by decide) q4_134 rfl (v := .ref (g.2.2.1 + 1)) rfl dX10_told_145 ?_
        refine lv_bipush (v := (6 : Int32)) hx hb dX10_told_148 (by decide +kernel) ?_
        refine x_iald C0 hP (k := 1) cm_1 (j := 6) (by decide) rfl dX10_told_150 ?_
        obtain ⟨rfl, rfl⟩ := some2 h
        exact x_iret C0 hP hS dX10_told_151
      rw [if_neg c6] at h
      by_cases c7 : x1 = (5 : Int32)
      · rw [if_pos c7] at h
        refine lv_tableIn (tgt := 152) (off := 98) hx hb dX10_told_54 (by rw [c7]; decide) (by rw [c7]; decide) (by rw [c7]; decide) (by decide) ?_
        refine lv_aload_n hx hb dX10_told_152 rfl (lv_at hl 0 rfl) ?_
        refine x_get C0 hP inu10 (k := 0) cm_0 (by decide) rfl 0 (by decide) q4_134 rfl (v := .ref (g.2.2.1 + 1)) rfl dX10_told_153 ?_
        refine lv_iconst (v := (4 : Int32)) hx hb dX10_told_156 rfl ?_
        refine x_iald C0 hP (k := 1) cm_1 (j := 4) (by decide) rfl dX10_told_157 ?_
        obtain ⟨rfl, rfl⟩ := some2 h
        exact x_iret C0 hP hS dX10_told_158
      rw [if_neg c7] at h
      by_cases c8 : x1 = (6 : Int32)
      · rw [if_pos c8] at h
        refine lv_tableIn (tgt := 159) (off := 105) hx hb dX10_told_54 (by rw [c8]; decide) (by rw [c8]; decide) (by rw [c8]; decide) (by decide) ?_
        refine lv_aload_n hx hb dX10_told_159 rfl (lv_at hl 0 rfl) ?_
        refine x_get C0 hP inu10 (k := 0) cm_0 (by decide) rfl 0 (by decide) q4_134 rfl (v := .ref (g.2.2.1 + 1)) rfl dX10_told_160 ?_
        refine lv_iconst (v := (5 : Int32)) hx hb dX10_told_163 rfl ?_
        refine x_iald C0 hP (k := 1) cm_1 (j := 5) (by decide) rfl dX10_told_164 ?_
        obtain ⟨rfl, rfl⟩ := some2 h
        exact x_iret C0 hP hS dX10_told_165
      rw [if_neg c8] at h
      by_cases c9 : x1 = (7 : Int32)
      · rw [if_pos c9] at h
        refine lv_tableIn (tgt := 166) (off := 112) hx hb dX10_told_54 (by rw [c9]; decide) (by rw [c9]; decide) (by rw [c9]; decide) (by decide) ?_
        refine lv_aload_n hx hb dX10_told_166 rfl (lv_at hl 0 rfl) ?_
        refine x_get C0 hP inu10 (k := 0) cm_0 (by decide) rfl 0 (by decide) q4_134 rfl (v := .ref (g.2.2.1 + 1)) rfl dX10_told_167 ?_
        refine lv_bipush (v := (7 : Int32)) hx hb dX10_told_170 (by decide +kernel) ?_
        refine x_iald C0 hP (k := 1) cm_1 (j := 7) (by decide) rfl dX10_told_172 ?_
        obtain ⟨rfl, rfl⟩ := some2 h
        exact x_iret C0 hP hS dX10_told_173
      rw [if_neg c9] at h
      by_cases c10 : x1 = (8 : Int32)
      · rw [if_pos c10] at h
        refine lv_tableIn (tgt := 174) (off := 120) hx hb dX10_told_54 (by rw [c10]; decide) (by rw [c10]; decide) (by rw [c10]; decide) (by decide) ?_
        refine lv_aload_n hx hb dX10_told_174 rfl (lv_at hl 0 rfl) ?_
        refine x_get C0 hP inu10 (k := 0) cm_0 (by decide) rfl 0 (by decide) q4_134 rfl (v := .ref (g.2.2.1 + 1)) rfl dX10_told_175 ?_
        refine lv_bipush (v := (8 : Int32)) hx hb dX10_told_178 (by decide +kernel) ?_
        refine x_iald C0 hP (k := 1) cm_1 (j := 8) (by decide) rfl dX10_told_180 ?_
        obtain ⟨rfl, rfl⟩ := some2 h
        exact x_iret C0 hP hS dX10_told_181
      rw [if_neg c10] at h
      by_cases c11 : x1 = (9 : Int32)
      · rw [if_pos c11] at h
        refine lv_tableIn (tgt := 182) (off := 128) hx hb dX10_told_54 (by rw [c11]; decide) (by rw [c11]; decide) (by rw [c11]; decide) (by decide) ?_
        refine lv_iload_n hx hb dX10_told_182 rfl (lv_at hl 2 rfl) ?_
        obtain ⟨rfl, rfl⟩ := some2 h
        exact x_iret C0 hP hS dX10_told_183
      rw [if_neg c11] at h
      by_cases c12 : x1 = (10 : Int32)
      · rw [if_pos c12] at h
        refine lv_tableIn (tgt := 184) (off := 130) hx hb dX10_told_54 (by rw [c12]; decide) (by rw [c12]; decide) (by rw [c12]; decide) (by decide) ?_
        refine lv_iload_n hx hb dX10_told_184 rfl (lv_at hl 3 rfl) ?_
        obtain ⟨rfl, rfl⟩ := some2 h
        exact x_iret C0 hP hS dX10_told_185
      rw [if_neg c12] at h
      by_cases c13 : x1 = (11 : Int32)
      · rw [if_pos c13] at h
        refine lv_tableIn (tgt := 186) (off := 132) hx hb dX10_told_54 (by rw [c13]; decide) (by rw [c13]; decide) (by rw [c13]; decide) (by decide) ?_
        refine lv_aload_n hx hb dX10_told_186 rfl (lv_at hl 0 rfl) ?_
        refine x_get C0 hP inu10 (k := 0) cm_0 (by decide) rfl 14 (by decide) q4_148 rfl (v := .int (μ 0 14)) rfl dX10_told_187 ?_
        obtain ⟨rfl, rfl⟩ := some2 h
        exact x_iret C0 hP hS dX10_told_190
      rw [if_neg c13] at h
      have i2 : ¬ x1.toInt = 0 := fun q => c2 (Int32.toInt_inj.mp (q.trans (by decide)))
      have i3 : ¬ x1.toInt = 1 := fun q => c3 (Int32.toInt_inj.mp (q.trans (by decide)))
      have i4 : ¬ x1.toInt = 2 := fun q => c4 (Int32.toInt_inj.mp (q.trans (by decide)))
      have i5 : ¬ x1.toInt = 3 := fun q => c5 (Int32.toInt_inj.mp (q.trans (by decide)))
      have i6 : ¬ x1.toInt = 4 := fun q => c6 (Int32.toInt_inj.mp (q.trans (by decide)))
      have i7 : ¬ x1.toInt = 5 := fun q => c7 (Int32.toInt_inj.mp (q.trans (by decide)))
      have i8 : ¬ x1.toInt = 6 := fun q => c8 (Int32.toInt_inj.mp (q.trans (by decide)))
      have i9 : ¬ x1.toInt = 7 := fun q => c9 (Int32.toInt_inj.mp (q.trans (by decide)))
      have i10 : ¬ x1.toInt = 8 := fun q => c10 (Int32.toInt_inj.mp (q.trans (by decide)))
      have i11 : ¬ x1.toInt = 9 := fun q => c11 (Int32.toInt_inj.mp (q.trans (by decide)))
      have i12 : ¬ x1.toInt = 10 := fun q => c12 (Int32.toInt_inj.mp (q.trans (by decide)))
      have i13 : ¬ x1.toInt = 11 := fun q => c13 (Int32.toInt_inj.mp (q.trans (by decide)))
      refine lv_tableOut (tgt := 191) hx hb dX10_told_54 (by omega) (by decide) ?_
      refine lv_aload_n hx hb dX10_told_191 rfl (lv_at hl 0 rfl) ?_
      refine lv_iconst (v := (1 : Int32)) hx hb dX10_told_192 rfl ?_
      obtain ⟨r14, μ14, h1, h⟩ := ob2_some h
      refine x_callV C0 (rest := []) (q := (RX10, TX10, 22)) (c_X10_finding l g (1 : Int32) μ h1) q4_214 q4_211 q4_213 r2_5 q1_11 hd_X10_finding ⟨rfl, rfl⟩ ⟨Nat.le_of_ble_eq_true rfl, Nat.le_of_ble_eq_true rfl⟩ cm_0 (by decide) rfl hP hS hl.1 rfl rfl (Nat.le_of_ble_eq_true rfl) dX10_told_193 (fun H locs hP hS => ?_)
      refine W.eq (g2 := F0 m 196 ls [.int r14]) rfl ?_
      obtain ⟨rfl, rfl⟩ := some2 h
      exact x_iret C0 hP hS dX10_told_196
    · rw [if_neg c1] at h
      refine lv_iload_n hx hb dX10_told_18 rfl (lv_at hl 2 rfl) ?_
      refine lv_aload_n hx hb dX10_told_19 rfl (lv_at hl 0 rfl) ?_
      refine lv_iload hx hb dX10_told_20 (lv_at hl 4 rfl) ?_
      refine lv_bipush (v := (6 : Int32)) hx hb dX10_told_22 (by decide +kernel) ?_
      obtain ⟨r15, μ15, h1, h⟩ := ob2_some h
      refine x_callV C0 (rest := [.int x2]) (q := (RX10, TX10, 22)) (c_X10_of l g x4 (6 : Int32) μ h1) q4_235 q4_232 q4_234 r2_9 q1_11 hd_X10_of ⟨rfl, rfl⟩ ⟨Nat.le_of_ble_eq_true rfl, Nat.le_of_ble_eq_true rfl⟩ cm_0 (by decide) rfl hP hS hl.1 rfl rfl (Nat.le_of_ble_eq_true rfl) dX10_told_24 (fun H locs hP hS => ?_)
      refine W.eq (g2 := F0 m 27 ls [.int r15, .int x2]) rfl ?_
      refine lv_if_ne (tgt := 34) hx hb dX10_told_27 (by decide) (fun c16 => ?_) (fun c16 => ?_)
      · rw [if_neg c16] at h
        refine lv_iconst (v := (0 : Int32)) hx hb dX10_told_34 rfl ?_
        exact w_X10_told_35 C0 (X10_told_7  n) ih x1 x3 x4 x2 (0 : Int32) μ15 _ _ _ hP hS (lv_sub hl [0, 1, 3, 4] rfl) h
      · rw [if_pos c16] at h
        refine lv_iconst (v := (1 : Int32)) hx hb dX10_told_30 rfl ?_
        refine lv_goto (tgt := 35) hx hb dX10_told_31 (by decide) ?_
        exact w_X10_told_35 C0 (X10_told_7  n) ih x1 x3 x4 x2 (1 : Int32) μ15 _ _ _ hP hS (lv_sub hl [0, 1, 3, 4] rfl) h
def X10_told (x1 : Int32) (μ : Mem) : Option (Int32 × Mem) :=
  X10_told_7 FU x1 (0 : Int32) (0 : Int32) (0 : Int32) μ
set_option maxRecDepth 100000 in
set_option maxHeartbeats 4000000 in
theorem c_X10_told (l : Launch) (g : Gx) (x1 : Int32) (μ : Mem) {r : Int32} {ν : Mem} (h : X10_told x1 μ = some (r, ν)) : Ct Lm g l yX10_told cX10_told 5 (some .int) { frames := 1, cells := 0, slots := 0, locals := 22 } [.ref (g.2.2.1 + 0), .int x1] μ (some (.int r)) ν := by
  refine x_met (lv := [(0, .ref (g.2.2.1 + 0)), (1, .int x1)]) rfl (Nat.le_of_ble_eq_true rfl) rfl ?_
  intro p e s m below meth c C0 hP ls hl
  generalize ([.ref (g.2.2.1 + 0), .int x1] : List Value).toArray = args at C0 ⊢
  have C0 : Cx Lm g p s m args meth c cX10_told 5 (some .int) RX10 := C0
  have hS : va_S (Ax Lm g) s.heap s.heap [] := va_S.rf
  obtain ⟨hx, hb, hr, hml, hown, hts, hlocks, hK⟩ := id C0
  unfold X10_told at h
  skip
  refine lv_iconst (v := (0 : Int32)) hx hb dX10_told_0 rfl ?_
  refine lv_istore_n (lv' := [(2, .int (0 : Int32)), (0, .ref (g.2.2.1 + 0)), (1, .int x1)]) hx hb dX10_told_1 rfl hl (by decide) rfl (fun ls hl => ?_)
  refine lv_iconst (v := (0 : Int32)) hx hb dX10_told_2 rfl ?_
  refine lv_istore_n (lv' := [(3, .int (0 : Int32)), (2, .int (0 : Int32)), (0, .ref (g.2.2.1 + 0)), (1, .int x1)]) hx hb dX10_told_3 rfl hl (by decide) rfl (fun ls hl => ?_)
  refine lv_iconst (v := (0 : Int32)) hx hb dX10_told_4 rfl ?_
  refine lv_istore (lv' := [(4, .int (0 : Int32)), (3, .int (0 : Int32)), (2, .int (0 : Int32)), (0, .ref (g.2.2.1 + 0)), (1, .int x1)]) hx hb dX10_told_5 hl (by decide) rfl (fun ls hl => ?_)
  exact w_X10_told_7 C0  FU x1 (0 : Int32) (0 : Int32) (0 : Int32) μ _ _ _ hP hS (lv_sub hl [3, 4, 2, 1, 0] rfl) h
def X10_found (x1 : Int32) (μ : Mem) : Option (Int32 × Mem) :=
  ob2 (X10_in x1 (1 : Int32) (5 : Int32) μ) fun r1 μ1 => (if r1 = (0 : Int32) then ob2 (X10_finding (1 : Int32) μ1) fun r3 μ3 => some (r3, μ3) else gd (inB x1 6) (some ((μ1 4 x1.toNatClampNeg), μ1)))
set_option maxRecDepth 100000 in
set_option maxHeartbeats 4000000 in
theorem c_X10_found (l : Launch) (g : Gx) (x1 : Int32) (μ : Mem) {r : Int32} {ν : Mem} (h : X10_found x1 μ = some (r, ν)) : Ct Lm g l yX10_found cX10_found 2 (some .int) { frames := 1, cells := 0, slots := 0, locals := 22 } [.ref (g.2.2.1 + 0), .int x1] μ (some (.int r)) ν := by
  refine x_met (lv := [(0, .ref (g.2.2.1 + 0)), (1, .int x1)]) rfl (Nat.le_of_ble_eq_true rfl) rfl ?_
  intro p e s m below meth c C0 hP ls hl
  generalize ([.ref (g.2.2.1 + 0), .int x1] : List Value).toArray = args at C0 ⊢
  have C0 : Cx Lm g p s m args meth c cX10_found 2 (some .int) RX10 := C0
  have hS : va_S (Ax Lm g) s.heap s.heap [] := va_S.rf
  obtain ⟨hx, hb, hr, hml, hown, hts, hlocks, hK⟩ := id C0
  unfold X10_found at h
  skip
  refine lv_iload_n hx hb dX10_found_0 rfl (lv_at hl 1 rfl) ?_
  refine lv_iconst (v := (1 : Int32)) hx hb dX10_found_1 rfl ?_
  refine lv_iconst (v := (5 : Int32)) hx hb dX10_found_2 rfl ?_
  obtain ⟨r1, μ1, h1, h⟩ := ob2_some h
  refine x_callS C0 (rest := []) (c_X10_in l g x1 (1 : Int32) (5 : Int32) μ h1) q4_207 q4_205 q4_206 q1_11 hd_X10_in ⟨rfl, rfl⟩ ⟨Nat.le_of_ble_eq_true rfl, Nat.le_of_ble_eq_true rfl⟩ hP hS hl.1 rfl rfl (Nat.le_of_ble_eq_true rfl) dX10_found_3 (fun H locs hP hS => ?_)
  refine W.eq (g2 := F0 m 6 ls [.int r1]) rfl ?_
  refine lv_if_eq (tgt := 18) hx hb dX10_found_6 (by decide) (fun c2 => ?_) (fun c2 => ?_)
  · rw [if_pos c2] at h
    refine lv_aload_n hx hb dX10_found_18 rfl (lv_at hl 0 rfl) ?_
    refine lv_iconst (v := (1 : Int32)) hx hb dX10_found_19 rfl ?_
    obtain ⟨r3, μ3, h1, h⟩ := ob2_some h
    refine x_callV C0 (rest := []) (q := (RX10, TX10, 22)) (c_X10_finding l g (1 : Int32) μ1 h1) q4_214 q4_211 q4_213 r2_5 q1_11 hd_X10_finding ⟨rfl, rfl⟩ ⟨Nat.le_of_ble_eq_true rfl, Nat.le_of_ble_eq_true rfl⟩ cm_0 (by decide) rfl hP hS hl.1 rfl rfl (Nat.le_of_ble_eq_true rfl) dX10_found_20 (fun H locs hP hS => ?_)
    refine W.eq (g2 := F0 m 23 ls [.int r3]) rfl ?_
    obtain ⟨rfl, rfl⟩ := some2 h
    exact x_iret C0 hP hS dX10_found_23
  · rw [if_neg c2] at h
    refine lv_aload_n hx hb dX10_found_9 rfl (lv_at hl 0 rfl) ?_
    refine x_get C0 hP inu10 (k := 0) cm_0 (by decide) rfl 5 (by decide) q4_139 rfl (v := .ref (g.2.2.1 + 4)) rfl dX10_found_10 ?_
    refine lv_iload_n hx hb dX10_found_13 rfl (lv_at hl 1 rfl) ?_
    obtain ⟨z4, h⟩ := gd_some h
    refine x_iald C0 hP (k := 4) cm_4 (j := x1.toNatClampNeg) z4 rfl dX10_found_14 ?_
    refine lv_goto (tgt := 23) hx hb dX10_found_15 (by decide) ?_
    obtain ⟨rfl, rfl⟩ := some2 h
    exact x_iret C0 hP hS dX10_found_23
