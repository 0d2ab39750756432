def X10_top_40   (μ : Mem) : Option (Int32 × Mem) :=
  ob2 (X10_finding (1 : Int32) μ) fun r3 μ3 => some (r3, μ3)
set_option maxRecDepth 100000 in
set_option maxHeartbeats 4000000 in
theorem w_X10_top_40 {g : Gx} {p : Program} {l : Launch} {e : Env} {s : State} {m : MethodId} {args : Array Value} {below : List Frame} {meth : Method} {c : Code} (C0 : Cx Lm g p s m args meth c cX10_top 6 (some .int) RX10) {r : Int32} {ν : Mem}   (μ : Mem) (H : Heap) (locs : List Loc) (ls : Array Slot) (hP : Px Lm g μ H) (hS : va_S (Ax Lm g) s.heap H locs) (hl : lv_has ls 6 [(0, .ref (g.2.2.1 + 0))]) (h : X10_top_40   μ = some (r, ν)) : W p l e { frames := 69, cells := 0, slots := 0, locals := 1567 } s m args below meth c H locs 0 0 (MQ below (Qx Lm g (some (.int r)) ν) args s 0 0 (Ax Lm g)) (F0 m 40 ls []) := by
  obtain ⟨hx, hb, hr, hml, hown, hts, hlocks, hK⟩ := id C0
  unfold X10_top_40 at h
  refine lv_aload_n hx hb dX10_top_40 rfl (lv_at hl 0 rfl) ?_
  refine lv_iconst (v := (1 : Int32)) hx hb dX10_top_41 rfl ?_
  obtain ⟨r3, μ3, h1, h⟩ := ob2_some h
  refine x_callV C0 (rest := []) (q := (RX10, TX10, 22)) (c_X10_finding l g (1 : Int32) μ h1) q4_214 q4_211 q4_213 r2_5 q1_11 hd_X10_finding ⟨rfl, rfl⟩ ⟨Nat.le_of_ble_eq_true rfl, Nat.le_of_ble_eq_true rfl⟩ cm_0 (by decide) rfl hP hS hl.1 rfl rfl (Nat.le_of_ble_eq_true rfl) dX10_top_42 (fun H locs hP hS => ?_)
  refine W.eq (g2 := F0 m 45 ls [.int r3]) rfl ?_
  obtain ⟨rfl, rfl⟩ := some2 h
  exact x_iret C0 hP hS dX10_top_45
def X10_top_172  (x3 : Int32) (x4 : Int32) (μ : Mem) : Option (Int32 × Mem) :=
  lt (st μ 1 7 ((μ 1 7) + x3)) fun μ11 => lt (st μ11 1 8 ((μ11 1 8) + x4)) fun μ12 => some (x4, μ12)
set_option maxRecDepth 100000 in
set_option maxHeartbeats 4000000 in
theorem w_X10_top_172 {g : Gx} {p : Program} {l : Launch} {e : Env} {s : State} {m : MethodId} {args : Array Value} {below : List Frame} {meth : Method} {c : Code} (C0 : Cx Lm g p s m args meth c cX10_top 6 (some .int) RX10) {r : Int32} {ν : Mem}  (x3 : Int32) (x4 : Int32) (μ : Mem) (H : Heap) (locs : List Loc) (ls : Array Slot) (hP : Px Lm g μ H) (hS : va_S (Ax Lm g) s.heap H locs) (hl : lv_has ls 6 [(0, .ref (g.2.2.1 + 0)), (3, .int x3), (4, .int x4)]) (h : X10_top_172  x3 x4 μ = some (r, ν)) : W p l e { frames := 69, cells := 0, slots := 0, locals := 1567 } s m args below meth c H locs 0 0 (MQ below (Qx Lm g (some (.int r)) ν) args s 0 0 (Ax Lm g)) (F0 m 172 ls []) := by
  obtain ⟨hx, hb, hr, hml, hown, hts, hlocks, hK⟩ := id C0
  unfold X10_top_172 at h
  refine lv_aload_n hx hb dX10_top_172 rfl (lv_at hl 0 rfl) ?_
  refine x_get C0 hP inu10 (k := 0) cm_0 (by decide) rfl 0 (by decide) q4_134 rfl (v := .ref (g.2.2.1 + 1)) rfl dX10_top_173 ?_
  refine lv_bipush (v := (7 : Int32)) hx hb dX10_top_176 (by decide +kernel) ?_
  refine lv_dup2_11 hx hb dX10_top_178 rfl rfl ?_
  refine x_iald C0 hP (k := 1) cm_1 (j := 7) (by decide) rfl dX10_top_179 ?_
  refine lv_iload_n hx hb dX10_top_180 rfl (lv_at hl 1 rfl) ?_
  refine lv_iadd hx hb dX10_top_181 ?_
  obtain ⟨μ11, e11, h⟩ := lt_some h
  refine x_iast C0 hP hS (k := 1) cm_1 (j := 7) (by decide) rfl dX10_top_182 (fun H locs hP hS => ?_)
  rw [← e11] at hP
  refine lv_aload_n hx hb dX10_top_183 rfl (lv_at hl 0 rfl) ?_
  refine x_get C0 hP inu10 (k := 0) cm_0 (by decide) rfl 0 (by decide) q4_134 rfl (v := .ref (g.2.2.1 + 1)) rfl dX10_top_184 ?_
  refine lv_bipush (v := (8 : Int32)) hx hb dX10_top_187 (by decide +kernel) ?_
  refine lv_dup2_11 hx hb dX10_top_189 rfl rfl ?_
  refine x_iald C0 hP (k := 1) cm_1 (j := 8) (by decide) rfl dX10_top_190 ?_
  refine lv_iload hx hb dX10_top_191 (lv_at hl 2 rfl) ?_
  refine lv_iadd hx hb dX10_top_193 ?_
  obtain ⟨μ12, e12, h⟩ := lt_some h
  refine x_iast C0 hP hS (k := 1) cm_1 (j := 8) (by decide) rfl dX10_top_194 (fun H locs hP hS => ?_)
  rw [← e12] at hP
  refine lv_iload hx hb dX10_top_195 (lv_at hl 2 rfl) ?_
  obtain ⟨rfl, rfl⟩ := some2 h
  exact x_iret C0 hP hS dX10_top_197
def X10_top_92  (x1 : Int32) (x3 : Int32) (μ : Mem) : Option (Int32 × Mem) :=
  ob2 (X10_tops x1 x3 μ) fun r9 μ9 => (if (200 : Int32) ≤ (μ9 1 5) then X10_top_172 x3 r9 μ9 else gd (inB ((1284 : Int32) + ((3 : Int32) * (μ9 1 5))) 1944) (lt (st μ9 1 ((1284 : Int32) + ((3 : Int32) * (μ9 1 5))).toNatClampNeg x1) fun μ14 => gd (inB (((1284 : Int32) + ((3 : Int32) * (μ9 1 5))) + (1 : Int32)) 1944) (lt (st μ14 1 (((1284 : Int32) + ((3 : Int32) * (μ9 1 5))) + (1 : Int32)).toNatClampNeg (μ14 1 0)) fun μ16 => gd (inB (((1284 : Int32) + ((3 : Int32) * (μ9 1 5))) + (2 : Int32)) 1944) (lt (st μ16 1 (((1284 : Int32) + ((3 : Int32) * (μ9 1 5))) + (2 : Int32)).toNatClampNeg (x3 - r9)) fun μ18 => lt (st μ18 1 5 ((μ18 1 5) + (1 : Int32))) fun μ19 => X10_top_172 x3 r9 μ19))))
set_option maxRecDepth 100000 in
set_option maxHeartbeats 4000000 in
theorem w_X10_top_92 {g : Gx} {p : Program} {l : Launch} {e : Env} {s : State} {m : MethodId} {args : Array Value} {below : List Frame} {meth : Method} {c : Code} (C0 : Cx Lm g p s m args meth c cX10_top 6 (some .int) RX10) {r : Int32} {ν : Mem}  (x1 : Int32) (x3 : Int32) (μ : Mem) (H : Heap) (locs : List Loc) (ls : Array Slot) (hP : Px Lm g μ H) (hS : va_S (Ax Lm g) s.heap H locs) (hl : lv_has ls 6 [(0, .ref (g.2.2.1 + 0)), (1, .int x1), (3, .int x3)]) (h : X10_top_92  x1 x3 μ = some (r, ν)) : W p l e { frames := 69, cells := 0, slots := 0, locals := 1567 } s m args below meth c H locs 0 0 (MQ below (Qx Lm g (some (.int r)) ν) args s 0 0 (Ax Lm g)) (F0 m 92 ls []) := by
  obtain ⟨hx, hb, hr, hml, hown, hts, hlocks, hK⟩ := id C0
  unfold X10_top_92 at h
  refine lv_aload_n hx hb dX10_top_92 rfl (lv_at hl 0 rfl) ?_
  refine lv_iload_n hx hb dX10_top_93 rfl (lv_at hl 1 rfl) ?_
  refine lv_iload_n hx hb dX10_top_94 rfl (lv_at hl 2 rfl) ?_
  obtain ⟨r9, μ9, h1, h⟩ := ob2_some h
  refine x_callV C0 (rest := []) (q := (RX10, TX10, 22)) (c_X10_tops l g x1 x3 μ h1) q5_108 q5_105 q5_107 r3_11 q1_11 hd_X10_tops ⟨rfl, rfl⟩ ⟨Nat.le_of_ble_eq_true rfl, Nat.le_of_ble_eq_true rfl⟩ cm_0 (by decide) rfl hP hS hl.1 rfl rfl (Nat.le_of_ble_eq_true rfl) dX10_top_95 (fun H locs hP hS => ?_)
  refine W.eq (g2 := F0 m 98 ls [.int r9]) rfl ?_
  refine lv_istore (lv' := [(4, .int r9), (0, .ref (g.2.2.1 + 0)), (1, .int x1), (3, .int x3)]) hx hb dX10_top_98 hl (by decide) rfl (fun ls hl => ?_)
  refine lv_aload_n hx hb dX10_top_100 rfl (lv_at hl 1 rfl) ?_
  refine x_get C0 hP inu10 (k := 0) cm_0 (by decide) rfl 0 (by decide) q4_134 rfl (v := .ref (g.2.2.1 + 1)) rfl dX10_top_101 ?_
  refine lv_iconst (v := (5 : Int32)) hx hb dX10_top_104 rfl ?_
  refine x_iald C0 hP (k := 1) cm_1 (j := 5) (by decide) rfl dX10_top_105 ?_
  refine lv_sipush (v := (200 : Int32)) hx hb dX10_top_106 (by decide +kernel) ?_
  refine lv_icmp_ge (tgt := 172) hx hb dX10_top_109 (by decide) (fun c10 => ?_) (fun c10 => ?_)
  · rw [if_pos c10] at h
    exact w_X10_top_172 C0  x3 r9 μ9 _ _ _ hP hS (lv_sub hl [1, 3, 0] rfl) h
  · rw [if_neg c10] at h
    refine lv_sipush (v := (1284 : Int32)) hx hb dX10_top_112 (by decide +kernel) ?_
    refine lv_iconst (v := (3 : Int32)) hx hb dX10_top_115 rfl ?_
    refine lv_aload_n hx hb dX10_top_116 rfl (lv_at hl 1 rfl) ?_
    refine x_get C0 hP inu10 (k := 0) cm_0 (by decide) rfl 0 (by decide) q4_134 rfl (v := .ref (g.2.2.1 + 1)) rfl dX10_top_117 ?_
    refine lv_iconst (v := (5 : Int32)) hx hb dX10_top_120 rfl ?_
    refine x_iald C0 hP (k := 1) cm_1 (j := 5) (by decide) rfl dX10_top_121 ?_
    refine lv_imul hx hb dX10_top_122 ?_
    refine lv_iadd hx hb dX10_top_123 ?_
    refine lv_istore (lv' := [(5, .int ((1284 : Int32) + ((3 : Int32) * (μ9 1 5)))), (4, .int r9), (0, .ref (g.2.2.1 + 0)), (1, .int x1), (3, .int x3)]) hx hb dX10_top_124 hl (by decide) rfl (fun ls hl => ?_)
    refine lv_aload_n hx hb dX10_top_126 rfl (lv_at hl 2 rfl) ?_
    refine x_get C0 hP inu10 (k := 0) cm_0 (by decide) rfl 0 (by decide) q4_134 rfl (v := .ref (g.2.2.1 + 1)) rfl dX10_top_127 ?_
    refine lv_iload hx hb dX10_top_130 (lv_at hl 0 rfl) ?_
    refine lv_iload_n hx hb dX10_top_132 rfl (lv_at hl 3 rfl) ?_
    obtain ⟨z13, h⟩ := gd_some h
    obtain ⟨μ14, e14, h⟩ := lt_some h
    refine x_iast C0 hP hS (k := 1) cm_1 (j := ((1284 : Int32) + ((3 : Int32) * (μ9 1 5))).toNatClampNeg) z13 rfl dX10_top_133 (fun H locs hP hS => ?_)
    rw [← e14] at hP
    refine lv_aload_n hx hb dX10_top_134 rfl (lv_at hl 2 rfl) ?_
    refine x_get C0 hP inu10 (k := 0) cm_0 (by decide) rfl 0 (by decide) q4_134 rfl (v := .ref (g.2.2.1 + 1)) rfl dX10_top_135 ?_
    refine lv_iload hx hb dX10_top_138 (lv_at hl 0 rfl) ?_
    refine lv_iconst (v := (1 : Int32)) hx hb dX10_top_140 rfl ?_
    refine lv_iadd hx hb dX10_top_141 ?_
    refine lv_aload_n hx hb dX10_top_142 rfl (lv_at hl 2 rfl) ?_
    refine x_get C0 hP inu10 (k := 0) cm_0 (by decide) rfl 0 (by decide) q4_134 rfl (v := .ref (g.2.2.1 + 1)) rfl dX10_top_143 ?_
    refine lv_iconst (v := (0 : Int32)) hx hb dX10_top_146 rfl ?_
    refine x_iald C0 hP (k := 1) cm_1 (j := 0) (by decide) rfl dX10_top_147 ?_
    obtain ⟨z15, h⟩ := gd_some h
    obtain ⟨μ16, e16, h⟩ := lt_some h
    refine x_iast C0 hP hS (k := 1) cm_1 (j := (((1284 : Int32) + ((3 : Int32) * (μ9 1 5))) + (1 : Int32)).toNatClampNeg) z15 rfl dX10_top_148 (fun H locs hP hS => ?_)
    rw [← e16] at hP
    refine lv_aload_n hx hb dX10_top_149 rfl (lv_at hl 2 rfl) ?_
    refine x_get C0 hP inu10 (k := 0) cm_0 (by decide) rfl 0 (by decide) q4_134 rfl (v := .ref (g.2.2.1 + 1)) rfl dX10_top_150 ?_
    refine lv_iload hx hb dX10_top_153 (lv_at hl 0 rfl) ?_
    refine lv_iconst (v := (2 : Int32)) hx hb dX10_top_155 rfl ?_
    refine lv_iadd hx hb dX10_top_156 ?_
    refine lv_iload_n hx hb dX10_top_157 rfl (lv_at hl 4 rfl) ?_
    refine lv_iload hx hb dX10_top_158 (lv_at hl 1 rfl) ?_
    refine lv_isub hx hb dX10_top_160 ?_
    obtain ⟨z17, h⟩ := gd_some h
    obtain ⟨μ18, e18, h⟩ := lt_some h
    refine x_iast C0 hP hS (k := 1) cm_1 (j := (((1284 : Int32) + ((3 : Int32) * (μ9 1 5))) + (2 : Int32)).toNatClampNeg) z17 rfl dX10_top_161 (fun H locs hP hS => ?_)
    rw [← e18] at hP
    refine lv_aload_n hx hb dX10_top_162 rfl (lv_at hl 2 rfl) ?_
    refine x_get C0 hP inu10 (k := 0) cm_0 (by decide) rfl 0 (by decide) q4_134 rfl (v := .ref (g.2.2.1 + 1)) rfl dX10_top_163 ?_
    refine lv_iconst (v := (5 : Int32)) hx hb dX10_top_166 rfl ?_
    refine lv_dup2_11 hx hb dX10_top_167 rfl rfl ?_
    refine x_iald C0 hP (k := 1) cm_1 (j := 5) (by decide) rfl dX10_top_168 ?_
    refine lv_iconst (v := (1 : Int32)) hx hb dX10_top_169 rfl ?_
    refine lv_iadd hx hb dX10_top_170 ?_
    obtain ⟨μ19, e19, h⟩ := lt_some h
    refine x_iast C0 hP hS (k := 1) cm_1 (j := 5) (by decide) rfl dX10_top_171 (fun H locs hP hS => ?_)
    rw [← e19] at hP
    exact w_X10_top_172 C0  x3 r9 μ19 _ _ _ hP hS (lv_sub hl [2, 4, 1] rfl) h
def X10_top_65  (x1 : Int32) (x2 : Int32) (x3 : Int32) (μ : Mem) : Option (Int32 × Mem) :=
  (if x2 < (0 : Int32) then X10_top_92 x1 x3 μ else ob2 (X10_isOpen x2 ((μ 1 0) - (μ 1 0) / (24 : Int32) * (24 : Int32)) μ) fun r20 μ20 => (if r20 = (0 : Int32) then ob2 (X10_finding (3 : Int32) μ20) fun r22 μ22 => some (r22, μ22) else X10_top_92 x1 x3 μ20))
set_option maxRecDepth 100000 in
set_option maxHeartbeats 4000000 in
theorem w_X10_top_65 {g : Gx} {p : Program} {l : Launch} {e : Env} {s : State} {m : MethodId} {args : Array Value} {below : List Frame} {meth : Method} {c : Code} (C0 : Cx Lm g p s m args meth c cX10_top 6 (some .int) RX10) {r : Int32} {ν : Mem}  (x1 : Int32) (x2 : Int32) (x3 : Int32) (μ : Mem) (H : Heap) (locs : List Loc) (ls : Array Slot) (hP : Px Lm g μ H) (hS : va_S (Ax Lm g) s.heap H locs) (hl : lv_has ls 6 [(0, .ref (g.2.2.1 + 0)), (1, .int x1), (2, .int x2), (3, .int x3)]) (h : X10_top_65  x1 x2 x3 μ = some (r, ν)) : W p l e { frames := 69, cells := 0, slots := 0, locals := 1567 } s m args below meth c H locs 0 0 (MQ below (Qx Lm g (some (.int r)) ν) args s 0 0 (Ax Lm g)) (F0 m 65 ls []) := by
  obtain ⟨hx, hb, hr, hml, hown, hts, hlocks, hK⟩ := id C0
  unfold X10_top_65 at h
  refine lv_iload_n hx hb dX10_top_65 rfl (lv_at hl 2 rfl) ?_
  refine lv_if_lt (tgt := 92) hx hb dX10_top_66 (by decide) (fun c8 => ?_) (fun c8 => ?_)
  · rw [if_pos c8] at h
    exact w_X10_top_92 C0  x1 x3 μ _ _ _ hP hS (lv_sub hl [0, 1, 3] rfl) h
  · rw [if_neg c8] at h
    refine lv_aload_n hx hb dX10_top_69 rfl (lv_at hl 0 rfl) ?_
    refine lv_iload_n hx hb dX10_top_70 rfl (lv_at hl 2 rfl) ?_
    refine lv_aload_n hx hb dX10_top_71 rfl (lv_at hl 0 rfl) ?_
    refine x_get C0 hP inu10 (k := 0) cm_0 (by decide) rfl 0 (by decide) q4_134 rfl (v := .ref (g.2.2.1 + 1)) rfl dX10_top_72 ?_
    refine lv_iconst (v := (0 : Int32)) hx hb dX10_top_75 rfl ?_
    refine x_iald C0 hP (k := 1) cm_1 (j := 0) (by decide) rfl dX10_top_76 ?_
    refine lv_bipush (v := (24 : Int32)) hx hb dX10_top_77 (by decide +kernel) ?_
    refine lv_irem hx hb dX10_top_79 (by decide) ?_
    obtain ⟨r20, μ20, h1, h⟩ := ob2_some h
    refine x_callV C0 (rest := []) (q := (RX10, TX10, 22)) (c_X10_isOpen l g x2 ((μ 1 0) - (μ 1 0) / (24 : Int32) * (24 : Int32)) μ h1) q5_96 q5_93 q5_95 r3_9 q1_11 hd_X10_isOpen ⟨rfl, rfl⟩ ⟨Nat.le_of_ble_eq_true rfl, Nat.le_of_ble_eq_true rfl⟩ cm_0 (by decide) rfl hP hS hl.1 rfl rfl (Nat.le_of_ble_eq_true rfl) dX10_top_80 (fun H locs hP hS => ?_)
    refine W.eq (g2 := F0 m 83 ls [.int r20]) rfl ?_
    refine lv_if_ne (tgt := 92) hx hb dX10_top_83 (by decide) (fun c21 => ?_) (fun c21 => ?_)
    · rw [if_neg c21] at h
      exact w_X10_top_92 C0  x1 x3 μ20 _ _ _ hP hS (lv_sub hl [0, 1, 3] rfl) h
    · rw [if_pos c21] at h
      refine lv_aload_n hx hb dX10_top_86 rfl (lv_at hl 0 rfl) ?_
      refine lv_iconst (v := (3 : Int32)) hx hb dX10_top_87 rfl ?_
      obtain ⟨r22, μ22, h1, h⟩ := ob2_some h
      refine x_callV C0 (rest := []) (q := (RX10, TX10, 22)) (c_X10_finding l g (3 : Int32) μ20 h1) q4_214 q4_211 q4_213 r2_5 q1_11 hd_X10_finding ⟨rfl, rfl⟩ ⟨Nat.le_of_ble_eq_true rfl, Nat.le_of_ble_eq_true rfl⟩ cm_0 (by decide) rfl hP hS hl.1 rfl rfl (Nat.le_of_ble_eq_true rfl) dX10_top_88 (fun H locs hP hS => ?_)
      refine W.eq (g2 := F0 m 91 ls [.int r22]) rfl ?_
      obtain ⟨rfl, rfl⟩ := some2 h
      exact x_iret C0 hP hS dX10_top_91
def X10_top_29  (x1 : Int32) (x2 : Int32) (x3 : Int32) (μ : Mem) : Option (Int32 × Mem) :=
  ob2 (X10_in x3 (1 : Int32) (9999 : Int32) μ) fun r5 μ5 => (if r5 = (0 : Int32) then X10_top_40 μ5 else (if x2 = (-1 : Int32) then ob2 (X10_isSmart x1 μ5) fun r23 μ23 => (if r23 = (0 : Int32) then ob2 (X10_finding (5 : Int32) μ23) fun r25 μ25 => some (r25, μ25) else X10_top_65 x1 x2 x3 μ23) else X10_top_65 x1 x2 x3 μ5))
set_option maxRecDepth 100000 in
set_option maxHeartbeats 4000000 in
theorem w_X10_top_29 {g : Gx} {p : Program} {l : Launch} {e : Env} {s : State} {m : MethodId} {args : Array Value} {below : List Frame} {meth : Method} {c : Code} (C0 : Cx Lm g p s m args meth c cX10_top 6 (some .int) RX10) {r : Int32} {ν : Mem}  (x1 : Int32) (x2 : Int32) (x3 : Int32) (μ : Mem) (H : Heap) (locs : List Loc) (ls : Array Slot) (hP : Px Lm g μ H) (hS : va_S (Ax Lm g) s.heap H locs) (hl : lv_has ls 6 [(0, .ref (g.2.2.1 + 0)), (1, .int x1), (2, .int x2), (3, .int x3)]) (h : X10_top_29  x1 x2 x3 μ = some (r, ν)) : W p l e { frames := 69, cells := 0, slots := 0, locals := 1567 } s m args below meth c H locs 0 0 (MQ below (Qx Lm g (some (.int r)) ν) args s 0 0 (Ax Lm g)) (F0 m 29 ls []) := by
  obtain ⟨hx, hb, hr, hml, hown, hts, hlocks, hK⟩ := id C0
  unfold X10_top_29 at h
  refine lv_iload_n hx hb dX10_top_29 rfl (lv_at hl 3 rfl) ?_
  refine lv_iconst (v := (1 : Int32)) hx hb dX10_top_30 rfl ?_
  refine lv_sipush (v := (9999 : Int32)) hx hb dX10_top_31 (by decide +kernel) ?_
  obtain ⟨r5, μ5, h1, h⟩ := ob2_some h
  refine x_callS C0 (rest := []) (c_X10_in l g x3 (1 : Int32) (9999 : Int32) μ h1) q4_207 q4_205 q4_206 q1_11 hd_X10_in ⟨rfl, rfl⟩ ⟨Nat.le_of_ble_eq_true rfl, Nat.le_of_ble_eq_true rfl⟩ hP hS hl.1 rfl rfl (Nat.le_of_ble_eq_true rfl) dX10_top_34 (fun H locs hP hS => ?_)
  refine W.eq (g2 := F0 m 37 ls [.int r5]) rfl ?_
  refine lv_if_ne (tgt := 46) hx hb dX10_top_37 (by decide) (fun c6 => ?_) (fun c6 => ?_)
  · rw [if_neg c6] at h
    refine lv_iload_n hx hb dX10_top_46 rfl (lv_at hl 2 rfl) ?_
    refine lv_iconst (v := (-1 : Int32)) hx hb dX10_top_47 rfl ?_
    refine lv_icmp_ne (tgt := 65) hx hb dX10_top_48 (by decide) (fun c7 => ?_) (fun c7 => ?_)
    · rw [if_neg c7] at h
      exact w_X10_top_65 C0  x1 x2 x3 μ5 _ _ _ hP hS (lv_sub hl [0, 1, 2, 3] rfl) h
    · rw [if_pos c7] at h
      refine lv_aload_n hx hb dX10_top_51 rfl (lv_at hl 0 rfl) ?_
      refine lv_iload_n hx hb dX10_top_52 rfl (lv_at hl 1 rfl) ?_
      obtain ⟨r23, μ23, h1, h⟩ := ob2_some h
      refine x_callV C0 (rest := []) (q := (RX10, TX10, 22)) (c_X10_isSmart l g x1 μ5 h1) q5_7 q5_4 q5_6 r2_11 q1_11 hd_X10_isSmart ⟨rfl, rfl⟩ ⟨Nat.le_of_ble_eq_true rfl, Nat.le_of_ble_eq_true rfl⟩ cm_0 (by decide) rfl hP hS hl.1 rfl rfl (Nat.le_of_ble_eq_true rfl) dX10_top_53 (fun H locs hP hS => ?_)
      refine W.eq (g2 := F0 m 56 ls [.int r23]) rfl ?_
      refine lv_if_ne (tgt := 65) hx hb dX10_top_56 (by decide) (fun c24 => ?_) (fun c24 => ?_)
      · rw [if_neg c24] at h
        exact w_X10_top_65 C0  x1 x2 x3 μ23 _ _ _ hP hS (lv_sub hl [0, 1, 2, 3] rfl) h
      · rw [if_pos c24] at h
        refine lv_aload_n hx hb dX10_top_59 rfl (lv_at hl 0 rfl) ?_
        refine lv_iconst (v := (5 : Int32)) hx hb dX10_top_60 rfl ?_
        obtain ⟨r25, μ25, h1, h⟩ := ob2_some h
        refine x_callV C0 (rest := []) (q := (RX10, TX10, 22)) (c_X10_finding l g (5 : Int32) μ23 h1) q4_214 q4_211 q4_213 r2_5 q1_11 hd_X10_finding ⟨rfl, rfl⟩ ⟨Nat.le_of_ble_eq_true rfl, Nat.le_of_ble_eq_true rfl⟩ cm_0 (by decide) rfl hP hS hl.1 rfl rfl (Nat.le_of_ble_eq_true rfl) dX10_top_61 (fun H locs hP hS => ?_)
        refine W.eq (g2 := F0 m 64 ls [.int r25]) rfl ?_
        obtain ⟨rfl, rfl⟩ := some2 h
        exact x_iret C0 hP hS dX10_top_64
  · rw [if_pos c6] at h
    exact w_X10_top_40 C0   μ5 _ _ _ hP hS (lv_sub hl [0] rfl) h
def X10_top (x1 : Int32) (x2 : Int32) (x3 : Int32) (μ : Mem) : Option (Int32 × Mem) :=
  ob2 (X10_isMeter x1 μ) fun r1 μ1 => (if r1 = (0 : Int32) then X10_top_40 μ1 else (if x2 = (-1 : Int32) then X10_top_29 x1 x2 x3 μ1 else ob2 (X10_in x2 (0 : Int32) ((μ1 1 2) - (1 : Int32)) μ1) fun r26 μ26 => (if r26 = (0 : Int32) then X10_top_40 μ26 else X10_top_29 x1 x2 x3 μ26)))
set_option maxRecDepth 100000 in
set_option maxHeartbeats 4000000 in
theorem c_X10_top (l : Launch) (g : Gx) (x1 : Int32) (x2 : Int32) (x3 : Int32) (μ : Mem) {r : Int32} {ν : Mem} (h : X10_top x1 x2 x3 μ = some (r, ν)) : Ct Lm g l yX10_top cX10_top 6 (some .int) { frames := 69, cells := 0, slots := 0, locals := 1567 } [.ref (g.2.2.1 + 0), .int x1, .int x2, .int x3] μ (some (.int r)) ν := by
  refine x_met (lv := [(0, .ref (g.2.2.1 + 0)), (1, .int x1), (2, .int x2), (3, .int x3)]) rfl (Nat.le_of_ble_eq_true rfl) rfl ?_
  intro p e s m below meth c C0 hP ls hl
  generalize ([.ref (g.2.2.1 + 0), .int x1, .int x2, .int x3] : List Value).toArray = args at C0 ⊢
  have C0 : Cx Lm g p s m args meth c cX10_top 6 (some .int) RX10 := C0
  have hS : va_S (Ax Lm g) s.heap s.heap [] := va_S.rf
  obtain ⟨hx, hb, hr, hml, hown, hts, hlocks, hK⟩ := id C0
  unfold X10_top at h
  skip
  refine lv_aload_n hx hb dX10_top_0 rfl (lv_at hl 0 rfl) ?_
  refine lv_iload_n hx hb dX10_top_1 rfl (lv_at hl 1 rfl) ?_
  obtain ⟨r1, μ1, h1, h⟩ := ob2_some h
  refine x_callV C0 (rest := []) (q := (RX10, TX10, 22)) (c_X10_isMeter l g x1 μ h1) q4_231 q4_228 q4_230 r2_8 q1_11 hd_X10_isMeter ⟨rfl, rfl⟩ ⟨Nat.le_of_ble_eq_true rfl, Nat.le_of_ble_eq_true rfl⟩ cm_0 (by decide) rfl hP hS hl.1 rfl rfl (Nat.le_of_ble_eq_true rfl) dX10_top_2 (fun H locs hP hS => ?_)
  refine W.eq (g2 := F0 m 5 ls [.int r1]) rfl ?_
  refine lv_if_eq (tgt := 40) hx hb dX10_top_5 (by decide) (fun c2 => ?_) (fun c2 => ?_)
  · rw [if_pos c2] at h
    exact w_X10_top_40 C0   μ1 _ _ _ hP hS (lv_sub hl [0] rfl) h
  · rw [if_neg c2] at h
    refine lv_iload_n hx hb dX10_top_8 rfl (lv_at hl 2 rfl) ?_
    refine lv_iconst (v := (-1 : Int32)) hx hb dX10_top_9 rfl ?_
    refine lv_icmp_eq (tgt := 29) hx hb dX10_top_10 (by decide) (fun c4 => ?_) (fun c4 => ?_)
    · rw [if_pos c4] at h
      exact w_X10_top_29 C0  x1 x2 x3 μ1 _ _ _ hP hS (lv_sub hl [0, 1, 2, 3] rfl) h
    · rw [if_neg c4] at h
      refine lv_iload_n hx hb dX10_top_13 rfl (lv_at hl 2 rfl) ?_
      refine lv_iconst (v := (0 : Int32)) hx hb dX10_top_14 rfl ?_
      refine lv_aload_n hx hb dX10_top_15 rfl (lv_at hl 0 rfl) ?_
      refine x_get C0 hP inu10 (k := 0) cm_0 (by decide) rfl 0 (by decide) q4_134 rfl (v := .ref (g.2.2.1 + 1)) rfl dX10_top_16 ?_
      refine lv_iconst (v := (2 : Int32)) hx hb dX10_top_19 rfl ?_
      refine x_iald C0 hP (k := 1) cm_1 (j := 2) (by decide) rfl dX10_top_20 ?_
      refine lv_iconst (v := (1 : Int32)) hx hb dX10_top_21 rfl ?_
      refine lv_isub hx hb dX10_top_22 ?_
      obtain ⟨r26, μ26, h1, h⟩ := ob2_some h
      refine x_callS C0 (rest := []) (c_X10_in l g x2 (0 : Int32) ((μ1 1 2) - (1 : Int32)) μ1 h1) q4_207 q4_205 q4_206 q1_11 hd_X10_in ⟨rfl, rfl⟩ ⟨Nat.le_of_ble_eq_true rfl, Nat.le_of_ble_eq_true rfl⟩ hP hS hl.1 rfl rfl (Nat.le_of_ble_eq_true rfl) dX10_top_23 (fun H locs hP hS => ?_)
      refine W.eq (g2 := F0 m 26 ls [.int r26]) rfl ?_
      refine lv_if_eq (tgt := 40) hx hb dX10_top_26 (by decide) (fun c27 => ?_) (fun c27 => ?_)
      · rw [if_pos c27] at h
        exact w_X10_top_40 C0   μ26 _ _ _ hP hS (lv_sub hl [0] rfl) h
      · rw [if_neg c27] at h
        exact w_X10_top_29 C0  x1 x2 x3 μ26 _ _ _ hP hS (lv_sub hl [0, 1, 2, 3] rfl) h
def X10_feed_39  : Nat → Int64 → Int32 → Int32 → Mem → Option (Int32 × Mem)
  | 0, _, _, _, _ => none
  | n + 1, w1, x3, x4, μ => (if x3 ≤ x4 then some ((μ 1 6), μ) else gd (inB ((1884 : Int32) + (μ 1 6)) 1944) (lt (st μ 1 ((1884 : Int32) + (μ 1 6)).toNatClampNeg ((w1 >>> (((8 : Int32) * x4).toInt64 &&& 63)) &&& (255 : Int64)).toInt32) fun μ6 => lt (st μ6 1 6 ((μ6 1 6) + (1 : Int32))) fun μ7 => (X10_feed_39 n) w1 x3 (x4 + (1 : Int32)) μ7))
set_option maxRecDepth 100000 in
set_option maxHeartbeats 4000000 in
theorem w_X10_feed_39 {g : Gx} {p : Program} {l : Launch} {e : Env} {s : State} {m : MethodId} {args : Array Value} {below : List Frame} {meth : Method} {c : Code} (C0 : Cx Lm g p s m args meth c cX10_feed 5 (some .int) RX10) {r : Int32} {ν : Mem}  (n : Nat) : ∀ (w1 : Int64) (x3 : Int32) (x4 : Int32) (μ : Mem) (H : Heap) (locs : List Loc) (ls : Array Slot), Px Lm g μ H → va_S (Ax Lm g) s.heap H locs → lv_has ls 5 [(0, .ref (g.2.2.1 + 0)), (1, .long w1), (3, .int x3), (4, .int x4)] → X10_feed_39  n w1 x3 x4 μ = some (r, ν) → W p l e { frames := 1, cells := 0, slots := 0, locals := 22 } s m args below meth c H locs 0 0 (MQ below (Qx Lm g (some (.int r)) ν) args s 0 0 (Ax Lm g)) (F0 m 39 ls []) := by
  obtain ⟨hx, hb, hr, hml, hown, hts, hlocks, hK⟩ := id C0
  induction n with
  | zero =>
    intro w1 x3 x4 μ H locs ls hP hS hl h
    have h : (none : Option (Int32 × Mem)) = some (r, ν) := h
    cases h
  | succ n ih =>
    intro w1 x3 x4 μ H locs ls hP hS hl h
    rw [X10_feed_39.eq_2] at h
    refine lv_iload hx hb dX10_feed_39 (lv_at hl 3 rfl) ?_
    refine lv_iload_n hx hb dX10_feed_41 rfl (lv_at hl 2 rfl) ?_
    refine lv_icmp_ge (tgt := 90) hx hb dX10_feed_42 (by decide) (fun c4 => ?_) (fun c4 => ?_)
    · rw [if_pos c4] at h
      refine lv_aload_n hx hb dX10_feed_90 rfl (lv_at hl 0 rfl) ?_
      refine x_get C0 hP inu10 (k := 0) cm_0 (by decide) rfl 0 (by decide) q4_134 rfl (v := .ref (g.2.2.1 + 1)) rfl dX10_feed_91 ?_
      refine lv_bipush (v := (6 : Int32)) hx hb dX10_feed_94 (by decide +kernel) ?_
      refine x_iald C0 hP (k := 1) cm_1 (j := 6) (by decide) rfl dX10_feed_96 ?_
      obtain ⟨rfl, rfl⟩ := some2 h
      exact x_iret C0 hP hS dX10_feed_97
    · rw [if_neg c4] at h
      refine lv_aload_n hx hb dX10_feed_45 rfl (lv_at hl 0 rfl) ?_
      refine x_get C0 hP inu10 (k := 0) cm_0 (by decide) rfl 0 (by decide) q4_134 rfl (v := .ref (g.2.2.1 + 1)) rfl dX10_feed_46 ?_
      refine lv_sipush (v := (1884 : Int32)) hx hb dX10_feed_49 (by decide +kernel) ?_
      refine lv_aload_n hx hb dX10_feed_52 rfl (lv_at hl 0 rfl) ?_
      refine x_get C0 hP inu10 (k := 0) cm_0 (by decide) rfl 0 (by decide) q4_134 rfl (v := .ref (g.2.2.1 + 1)) rfl dX10_feed_53 ?_
      refine lv_bipush (v := (6 : Int32)) hx hb dX10_feed_56 (by decide +kernel) ?_
      refine x_iald C0 hP (k := 1) cm_1 (j := 6) (by decide) rfl dX10_feed_58 ?_
      refine lv_iadd hx hb dX10_feed_59 ?_
      refine lv_lload_n hx hb dX10_feed_60 rfl (lv_at hl 1 rfl) ?_
      refine lv_bipush (v := (8 : Int32)) hx hb dX10_feed_61 (by decide +kernel) ?_
      refine lv_iload hx hb dX10_feed_63 (lv_at hl 3 rfl) ?_
      refine lv_imul hx hb dX10_feed_65 ?_
      refine lv_lshr (v := (w1 >>> (((8 : Int32) * x4).toInt64 &&& 63))) hx hb dX10_feed_66 rfl ?_
      refine lv_ldc2 (v := (255 : Int64)) hx hb hown (hts _ q5_116) dX10_feed_67 ?_
      refine lv_land hx hb dX10_feed_70 ?_
      refine lv_l2i (v := ((w1 >>> (((8 : Int32) * x4).toInt64 &&& 63)) &&& (255 : Int64)).toInt32) hx hb dX10_feed_71 rfl ?_
      obtain ⟨z5, h⟩ := gd_some h
      obtain ⟨μ6, e6, h⟩ := lt_some h
      refine x_iast C0 hP hS (k := 1) cm_1 (j := ((1884 : Int32) + (μ 1 6)).toNatClampNeg) z5 rfl dX10_feed_72 (fun H locs hP hS => ?_)
      rw [← e6] at hP
      refine lv_aload_n hx hb dX10_feed_73 rfl (lv_at hl 0 rfl) ?_
      refine x_get C0 hP inu10 (k := 0) cm_0 (by decide) rfl 0 (by decide) q4_134 rfl (v := .ref (g.2.2.1 + 1)) rfl dX10_feed_74 ?_
      refine lv_bipush (v := (6 : Int32)) hx hb dX10_feed_77 (by decide +kernel) ?_
      refine lv_dup2_11 hx hb dX10_feed_79 rfl rfl ?_
      refine x_iald C0 hP (k := 1) cm_1 (j := 6) (by decide) rfl dX10_feed_80 ?_
      refine lv_iconst (v := (1 : Int32)) hx hb dX10_feed_81 rfl ?_
      refine lv_iadd hx hb dX10_feed_82 ?_
      obtain ⟨μ7, e7, h⟩ := lt_some h
      refine x_iast C0 hP hS (k := 1) cm_1 (j := 6) (by decide) rfl dX10_feed_83 (fun H locs hP hS => ?_)
      rw [← e7] at hP
      refine lv_iinc (v := (x4 + (1 : Int32))) (lv' := [(4, .int (x4 + (1 : Int32))), (0, .ref (g.2.2.1 + 0)), (1, .long w1), (3, .int x3)]) hx hb dX10_feed_84 hl (k := 3) rfl rfl (by decide) rfl (fun ls hl => ?_)
      refine lv_goto (tgt := 39) hx hb dX10_feed_87 (by decide) ?_
      exact ih w1 x3 (x4 + (1 : Int32)) μ7 _ _ _ hP hS (lv_sub hl [1, 2, 3, 0] rfl) h
def X10_feed (w1 : Int64) (x3 : Int32) (μ : Mem) : Option (Int32 × Mem) :=
  ob2 (X10_in x3 (1 : Int32) (8 : Int32) μ) fun r1 μ1 => (if r1 = (0 : Int32) then ob2 (X10_finding (1 : Int32) μ1) fun r9 μ9 => some (r9, μ9) else (if ((μ1 1 6) + x3) ≤ (60 : Int32) then X10_feed_39 FU w1 x3 (0 : Int32) μ1 else ob2 (X10_finding (4 : Int32) μ1) fun r8 μ8 => some (r8, μ8)))
set_option maxRecDepth 100000 in
set_option maxHeartbeats 4000000 in
theorem c_X10_feed (l : Launch) (g : Gx) (w1 : Int64) (x3 : Int32) (μ : Mem) {r : Int32} {ν : Mem} (h : X10_feed w1 x3 μ = some (r, ν)) : Ct Lm g l yX10_feed cX10_feed 5 (some .int) { frames := 1, cells := 0, slots := 0, locals := 22 } [.ref (g.2.2.1 + 0), .long w1, .int x3] μ (some (.int r)) ν := by
  refine x_met (lv := [(0, .ref (g.2.2.1 + 0)), (1, .long w1), (3, .int x3)]) rfl (Nat.le_of_ble_eq_true rfl) rfl ?_
  intro p e s m below meth c C0 hP ls hl
  generalize ([.ref (g.2.2.1 + 0), .long w1, .int x3] : List Value).toArray = args at C0 ⊢
  have C0 : Cx Lm g p s m args meth c cX10_feed 5 (some .int) RX10 := C0
  have hS : va_S (Ax Lm g) s.heap s.heap [] := va_S.rf
  obtain ⟨hx, hb, hr, hml, hown, hts, hlocks, hK⟩ := id C0
  unfold X10_feed at h
  skip
  refine lv_iload_n hx hb dX10_feed_0 rfl (lv_at hl 2 rfl) ?_
  refine lv_iconst (v := (1 : Int32)) hx hb dX10_feed_1 rfl ?_
  refine lv_bipush (v := (8 : Int32)) hx hb dX10_feed_2 (by decide +kernel) ?_
  obtain ⟨r1, μ1, h1, h⟩ := ob2_some h
  refine x_callS C0 (rest := []) (c_X10_in l g x3 (1 : Int32) (8 : Int32) μ h1) q4_207 q4_205 q4_206 q1_11 hd_X10_in ⟨rfl, rfl⟩ ⟨Nat.le_of_ble_eq_true rfl, Nat.le_of_ble_eq_true rfl⟩ hP hS hl.1 rfl rfl (Nat.le_of_ble_eq_true rfl) dX10_feed_4 (fun H locs hP hS => ?_)
  refine W.eq (g2 := F0 m 7 ls [.int r1]) rfl ?_
  refine lv_if_ne (tgt := 16) hx hb dX10_feed_7 (by decide) (fun c2 => ?_) (fun c2 => ?_)
  · rw [if_neg c2] at h
    refine lv_aload_n hx hb dX10_feed_16 rfl (lv_at hl 0 rfl) ?_
    refine x_get C0 hP inu10 (k := 0) cm_0 (by decide) rfl 0 (by decide) q4_134 rfl (v := .ref (g.2.2.1 + 1)) rfl dX10_feed_17 ?_
    refine lv_bipush (v := (6 : Int32)) hx hb dX10_feed_20 (by decide +kernel) ?_
    refine x_iald C0 hP (k := 1) cm_1 (j := 6) (by decide) rfl dX10_feed_22 ?_
    refine lv_iload_n hx hb dX10_feed_23 rfl (lv_at hl 2 rfl) ?_
    refine lv_iadd hx hb dX10_feed_24 ?_
    refine lv_bipush (v := (60 : Int32)) hx hb dX10_feed_25 (by decide +kernel) ?_
    refine lv_icmp_le (tgt := 36) hx hb dX10_feed_27 (by decide) (fun c3 => ?_) (fun c3 => ?_)
    · rw [if_pos c3] at h
      refine lv_iconst (v := (0 : Int32)) hx hb dX10_feed_36 rfl ?_
      refine lv_istore (lv' := [(4, .int (0 : Int32)), (0, .ref (g.2.2.1 + 0)), (1, .long w1), (3, .int x3)]) hx hb dX10_feed_37 hl (by decide) rfl (fun ls hl => ?_)
      exact w_X10_feed_39 C0  FU w1 x3 (0 : Int32) μ1 _ _ _ hP hS (lv_sub hl [1, 2, 3, 0] rfl) h
    · rw [if_neg c3] at h
      refine lv_aload_n hx hb dX10_feed_30 rfl (lv_at hl 0 rfl) ?_
      refine lv_iconst (v := (4 : Int32)) hx hb dX10_feed_31 rfl ?_
      obtain ⟨r8, μ8, h1, h⟩ := ob2_some h
      refine x_callV C0 (rest := []) (q := (RX10, TX10, 22)) (c_X10_finding l g (4 : Int32) μ1 h1) q4_214 q4_211 q4_213 r2_5 q1_11 hd_X10_finding ⟨rfl, rfl⟩ ⟨Nat.le_of_ble_eq_true rfl, Nat.le_of_ble_eq_true rfl⟩ cm_0 (by decide) rfl hP hS hl.1 rfl rfl (Nat.le_of_ble_eq_true rfl) dX10_feed_32 (fun H locs hP hS => ?_)
      refine W.eq (g2 := F0 m 35 ls [.int r8]) rfl ?_
      obtain ⟨rfl, rfl⟩ := some2 h
      exact x_iret C0 hP hS dX10_feed_35
  · rw [if_pos c2] at h
    refine lv_aload_n hx hb dX10_feed_10 rfl (lv_at hl 0 rfl) ?_
    refine lv_iconst (v := (1 : Int32)) hx hb dX10_feed_11 rfl ?_
    obtain ⟨r9, μ9, h1, h⟩ := ob2_some h
    refine x_callV C0 (rest := []) (q := (RX10, TX10, 22)) (c_X10_finding l g (1 : Int32) μ1 h1) q4_214 q4_211 q4_213 r2_5 q1_11 hd_X10_finding ⟨rfl, rfl⟩ ⟨Nat.le_of_ble_eq_true rfl, Nat.le_of_ble_eq_true rfl⟩ cm_0 (by decide) rfl hP hS hl.1 rfl rfl (Nat.le_of_ble_eq_true rfl) dX10_feed_12 (fun H locs hP hS => ?_)
    refine W.eq (g2 := F0 m 15 ls [.int r9]) rfl ?_
    obtain ⟨rfl, rfl⟩ := some2 h
    exact x_iret C0 hP hS dX10_feed_15
def X10_isUse (x0 : Int32) (μ : Mem) : Option (Int32 × Mem) :=
  ob2 (X10_in x0 (0 : Int32) (3 : Int32) μ) fun r1 μ1 => gd (r1 = 0 ∨ r1 = 1) (some (r1, μ1))
set_option maxRecDepth 100000 in
set_option maxHeartbeats 4000000 in
theorem c_X10_isUse (l : Launch) (g : Gx) (x0 : Int32) (μ : Mem) {r : Int32} {ν : Mem} (h : X10_isUse x0 μ = some (r, ν)) : Ct Lm g l yX10_isUse cX10_isUse 1 (some .boolean) { frames := 1, cells := 0, slots := 0, locals := 22 } [.int x0] μ (some (.int r)) ν := by
  refine x_met (lv := [(0, .int x0)]) rfl (Nat.le_of_ble_eq_true rfl) rfl ?_
  intro p e s m below meth c C0 hP ls hl
  generalize ([.int x0] : List Value).toArray = args at C0 ⊢
  have C0 : Cx Lm g p s m args meth c cX10_isUse 1 (some .boolean) RX10 := C0
  have hS : va_S (Ax Lm g) s.heap s.heap [] := va_S.rf
  obtain ⟨hx, hb, hr, hml, hown, hts, hlocks, hK⟩ := id C0
  unfold X10_isUse at h
  skip
  refine lv_iload_n hx hb dX10_isUse_0 rfl (lv_at hl 0 rfl) ?_
  refine lv_iconst (v := (0 : Int32)) hx hb dX10_isUse_1 rfl ?_
  refine lv_iconst (v := (3 : Int32)) hx hb dX10_isUse_2 rfl ?_
  obtain ⟨r1, μ1, h1, h⟩ := ob2_some h
  refine x_callS C0 (rest := []) (c_X10_in l g x0 (0 : Int32) (3 : Int32) μ h1) q4_207 q4_205 q4_206 q1_11 hd_X10_in ⟨rfl, rfl⟩ ⟨Nat.le_of_ble_eq_true rfl, Nat.le_of_ble_eq_true rfl⟩ hP hS hl.1 rfl rfl (Nat.le_of_ble_eq_true rfl) dX10_isUse_3 (fun H locs hP hS => ?_)
  refine W.eq (g2 := F0 m 6 ls [.int r1]) rfl ?_
  obtain ⟨z2, h⟩ := gd_some h
  obtain ⟨rfl, rfl⟩ := some2 h
  exact x_zret C0 hP hS z2 dX10_isUse_6
def X10_law_18   (μ : Mem) : Option (Int32 × Mem) :=
  ob2 (X10_finding (1 : Int32) μ) fun r3 μ3 => some (r3, μ3)
set_option maxRecDepth 100000 in
set_option maxHeartbeats 4000000 in
theorem w_X10_law_18 {g : Gx} {p : Program} {l : Launch} {e : Env} {s : State} {m : MethodId} {args : Array Value} {below : List Frame} {meth : Method} {c : Code} (C0 : Cx Lm g p s m args meth c cX10_law 7 (some .int) RX10) {r : Int32} {ν : Mem}   (μ : Mem) (H : Heap) (locs : List Loc) (ls : Array Slot) (hP : Px Lm g μ H) (hS : va_S (Ax Lm g) s.heap H locs) (hl : lv_has ls 7 [(0, .ref (g.2.2.1 + 0))]) (h : X10_law_18   μ = some (r, ν)) : W p l e { frames := 67, cells := 0, slots := 0, locals := 1519 } s m args below meth c H locs 0 0 (MQ below (Qx Lm g (some (.int r)) ν) args s 0 0 (Ax Lm g)) (F0 m 18 ls []) := by
  obtain ⟨hx, hb, hr, hml, hown, hts, hlocks, hK⟩ := id C0
  unfold X10_law_18 at h
  refine lv_aload_n hx hb dX10_law_18 rfl (lv_at hl 0 rfl) ?_
  refine lv_iconst (v := (1 : Int32)) hx hb dX10_law_19 rfl ?_
  obtain ⟨r3, μ3, h1, h⟩ := ob2_some h
  refine x_callV C0 (rest := []) (q := (RX10, TX10, 22)) (c_X10_finding l g (1 : Int32) μ h1) q4_214 q4_211 q4_213 r2_5 q1_11 hd_X10_finding ⟨rfl, rfl⟩ ⟨Nat.le_of_ble_eq_true rfl, Nat.le_of_ble_eq_true rfl⟩ cm_0 (by decide) rfl hP hS hl.1 rfl rfl (Nat.le_of_ble_eq_true rfl) dX10_law_20 (fun H locs hP hS => ?_)
  refine W.eq (g2 := F0 m 23 ls [.int r3]) rfl ?_
  obtain ⟨rfl, rfl⟩ := some2 h
  exact x_iret C0 hP hS dX10_law_23
def X10_law_129  : Nat → Int32 → Int32 → Int32 → Mem → Option (Int32 × Mem)
  | 0, _, _, _, _ => none
  | n + 1, x3, x5, x6, μ => (if x3 ≤ x6 then lt (st μ 1 3 ((μ 1 3) + (1 : Int32))) fun μ17 => some (x5, μ17) else gd (inB ((1884 : Int32) + x6) 1944) (gd (inB (((404 : Int32) + ((60 : Int32) * x5)) + x6) 1944) (lt (st μ 1 (((404 : Int32) + ((60 : Int32) * x5)) + x6).toNatClampNeg (μ 1 ((1884 : Int32) + x6).toNatClampNeg)) fun μ20 => (X10_law_129 n) x3 x5 (x6 + (1 : Int32)) μ20)))
set_option maxRecDepth 100000 in
set_option maxHeartbeats 4000000 in
theorem w_X10_law_129 {g : Gx} {p : Program} {l : Launch} {e : Env} {s : State} {m : MethodId} {args : Array Value} {below : List Frame} {meth : Method} {c : Code} (C0 : Cx Lm g p s m args meth c cX10_law 7 (some .int) RX10) {r : Int32} {ν : Mem}  (n : Nat) : ∀ (x3 : Int32) (x5 : Int32) (x6 : Int32) (μ : Mem) (H : Heap) (locs : List Loc) (ls : Array Slot), Px Lm g μ H → va_S (Ax Lm g) s.heap H locs → lv_has ls 7 [(0, .ref (g.2.2.1 + 0)), (3, .int x3), (5, .int x5), (6, .int x6)] → X10_law_129  n x3 x5 x6 μ = some (r, ν) → W p l e { frames := 67, cells := 0, slots := 0, locals := 1519 } s m args below meth c H locs 0 0 (MQ below (Qx Lm g (some (.int r)) ν) args s 0 0 (Ax Lm g)) (F0 m 129 ls []) := by
  obtain ⟨hx, hb, hr, hml, hown, hts, hlocks, hK⟩ := id C0
  induction n with
  | zero =>
    intro x3 x5 x6 μ H locs ls hP hS hl h
    have h : (none : Option (Int32 × Mem)) = some (r, ν) := h
    cases h
  | succ n ih =>
    intro x3 x5 x6 μ H locs ls hP hS hl h
    rw [X10_law_129.eq_2] at h
    refine lv_iload hx hb dX10_law_129 (lv_at hl 3 rfl) ?_
    refine lv_iload_n hx hb dX10_law_131 rfl (lv_at hl 1 rfl) ?_
    refine lv_icmp_ge (tgt := 169) hx hb dX10_law_132 (by decide) (fun c16 => ?_) (fun c16 => ?_)
    · rw [if_pos c16] at h
      refine lv_aload_n hx hb dX10_law_169 rfl (lv_at hl 0 rfl) ?_
      refine x_get C0 hP inu10 (k := 0) cm_0 (by decide) rfl 0 (by decide) q4_134 rfl (v := .ref (g.2.2.1 + 1)) rfl dX10_law_170 ?_
      refine lv_iconst (v := (3 : Int32)) hx hb dX10_law_173 rfl ?_
      refine lv_dup2_11 hx hb dX10_law_174 rfl rfl ?_
      refine x_iald C0 hP (k := 1) cm_1 (j := 3) (by decide) rfl dX10_law_175 ?_
      refine lv_iconst (v := (1 : Int32)) hx hb dX10_law_176 rfl ?_
      refine lv_iadd hx hb dX10_law_177 ?_
      obtain ⟨μ17, e17, h⟩ := lt_some h
      refine x_iast C0 hP hS (k := 1) cm_1 (j := 3) (by decide) rfl dX10_law_178 (fun H locs hP hS => ?_)
      rw [← e17] at hP
      refine lv_iload hx hb dX10_law_179 (lv_at hl 2 rfl) ?_
      obtain ⟨rfl, rfl⟩ := some2 h
      exact x_iret C0 hP hS dX10_law_181
    · rw [if_neg c16] at h
      refine lv_aload_n hx hb dX10_law_135 rfl (lv_at hl 0 rfl) ?_
      refine x_get C0 hP inu10 (k := 0) cm_0 (by decide) rfl 0 (by decide) q4_134 rfl (v := .ref (g.2.2.1 + 1)) rfl dX10_law_136 ?_
      refine lv_sipush (v := (404 : Int32)) hx hb dX10_law_139 (by decide +kernel) ?_
      refine lv_bipush (v := (60 : Int32)) hx hb dX10_law_142 (by decide +kernel) ?_
      refine lv_iload hx hb dX10_law_144 (lv_at hl 2 rfl) ?_
      refine lv_imul hx hb dX10_law_146 ?_
      refine lv_iadd hx hb dX10_law_147 ?_
      refine lv_iload hx hb dX10_law_148 (lv_at hl 3 rfl) ?_
      refine lv_iadd hx hb dX10_law_150 ?_
      refine lv_aload_n hx hb dX10_law_151 rfl (lv_at hl 0 rfl) ?_
      refine x_get C0 hP inu10 (k := 0) cm_0 (by decide) rfl 0 (by decide) q4_134 rfl (v := .ref (g.2.2.1 + 1)) rfl dX10_law_152 ?_
      refine lv_sipush (v := (1884 : Int32)) hx hb dX10_law_155 (by decide +kernel) ?_
      refine lv_iload hx hb dX10_law_158 (lv_at hl 3 rfl) ?_
      refine lv_iadd hx hb dX10_law_160 ?_
      obtain ⟨z18, h⟩ := gd_some h
      refine x_iald C0 hP (k := 1) cm_1 (j := ((1884 : Int32) + x6).toNatClampNeg) z18 rfl dX10_law_161 ?_
      obtain ⟨z19, h⟩ := gd_some h
      obtain ⟨μ20, e20, h⟩ := lt_some h
      refine x_iast C0 hP hS (k := 1) cm_1 (j := (((404 : Int32) + ((60 : Int32) * x5)) + x6).toNatClampNeg) z19 rfl dX10_law_162 (fun H locs hP hS => ?_)
      rw [← e20] at hP
      refine lv_iinc (v := (x6 + (1 : Int32))) (lv' := [(6, .int (x6 + (1 : Int32))), (0, .ref (g.2.2.1 + 0)), (3, .int x3), (5, .int x5)]) hx hb dX10_law_163 hl (k := 3) rfl rfl (by decide) rfl (fun ls hl => ?_)
      refine lv_goto (tgt := 129) hx hb dX10_law_166 (by decide) ?_
      exact ih x3 x5 (x6 + (1 : Int32)) μ20 _ _ _ hP hS (lv_sub hl [1, 2, 3, 0] rfl) h
def X10_law (x1 : Int32) (x2 : Int32) (μ : Mem) : Option (Int32 × Mem) :=
  ob2 (X10_isUse x1 μ) fun r1 μ1 => (if r1 = (0 : Int32) then X10_law_18 μ1 else ob2 (X10_in x2 (0 : Int32) (9000 : Int32) μ1) fun r4 μ4 => (if r4 = (0 : Int32) then X10_law_18 μ4 else (if (μ4 1 3) = (12 : Int32) then ob2 (X10_finding (4 : Int32) μ4) fun r21 μ21 => some (r21, μ21) else lt (st μ4 1 6 (0 : Int32)) fun μ7 => ob2 (X10_reads (1884 : Int32) (μ4 1 6) μ7) fun r8 μ8 => (if (μ8 0 10) = (0 : Int32) then gd (inB ((368 : Int32) + (μ8 1 3)) 1944) (lt (st μ8 1 ((368 : Int32) + (μ8 1 3)).toNatClampNeg x1) fun μ11 => gd (inB ((380 : Int32) + (μ8 1 3)) 1944) (lt (st μ11 1 ((380 : Int32) + (μ8 1 3)).toNatClampNeg x2) fun μ13 => gd (inB ((392 : Int32) + (μ8 1 3)) 1944) (lt (st μ13 1 ((392 : Int32) + (μ8 1 3)).toNatClampNeg (μ4 1 6)) fun μ15 => X10_law_129 FU (μ4 1 6) (μ8 1 3) (0 : Int32) μ15))) else some (((-10 : Int32) - (μ8 0 8)), μ8)))))
set_option maxRecDepth 100000 in
set_option maxHeartbeats 4000000 in
theorem c_X10_law (l : Launch) (g : Gx) (x1 : Int32) (x2 : Int32) (μ : Mem) {r : Int32} {ν : Mem} (h : X10_law x1 x2 μ = some (r, ν)) : Ct Lm g l yX10_law cX10_law 7 (some .int) { frames := 67, cells := 0, slots := 0, locals := 1519 } [.ref (g.2.2.1 + 0), .int x1, .int x2] μ (some (.int r)) ν := by
  refine x_met (lv := [(0, .ref (g.2.2.1 + 0)), (1, .int x1), (2, .int x2)]) rfl (Nat.le_of_ble_eq_true rfl) rfl ?_
  intro p e s m below meth c C0 hP ls hl
  generalize ([.ref (g.2.2.1 + 0), .int x1, .int x2] : List Value).toArray = args at C0 ⊢
  have C0 : Cx Lm g p s m args meth c cX10_law 7 (some .int) RX10 := C0
  have hS : va_S (Ax Lm g) s.heap s.heap [] := va_S.rf
  obtain ⟨hx, hb, hr, hml, hown, hts, hlocks, hK⟩ := id C0
  unfold X10_law at h
  skip
  refine lv_iload_n hx hb dX10_law_0 rfl (lv_at hl 1 rfl) ?_
  obtain ⟨r1, μ1, h1, h⟩ := ob2_some h
  refine x_callS C0 (rest := []) (c_X10_isUse l g x1 μ h1) q5_123 q5_121 q5_122 q1_11 hd_X10_isUse ⟨rfl, rfl⟩ ⟨Nat.le_of_ble_eq_true rfl, Nat.le_of_ble_eq_true rfl⟩ hP hS hl.1 rfl rfl (Nat.le_of_ble_eq_true rfl) dX10_law_1 (fun H locs hP hS => ?_)
  refine W.eq (g2 := F0 m 4 ls [.int r1]) rfl ?_
  refine lv_if_eq (tgt := 18) hx hb dX10_law_4 (by decide) (fun c2 => ?_) (fun c2 => ?_)
  · rw [if_pos c2] at h
    exact w_X10_law_18 C0   μ1 _ _ _ hP hS (lv_sub hl [0] rfl) h
  · rw [if_neg c2] at h
    refine lv_iload_n hx hb dX10_law_7 rfl (lv_at hl 2 rfl) ?_
    refine lv_iconst (v := (0 : Int32)) hx hb dX10_law_8 rfl ?_
    refine lv_sipush (v := (9000 : Int32)) hx hb dX10_law_9 (by decide +kernel) ?_
    obtain ⟨r4, μ4, h1, h⟩ := ob2_some h
    refine x_callS C0 (rest := []) (c_X10_in l g x2 (0 : Int32) (9000 : Int32) μ1 h1) q4_207 q4_205 q4_206 q1_11 hd_X10_in ⟨rfl, rfl⟩ ⟨Nat.le_of_ble_eq_true rfl, Nat.le_of_ble_eq_true rfl⟩ hP hS hl.1 rfl rfl (Nat.le_of_ble_eq_true rfl) dX10_law_12 (fun H locs hP hS => ?_)
    refine W.eq (g2 := F0 m 15 ls [.int r4]) rfl ?_
    refine lv_if_ne (tgt := 24) hx hb dX10_law_15 (by decide) (fun c5 => ?_) (fun c5 => ?_)
    · rw [if_neg c5] at h
      refine lv_aload_n hx hb dX10_law_24 rfl (lv_at hl 0 rfl) ?_
      refine x_get C0 hP inu10 (k := 0) cm_0 (by decide) rfl 0 (by decide) q4_134 rfl (v := .ref (g.2.2.1 + 1)) rfl dX10_law_25 ?_
      refine lv_iconst (v := (3 : Int32)) hx hb dX10_law_28 rfl ?_
      refine x_iald C0 hP (k := 1) cm_1 (j := 3) (by decide) rfl dX10_law_29 ?_
      refine lv_bipush (v := (12 : Int32)) hx hb dX10_law_30 (by decide +kernel) ?_
      refine lv_icmp_ne (tgt := 41) hx hb dX10_law_32 (by decide) (fun c6 => ?_) (fun c6 => ?_)
      · rw [if_neg c6] at h
        refine lv_aload_n hx hb dX10_law_41 rfl (lv_at hl 0 rfl) ?_
        refine x_get C0 hP inu10 (k := 0) cm_0 (by decide) rfl 0 (by decide) q4_134 rfl (v := .ref (g.2.2.1 + 1)) rfl dX10_law_42 ?_
        refine lv_bipush (v := (6 : Int32)) hx hb dX10_law_45 (by decide +kernel) ?_
        refine x_iald C0 hP (k := 1) cm_1 (j := 6) (by decide) rfl dX10_law_47 ?_
        refine lv_istore_n (lv' := [(3, .int (μ4 1 6)), (0, .ref (g.2.2.1 + 0)), (1, .int x1), (2, .int x2)]) hx hb dX10_law_48 rfl hl (by decide) rfl (fun ls hl => ?_)
        refine lv_aload_n hx hb dX10_law_49 rfl (lv_at hl 1 rfl) ?_
        refine x_get C0 hP inu10 (k := 0) cm_0 (by decide) rfl 0 (by decide) q4_134 rfl (v := .ref (g.2.2.1 + 1)) rfl dX10_law_50 ?_
        refine lv_bipush (v := (6 : Int32)) hx hb dX10_law_53 (by decide +kernel) ?_
        refine lv_iconst (v := (0 : Int32)) hx hb dX10_law_55 rfl ?_
        obtain ⟨μ7, e7, h⟩ := lt_some h
        refine x_iast C0 hP hS (k := 1) cm_1 (j := 6) (by decide) rfl dX10_law_56 (fun H locs hP hS => ?_)
        rw [← e7] at hP
        refine lv_aload_n hx hb dX10_law_57 rfl (lv_at hl 1 rfl) ?_
        refine lv_sipush (v := (1884 : Int32)) hx hb dX10_law_58 (by decide +kernel) ?_
        refine lv_iload_n hx hb dX10_law_61 rfl (lv_at hl 0 rfl) ?_
        obtain ⟨r8, μ8, h1, h⟩ := ob2_some h
        refine x_callV C0 (rest := []) (q := (RX10, TX10, 22)) (c_X10_reads l g (1884 : Int32) (μ4 1 6) μ7 h1) q5_44 q5_41 q5_43 r2_15 q1_11 hd_X10_reads ⟨rfl, rfl⟩ ⟨Nat.le_of_ble_eq_true rfl, Nat.le_of_ble_eq_true rfl⟩ cm_0 (by decide) rfl hP hS hl.1 rfl rfl (Nat.le_of_ble_eq_true rfl) dX10_law_62 (fun H locs hP hS => ?_)
        refine W.eq (g2 := F0 m 65 ls [.int r8]) rfl ?_
        refine lv_istore (lv' := [(4, .int r8), (3, .int (μ4 1 6)), (0, .ref (g.2.2.1 + 0)), (1, .int x1), (2, .int x2)]) hx hb dX10_law_65 hl (by decide) rfl (fun ls hl => ?_)
        refine lv_aload_n hx hb dX10_law_67 rfl (lv_at hl 2 rfl) ?_
        refine x_get C0 hP inu10 (k := 0) cm_0 (by decide) rfl 10 (by decide) q4_144 rfl (v := .int (μ8 0 10)) rfl dX10_law_68 ?_
        refine lv_if_eq (tgt := 82) hx hb dX10_law_71 (by decide) (fun c9 => ?_) (fun c9 => ?_)
        · rw [if_pos c9] at h
          refine lv_aload_n hx hb dX10_law_82 rfl (lv_at hl 2 rfl) ?_
          refine x_get C0 hP inu10 (k := 0) cm_0 (by decide) rfl 0 (by decide) q4_134 rfl (v := .ref (g.2.2.1 + 1)) rfl dX10_law_83 ?_
          refine lv_iconst (v := (3 : Int32)) hx hb dX10_law_86 rfl ?_
          refine x_iald C0 hP (k := 1) cm_1 (j := 3) (by decide) rfl dX10_law_87 ?_
          refine lv_istore (lv' := [(5, .int (μ8 1 3)), (4, .int r8), (3, .int (μ4 1 6)), (0, .ref (g.2.2.1 + 0)), (1, .int x1), (2, .int x2)]) hx hb dX10_law_88 hl (by decide) rfl (fun ls hl => ?_)
          refine lv_aload_n hx hb dX10_law_90 rfl (lv_at hl 3 rfl) ?_
          refine x_get C0 hP inu10 (k := 0) cm_0 (by decide) rfl 0 (by decide) q4_134 rfl (v := .ref (g.2.2.1 + 1)) rfl dX10_law_91 ?_
          refine lv_sipush (v := (368 : Int32)) hx hb dX10_law_94 (by decide +kernel) ?_
          refine lv_iload hx hb dX10_law_97 (lv_at hl 0 rfl) ?_
          refine lv_iadd hx hb dX10_law_99 ?_
          refine lv_iload_n hx hb dX10_law_100 rfl (lv_at hl 4 rfl) ?_
          obtain ⟨z10, h⟩ := gd_some h
          obtain ⟨μ11, e11, h⟩ := lt_some h
          refine x_iast C0 hP hS (k := 1) cm_1 (j := ((368 : Int32) + (μ8 1 3)).toNatClampNeg) z10 rfl dX10_law_101 (fun H locs hP hS => ?_)
          rw [← e11] at hP
          refine lv_aload_n hx hb dX10_law_102 rfl (lv_at hl 3 rfl) ?_
          refine x_get C0 hP inu10 (k := 0) cm_0 (by decide) rfl 0 (by decide) q4_134 rfl (v := .ref (g.2.2.1 + 1)) rfl dX10_law_103 ?_
          refine lv_sipush (v := (380 : Int32)) hx hb dX10_law_106 (by decide +kernel) ?_
          refine lv_iload hx hb dX10_law_109 (lv_at hl 0 rfl) ?_
          refine lv_iadd hx hb dX10_law_111 ?_
          refine lv_iload_n hx hb dX10_law_112 rfl (lv_at hl 5 rfl) ?_
          obtain ⟨z12, h⟩ := gd_some h
          obtain ⟨μ13, e13, h⟩ := lt_some h
          refine x_iast C0 hP hS (k := 1) cm_1 (j := ((380 : Int32) + (μ8 1 3)).toNatClampNeg) z12 rfl dX10_law_113 (fun H locs hP hS => ?_)
          rw [← e13] at hP
          refine lv_aload_n hx hb dX10_law_114 rfl (lv_at hl 3 rfl) ?_
          refine x_get C0 hP inu10 (k := 0) cm_0 (by decide) rfl 0 (by decide) q4_134 rfl (v := .ref (g.2.2.1 + 1)) rfl dX10_law_115 ?_
          refine lv_sipush (v := (392 : Int32)) hx hb dX10_law_118 (by decide +kernel) ?_
          refine lv_iload hx hb dX10_law_121 (lv_at hl 0 rfl) ?_
          refine lv_iadd hx hb dX10_law_123 ?_
          refine lv_iload_n hx hb dX10_law_124 rfl (lv_at hl 2 rfl) ?_
          obtain ⟨z14, h⟩ := gd_some h
          obtain ⟨μ15, e15, h⟩ := lt_some h
          refine x_iast C0 hP hS (k := 1) cm_1 (j := ((392 : Int32) + (μ8 1 3)).toNatClampNeg) z14 rfl dX10_law_125 (fun H locs hP hS => ?_)
          rw [← e15] at hP
          refine lv_iconst (v := (0 : Int32)) hx hb dX10_law_126 rfl ?_
          refine lv_istore (lv' := [(6, .int (0 : Int32)), (5, .int (μ8 1 3)), (4, .int r8), (3, .int (μ4 1 6)), (0, .ref (g.2.2.1 + 0)), (1, .int x1), (2, .int x2)]) hx hb dX10_law_127 hl (by decide) rfl (fun ls hl => ?_)
          exact w_X10_law_129 C0  FU (μ4 1 6) (μ8 1 3) (0 : Int32) μ15 _ _ _ hP hS (lv_sub hl [4, 3, 1, 0] rfl) h
        · rw [if_neg c9] at h
          refine lv_bipush (v := (-10 : Int32)) hx hb dX10_law_74 (by decide +kernel) ?_
          refine lv_aload_n hx hb dX10_law_76 rfl (lv_at hl 2 rfl) ?_
          refine x_get C0 hP inu10 (k := 0) cm_0 (by decide) rfl 8 (by decide) q4_142 rfl (v := .int (μ8 0 8)) rfl dX10_law_77 ?_
          refine lv_isub hx hb dX10_law_80 ?_
          obtain ⟨rfl, rfl⟩ := some2 h
          exact x_iret C0 hP hS dX10_law_81
      · rw [if_pos c6] at h
        refine lv_aload_n hx hb dX10_law_35 rfl (lv_at hl 0 rfl) ?_
        refine lv_iconst (v := (4 : Int32)) hx hb dX10_law_36 rfl ?_
        obtain ⟨r21, μ21, h1, h⟩ := ob2_some h
        refine x_callV C0 (rest := []) (q := (RX10, TX10, 22)) (c_X10_finding l g (4 : Int32) μ4 h1) q4_214 q4_211 q4_213 r2_5 q1_11 hd_X10_finding ⟨rfl, rfl⟩ ⟨Nat.le_of_ble_eq_true rfl, Nat.le_of_ble_eq_true rfl⟩ cm_0 (by decide) rfl hP hS hl.1 rfl rfl (Nat.le_of_ble_eq_true rfl) dX10_law_37 (fun H locs hP hS => ?_)
        refine W.eq (g2 := F0 m 40 ls [.int r21]) rfl ?_
        obtain ⟨rfl, rfl⟩ := some2 h
        exact x_iret C0 hP hS dX10_law_40
    · rw [if_pos c5] at h
      exact w_X10_law_18 C0   μ4 _ _ _ hP hS (lv_sub hl [0] rfl) h
def X10_inForce_18   (μ : Mem) : Option (Int32 × Mem) :=
  ob2 (X10_finding (1 : Int32) μ) fun r3 μ3 => some (r3, μ3)
set_option maxRecDepth 100000 in
set_option maxHeartbeats 4000000 in
theorem w_X10_inForce_18 {g : Gx} {p : Program} {l : Launch} {e : Env} {s : State} {m : MethodId} {args : Array Value} {below : List Frame} {meth : Method} {c : Code} (C0 : Cx Lm g p s m args meth c cX10_inForce 4 (some .int) RX10) {r : Int32} {ν : Mem}   (μ : Mem) (H : Heap) (locs : List Loc) (ls : Array Slot) (hP : Px Lm g μ H) (hS : va_S (Ax Lm g) s.heap H locs) (hl : lv_has ls 4 [(0, .ref (g.2.2.1 + 0))]) (h : X10_inForce_18   μ = some (r, ν)) : W p l e { frames := 2, cells := 0, slots := 0, locals := 42 } s m args below meth c H locs 0 0 (MQ below (Qx Lm g (some (.int r)) ν) args s 0 0 (Ax Lm g)) (F0 m 18 ls []) := by
  obtain ⟨hx, hb, hr, hml, hown, hts, hlocks, hK⟩ := id C0
  unfold X10_inForce_18 at h
  refine lv_aload_n hx hb dX10_inForce_18 rfl (lv_at hl 0 rfl) ?_
  refine lv_iconst (v := (1 : Int32)) hx hb dX10_inForce_19 rfl ?_
  obtain ⟨r3, μ3, h1, h⟩ := ob2_some h
  refine x_callV C0 (rest := []) (q := (RX10, TX10, 22)) (c_X10_finding l g (1 : Int32) μ h1) q4_214 q4_211 q4_213 r2_5 q1_11 hd_X10_finding ⟨rfl, rfl⟩ ⟨Nat.le_of_ble_eq_true rfl, Nat.le_of_ble_eq_true rfl⟩ cm_0 (by decide) rfl hP hS hl.1 rfl rfl (Nat.le_of_ble_eq_true rfl) dX10_inForce_20 (fun H locs hP hS => ?_)
  refine W.eq (g2 := F0 m 23 ls [.int r3]) rfl ?_
  obtain ⟨rfl, rfl⟩ := some2 h
  exact x_iret C0 hP hS dX10_inForce_23
def X10_inForce (x1 : Int32) (x2 : Int32) (μ : Mem) : Option (Int32 × Mem) :=
  ob2 (X10_isUse x1 μ) fun r1 μ1 => (if r1 = (0 : Int32) then X10_inForce_18 μ1 else ob2 (X10_in x2 (0 : Int32) (9000 : Int32) μ1) fun r4 μ4 => (if r4 = (0 : Int32) then X10_inForce_18 μ4 else ob2 (X10_forceIn x1 x2 μ4) fun r6 μ6 => (if (0 : Int32) ≤ r6 then some (r6, μ6) else ob2 (X10_finding (2 : Int32) μ6) fun r8 μ8 => some (r8, μ8))))
set_option maxRecDepth 100000 in
set_option maxHeartbeats 4000000 in
theorem c_X10_inForce (l : Launch) (g : Gx) (x1 : Int32) (x2 : Int32) (μ : Mem) {r : Int32} {ν : Mem} (h : X10_inForce x1 x2 μ = some (r, ν)) : Ct Lm g l yX10_inForce cX10_inForce 4 (some .int) { frames := 2, cells := 0, slots := 0, locals := 42 } [.ref (g.2.2.1 + 0), .int x1, .int x2] μ (some (.int r)) ν := by
  refine x_met (lv := [(0, .ref (g.2.2.1 + 0)), (1, .int x1), (2, .int x2)]) rfl (Nat.le_of_ble_eq_true rfl) rfl ?_
  intro p e s m below meth c C0 hP ls hl
  generalize ([.ref (g.2.2.1 + 0), .int x1, .int x2] : List Value).toArray = args at C0 ⊢
  have C0 : Cx Lm g p s m args meth c cX10_inForce 4 (some .int) RX10 := C0
  have hS : va_S (Ax Lm g) s.heap s.heap [] := va_S.rf
  obtain ⟨hx, hb, hr, hml, hown, hts, hlocks, hK⟩ := id C0
  unfold X10_inForce at h
  skip
  refine lv_iload_n hx hb dX10_inForce_0 rfl (lv_at hl 1 rfl) ?_
  obtain ⟨r1, μ1, h1, h⟩ := ob2_some h
  refine x_callS C0 (rest := []) (c_X10_isUse l g x1 μ h1) q5_123 q5_121 q5_122 q1_11 hd_X10_isUse ⟨rfl, rfl⟩ ⟨Nat.le_of_ble_eq_true rfl, Nat.le_of_ble_eq_true rfl⟩ hP hS hl.1 rfl rfl (Nat.le_of_ble_eq_true rfl) dX10_inForce_1 (fun H locs hP hS => ?_)
  refine W.eq (g2 := F0 m 4 ls [.int r1]) rfl ?_
  refine lv_if_eq (tgt := 18) hx hb dX10_inForce_4 (by decide) (fun c2 => ?_) (fun c2 => ?_)
  · rw [if_pos c2] at h
    exact w_X10_inForce_18 C0   μ1 _ _ _ hP hS (lv_sub hl [0] rfl) h
  · rw [if_neg c2] at h
    refine lv_iload_n hx hb dX10_inForce_7 rfl (lv_at hl 2 rfl) ?_
    refine lv_iconst (v := (0 : Int32)) hx hb dX10_inForce_8 rfl ?_
    refine lv_sipush (v := (9000 : Int32)) hx hb dX10_inForce_9 (by decide +kernel) ?_
    obtain ⟨r4, μ4, h1, h⟩ := ob2_some h
    refine x_callS C0 (rest := []) (c_X10_in l g x2 (0 : Int32) (9000 : Int32) μ1 h1) q4_207 q4_205 q4_206 q1_11 hd_X10_in ⟨rfl, rfl⟩ ⟨Nat.le_of_ble_eq_true rfl, Nat.le_of_ble_eq_true rfl⟩ hP hS hl.1 rfl rfl (Nat.le_of_ble_eq_true rfl) dX10_inForce_12 (fun H locs hP hS => ?_)
    refine W.eq (g2 := F0 m 15 ls [.int r4]) rfl ?_
    refine lv_if_ne (tgt := 24) hx hb dX10_inForce_15 (by decide) (fun c5 => ?_) (fun c5 => ?_)
    · rw [if_neg c5] at h
      refine lv_aload_n hx hb dX10_inForce_24 rfl (lv_at hl 0 rfl) ?_
      refine lv_iload_n hx hb dX10_inForce_25 rfl (lv_at hl 1 rfl) ?_
      refine lv_iload_n hx hb dX10_inForce_26 rfl (lv_at hl 2 rfl) ?_
      obtain ⟨r6, μ6, h1, h⟩ := ob2_some h
      refine x_callV C0 (rest := []) (q := (RX10, TX10, 22)) (c_X10_forceIn l g x1 x2 μ4 h1) q4_223 q4_220 q4_222 r2_7 q1_11 hd_X10_forceIn ⟨rfl, rfl⟩ ⟨Nat.le_of_ble_eq_true rfl, Nat.le_of_ble_eq_true rfl⟩ cm_0 (by decide) rfl hP hS hl.1 rfl rfl (Nat.le_of_ble_eq_true rfl) dX10_inForce_27 (fun H locs hP hS => ?_)
      refine W.eq (g2 := F0 m 30 ls [.int r6]) rfl ?_
      refine lv_istore_n (lv' := [(3, .int r6), (0, .ref (g.2.2.1 + 0)), (1, .int x1), (2, .int x2)]) hx hb dX10_inForce_30 rfl hl (by decide) rfl (fun ls hl => ?_)
      refine lv_iload_n hx hb dX10_inForce_31 rfl (lv_at hl 0 rfl) ?_
      refine lv_if_ge (tgt := 43) hx hb dX10_inForce_32 (by decide) (fun c7 => ?_) (fun c7 => ?_)
      · rw [if_pos c7] at h
        refine lv_iload_n hx hb dX10_inForce_43 rfl (lv_at hl 0 rfl) ?_
        obtain ⟨rfl, rfl⟩ := some2 h
        exact x_iret C0 hP hS dX10_inForce_44
      · rw [if_neg c7] at h
        refine lv_aload_n hx hb dX10_inForce_35 rfl (lv_at hl 1 rfl) ?_
        refine lv_iconst (v := (2 : Int32)) hx hb dX10_inForce_36 rfl ?_
        obtain ⟨r8, μ8, h1, h⟩ := ob2_some h
        refine x_callV C0 (rest := []) (q := (RX10, TX10, 22)) (c_X10_finding l g (2 : Int32) μ6 h1) q4_214 q4_211 q4_213 r2_5 q1_11 hd_X10_finding ⟨rfl, rfl⟩ ⟨Nat.le_of_ble_eq_true rfl, Nat.le_of_ble_eq_true rfl⟩ cm_0 (by decide) rfl hP hS hl.1 rfl rfl (Nat.le_of_ble_eq_true rfl) dX10_inForce_37 (fun H locs hP hS => ?_)
        refine W.eq (g2 := F0 m 40 ls [.int r8]) rfl ?_
        refine lv_goto (tgt := 44) hx hb dX10_inForce_40 (by decide) ?_
        obtain ⟨rfl, rfl⟩ := some2 h
        exact x_iret C0 hP hS dX10_inForce_44
    · rw [if_pos c5] at h
      exact w_X10_inForce_18 C0   μ4 _ _ _ hP hS (lv_sub hl [0] rfl) h
def X10_says_40   (μ : Mem) : Option (Int32 × Mem) :=
  ob2 (X10_finding (1 : Int32) μ) fun r3 μ3 => some (r3, μ3)
set_option maxRecDepth 100000 in
set_option maxHeartbeats 4000000 in
theorem w_X10_says_40 {g : Gx} {p : Program} {l : Launch} {e : Env} {s : State} {m : MethodId} {args : Array Value} {below : List Frame} {meth : Method} {c : Code} (C0 : Cx Lm g p s m args meth c cX10_says 4 (some .int) RX10) {r : Int32} {ν : Mem}   (μ : Mem) (H : Heap) (locs : List Loc) (ls : Array Slot) (hP : Px Lm g μ H) (hS : va_S (Ax Lm g) s.heap H locs) (hl : lv_has ls 4 [(0, .ref (g.2.2.1 + 0))]) (h : X10_says_40   μ = some (r, ν)) : W p l e { frames := 68, cells := 0, slots := 0, locals := 1543 } s m args below meth c H locs 0 0 (MQ below (Qx Lm g (some (.int r)) ν) args s 0 0 (Ax Lm g)) (F0 m 40 ls []) := by
  obtain ⟨hx, hb, hr, hml, hown, hts, hlocks, hK⟩ := id C0
  unfold X10_says_40 at h
  refine lv_aload_n hx hb dX10_says_40 rfl (lv_at hl 0 rfl) ?_
  refine lv_iconst (v := (1 : Int32)) hx hb dX10_says_41 rfl ?_
  obtain ⟨r3, μ3, h1, h⟩ := ob2_some h
  refine x_callV C0 (rest := []) (q := (RX10, TX10, 22)) (c_X10_finding l g (1 : Int32) μ h1) q4_214 q4_211 q4_213 r2_5 q1_11 hd_X10_finding ⟨rfl, rfl⟩ ⟨Nat.le_of_ble_eq_true rfl, Nat.le_of_ble_eq_true rfl⟩ cm_0 (by decide) rfl hP hS hl.1 rfl rfl (Nat.le_of_ble_eq_true rfl) dX10_says_42 (fun H locs hP hS => ?_)
  refine W.eq (g2 := F0 m 45 ls [.int r3]) rfl ?_
  obtain ⟨rfl, rfl⟩ := some2 h
  exact x_iret C0 hP hS dX10_says_45
def X10_says (x1 : Int32) (x2 : Int32) (x3 : Int32) (μ : Mem) : Option (Int32 × Mem) :=
  ob2 (X10_in x1 (0 : Int32) ((μ 1 3) - (1 : Int32)) μ) fun r1 μ1 => (if r1 = (0 : Int32) then X10_says_40 μ1 else ob2 (X10_isMeter x2 μ1) fun r4 μ4 => (if r4 = (0 : Int32) then X10_says_40 μ4 else ob2 (X10_saysOf x1 x2 (μ4 1 0) x3 μ4) fun r6 μ6 => some (r6, μ6)))
set_option maxRecDepth 100000 in
set_option maxHeartbeats 4000000 in
theorem c_X10_says (l : Launch) (g : Gx) (x1 : Int32) (x2 : Int32) (x3 : Int32) (μ : Mem) {r : Int32} {ν : Mem} (h : X10_says x1 x2 x3 μ = some (r, ν)) : Ct Lm g l yX10_says cX10_says 4 (some .int) { frames := 68, cells := 0, slots := 0, locals := 1543 } [.ref (g.2.2.1 + 0), .int x1, .int x2, .int x3] μ (some (.int r)) ν := by
  refine x_met (lv := [(0, .ref (g.2.2.1 + 0)), (1, .int x1), (2, .int x2), (3, .int x3)]) rfl (Nat.le_of_ble_eq_true rfl) rfl ?_
  intro p e s m below meth c C0 hP ls hl
  generalize ([.ref (g.2.2.1 + 0), .int x1, .int x2, .int x3] : List Value).toArray = args at C0 ⊢
  have C0 : Cx Lm g p s m args meth c cX10_says 4 (some .int) RX10 := C0
  have hS : va_S (Ax Lm g) s.heap s.heap [] := va_S.rf
  obtain ⟨hx, hb, hr, hml, hown, hts, hlocks, hK⟩ := id C0
  unfold X10_says at h
  skip
  refine lv_iload_n hx hb dX10_says_0 rfl (lv_at hl 1 rfl) ?_
  refine lv_iconst (v := (0 : Int32)) hx hb dX10_says_1 rfl ?_
  refine lv_aload_n hx hb dX10_says_2 rfl (lv_at hl 0 rfl) ?_
  refine x_get C0 hP inu10 (k := 0) cm_0 (by decide) rfl 0 (by decide) q4_134 rfl (v := .ref (g.2.2.1 + 1)) rfl dX10_says_3 ?_
  refine lv_iconst (v := (3 : Int32)) hx hb dX10_says_6 rfl ?_
  refine x_iald C0 hP (k := 1) cm_1 (j := 3) (by decide) rfl dX10_says_7 ?_
  refine lv_iconst (v := (1 : Int32)) hx hb dX10_says_8 rfl ?_
  refine lv_isub hx hb dX10_says_9 ?_
  obtain ⟨r1, μ1, h1, h⟩ := ob2_some h
  refine x_callS C0 (rest := []) (c_X10_in l g x1 (0 : Int32) ((μ 1 3) - (1 : Int32)) μ h1) q4_207 q4_205 q4_206 q1_11 hd_X10_in ⟨rfl, rfl⟩ ⟨Nat.le_of_ble_eq_true rfl, Nat.le_of_ble_eq_true rfl⟩ hP hS hl.1 rfl rfl (Nat.le_of_ble_eq_true rfl) dX10_says_10 (fun H locs hP hS => ?_)
  refine W.eq (g2 := F0 m 13 ls [.int r1]) rfl ?_
  refine lv_if_eq (tgt := 40) hx hb dX10_says_13 (by decide) (fun c2 => ?_) (fun c2 => ?_)
  · rw [if_pos c2] at h
    exact w_X10_says_40 C0   μ1 _ _ _ hP hS (lv_sub hl [0] rfl) h
  · rw [if_neg c2] at h
    refine lv_aload_n hx hb dX10_says_16 rfl (lv_at hl 0 rfl) ?_
    refine lv_iload_n hx hb dX10_says_17 rfl (lv_at hl 2 rfl) ?_
    obtain ⟨r4, μ4, h1, h⟩ := ob2_some h
    refine x_callV C0 (rest := []) (q := (RX10, TX10, 22)) (c_X10_isMeter l g x2 μ1 h1) q4_231 q4_228 q4_230 r2_8 q1_11 hd_X10_isMeter ⟨rfl, rfl⟩ ⟨Nat.le_of_ble_eq_true rfl, Nat.le_of_ble_eq_true rfl⟩ cm_0 (by decide) rfl hP hS hl.1 rfl rfl (Nat.le_of_ble_eq_true rfl) dX10_says_18 (fun H locs hP hS => ?_)
    refine W.eq (g2 := F0 m 21 ls [.int r4]) rfl ?_
    refine lv_if_eq (tgt := 40) hx hb dX10_says_21 (by decide) (fun c5 => ?_) (fun c5 => ?_)
    · rw [if_pos c5] at h
      exact w_X10_says_40 C0   μ4 _ _ _ hP hS (lv_sub hl [0] rfl) h
    · rw [if_neg c5] at h
      refine lv_aload_n hx hb dX10_says_24 rfl (lv_at hl 0 rfl) ?_
      refine lv_iload_n hx hb dX10_says_25 rfl (lv_at hl 1 rfl) ?_
      refine lv_iload_n hx hb dX10_says_26 rfl (lv_at hl 2 rfl) ?_
      refine lv_aload_n hx hb dX10_says_27 rfl (lv_at hl 0 rfl) ?_
      refine x_get C0 hP inu10 (k := 0) cm_0 (by decide) rfl 0 (by decide) q4_134 rfl (v := .ref (g.2.2.1 + 1)) rfl dX10_says_28 ?_
      refine lv_iconst (v := (0 : Int32)) hx hb dX10_says_31 rfl ?_
      refine x_iald C0 hP (k := 1) cm_1 (j := 0) (by decide) rfl dX10_says_32 ?_
      refine lv_iload_n hx hb dX10_says_33 rfl (lv_at hl 3 rfl) ?_
      obtain ⟨r6, μ6, h1, h⟩ := ob2_some h
      refine x_callV C0 (rest := []) (q := (RX10, TX10, 22)) (c_X10_saysOf l g x1 x2 (μ4 1 0) x3 μ4 h1) q5_40 q5_37 q5_39 r2_14 q1_11 hd_X10_saysOf ⟨rfl, rfl⟩ ⟨Nat.le_of_ble_eq_true rfl, Nat.le_of_ble_eq_true rfl⟩ cm_0 (by decide) rfl hP hS hl.1 rfl rfl (Nat.le_of_ble_eq_true rfl) dX10_says_34 (fun H locs hP hS => ?_)
      refine W.eq (g2 := F0 m 37 ls [.int r6]) rfl ?_
      refine lv_goto (tgt := 45) hx hb dX10_says_37 (by decide) ?_
      obtain ⟨rfl, rfl⟩ := some2 h
      exact x_iret C0 hP hS dX10_says_45
def X10_rate_17   (μ : Mem) : Option (Int32 × Mem) :=
  ob2 (X10_finding (1 : Int32) μ) fun r3 μ3 => some (r3, μ3)
set_option maxRecDepth 100000 in
set_option maxHeartbeats 4000000 in
theorem w_X10_rate_17 {g : Gx} {p : Program} {l : Launch} {e : Env} {s : State} {m : MethodId} {args : Array Value} {below : List Frame} {meth : Method} {c : Code} (C0 : Cx Lm g p s m args meth c cX10_rate 3 (some .int) RX10) {r : Int32} {ν : Mem}   (μ : Mem) (H : Heap) (locs : List Loc) (ls : Array Slot) (hP : Px Lm g μ H) (hS : va_S (Ax Lm g) s.heap H locs) (hl : lv_has ls 3 [(0, .ref (g.2.2.1 + 0))]) (h : X10_rate_17   μ = some (r, ν)) : W p l e { frames := 69, cells := 0, slots := 0, locals := 1565 } s m args below meth c H locs 0 0 (MQ below (Qx Lm g (some (.int r)) ν) args s 0 0 (Ax Lm g)) (F0 m 17 ls []) := by
  obtain ⟨hx, hb, hr, hml, hown, hts, hlocks, hK⟩ := id C0
  unfold X10_rate_17 at h
  refine lv_aload_n hx hb dX10_rate_17 rfl (lv_at hl 0 rfl) ?_
  refine lv_iconst (v := (1 : Int32)) hx hb dX10_rate_18 rfl ?_
  obtain ⟨r3, μ3, h1, h⟩ := ob2_some h
  refine x_callV C0 (rest := []) (q := (RX10, TX10, 22)) (c_X10_finding l g (1 : Int32) μ h1) q4_214 q4_211 q4_213 r2_5 q1_11 hd_X10_finding ⟨rfl, rfl⟩ ⟨Nat.le_of_ble_eq_true rfl, Nat.le_of_ble_eq_true rfl⟩ cm_0 (by decide) rfl hP hS hl.1 rfl rfl (Nat.le_of_ble_eq_true rfl) dX10_rate_19 (fun H locs hP hS => ?_)
  refine W.eq (g2 := F0 m 22 ls [.int r3]) rfl ?_
  obtain ⟨rfl, rfl⟩ := some2 h
  exact x_iret C0 hP hS dX10_rate_22
def X10_rate (x1 : Int32) (x2 : Int32) (μ : Mem) : Option (Int32 × Mem) :=
  ob2 (X10_isMeter x1 μ) fun r1 μ1 => (if r1 = (0 : Int32) then X10_rate_17 μ1 else ob2 (X10_in x2 (0 : Int32) (2 : Int32) μ1) fun r4 μ4 => (if r4 = (0 : Int32) then X10_rate_17 μ4 else (if x2 = (0 : Int32) then ob2 (X10_forceIn (0 : Int32) (μ4 1 0) μ4) fun r11 μ11 => ob2 (X10_rateBy r11 x1 μ11) fun r12 μ12 => some (r12, μ12) else (if x2 = (1 : Int32) then ob2 (X10_loadedOf x1 μ4) fun r9 μ9 => ob2 (X10_rateBy r9 x1 μ9) fun r10 μ10 => some (r10, μ10) else ob2 (X10_standingOf x1 μ4) fun r8 μ8 => some (r8, μ8)))))
set_option maxRecDepth 100000 in
set_option maxHeartbeats 4000000 in
theorem c_X10_rate (l : Launch) (g : Gx) (x1 : Int32) (x2 : Int32) (μ : Mem) {r : Int32} {ν : Mem} (h : X10_rate x1 x2 μ = some (r, ν)) : Ct Lm g l yX10_rate cX10_rate 3 (some .int) { frames := 69, cells := 0, slots := 0, locals := 1565 } [.ref (g.2.2.1 + 0), .int x1, .int x2] μ (some (.int r)) ν := by
  refine x_met (lv := [(0, .ref (g.2.2.1 + 0)), (1, .int x1), (2, .int x2)]) rfl (Nat.le_of_ble_eq_true rfl) rfl ?_
  intro p e s m below meth c C0 hP ls hl
  generalize ([.ref (g.2.2.1 + 0), .int x1, .int x2] : List Value).toArray = args at C0 ⊢
  have C0 : Cx Lm g p s m args meth c cX10_rate 3 (some .int) RX10 := C0
  have hS : va_S (Ax Lm g) s.heap s.heap [] := va_S.rf
  obtain ⟨hx, hb, hr, hml, hown, hts, hlocks, hK⟩ := id C0
  unfold X10_rate at h
  skip
  refine lv_aload_n hx hb dX10_rate_0 rfl (lv_at hl 0 rfl) ?_
  refine lv_iload_n hx hb dX10_rate_1 rfl (lv_at hl 1 rfl) ?_
  obtain ⟨r1, μ1, h1, h⟩ := ob2_some h
  refine x_callV C0 (rest := []) (q := (RX10, TX10, 22)) (c_X10_isMeter l g x1 μ h1) q4_231 q4_228 q4_230 r2_8 q1_11 hd_X10_isMeter ⟨rfl, rfl⟩ ⟨Nat.le_of_ble_eq_true rfl, Nat.le_of_ble_eq_true rfl⟩ cm_0 (by decide) rfl hP hS hl.1 rfl rfl (Nat.le_of_ble_eq_true rfl) dX10_rate_2 (fun H locs hP hS => ?_)
  refine W.eq (g2 := F0 m 5 ls [.int r1]) rfl ?_
  refine lv_if_eq (tgt := 17) hx hb dX10_rate_5 (by decide) (fun c2 => ?_) (fun c2 => ?_)
  · rw [if_pos c2] at h
    exact w_X10_rate_17 C0   μ1 _ _ _ hP hS (lv_sub hl [0] rfl) h
  · rw [if_neg c2] at h
    refine lv_iload_n hx hb dX10_rate_8 rfl (lv_at hl 2 rfl) ?_
    refine lv_iconst (v := (0 : Int32)) hx hb dX10_rate_9 rfl ?_
    refine lv_iconst (v := (2 : Int32)) hx hb dX10_rate_10 rfl ?_
    obtain ⟨r4, μ4, h1, h⟩ := ob2_some h
    refine x_callS C0 (rest := []) (c_X10_in l g x2 (0 : Int32) (2 : Int32) μ1 h1) q4_207 q4_205 q4_206 q1_11 hd_X10_in ⟨rfl, rfl⟩ ⟨Nat.le_of_ble_eq_true rfl, Nat.le_of_ble_eq_true rfl⟩ hP hS hl.1 rfl rfl (Nat.le_of_ble_eq_true rfl) dX10_rate_11 (fun H locs hP hS => ?_)
    refine W.eq (g2 := F0 m 14 ls [.int r4]) rfl ?_
    refine lv_if_ne (tgt := 23) hx hb dX10_rate_14 (by decide) (fun c5 => ?_) (fun c5 => ?_)
    · rw [if_neg c5] at h
      refine lv_iload_n hx hb dX10_rate_23 rfl (lv_at hl 2 rfl) ?_
      refine lv_if_ne (tgt := 46) hx hb dX10_rate_24 (by decide) (fun c6 => ?_) (fun c6 => ?_)
      · rw [if_neg c6] at h
        refine lv_iload_n hx hb dX10_rate_46 rfl (lv_at hl 2 rfl) ?_
        refine lv_iconst (v := (1 : Int32)) hx hb dX10_rate_47 rfl ?_
        refine lv_icmp_ne (tgt := 64) hx hb dX10_rate_48 (by decide) (fun c7 => ?_) (fun c7 => ?_)
        · rw [if_neg c7] at h
          refine lv_aload_n hx hb dX10_rate_64 rfl (lv_at hl 0 rfl) ?_
          refine lv_iload_n hx hb dX10_rate_65 rfl (lv_at hl 1 rfl) ?_
          obtain ⟨r8, μ8, h1, h⟩ := ob2_some h
          refine x_callV C0 (rest := []) (q := (RX10, TX10, 22)) (c_X10_standingOf l g x1 μ4 h1) q5_143 q5_140 q5_142 r3_13 q1_11 hd_X10_standingOf ⟨rfl, rfl⟩ ⟨Nat.le_of_ble_eq_true rfl, Nat.le_of_ble_eq_true rfl⟩ cm_0 (by decide) rfl hP hS hl.1 rfl rfl (Nat.le_of_ble_eq_true rfl) dX10_rate_66 (fun H locs hP hS => ?_)
          refine W.eq (g2 := F0 m 69 ls [.int r8]) rfl ?_
          obtain ⟨rfl, rfl⟩ := some2 h
          exact x_iret C0 hP hS dX10_rate_69
        · rw [if_pos c7] at h
          refine lv_aload_n hx hb dX10_rate_51 rfl (lv_at hl 0 rfl) ?_
          refine lv_aload_n hx hb dX10_rate_52 rfl (lv_at hl 0 rfl) ?_
          refine lv_iload_n hx hb dX10_rate_53 rfl (lv_at hl 1 rfl) ?_
          obtain ⟨r9, μ9, h1, h⟩ := ob2_some h
          refine x_callV C0 (rest := [.ref (g.2.2.1 + 0)]) (q := (RX10, TX10, 22)) (c_X10_loadedOf l g x1 μ4 h1) q5_3 q5_0 q5_2 r2_10 q1_11 hd_X10_loadedOf ⟨rfl, rfl⟩ ⟨Nat.le_of_ble_eq_true rfl, Nat.le_of_ble_eq_true rfl⟩ cm_0 (by decide) rfl hP hS hl.1 rfl rfl (Nat.le_of_ble_eq_true rfl) dX10_rate_54 (fun H locs hP hS => ?_)
          refine W.eq (g2 := F0 m 57 ls [.int r9, .ref (g.2.2.1 + 0)]) rfl ?_
          refine lv_iload_n hx hb dX10_rate_57 rfl (lv_at hl 1 rfl) ?_
          obtain ⟨r10, μ10, h1, h⟩ := ob2_some h
          refine x_callV C0 (rest := []) (q := (RX10, TX10, 22)) (c_X10_rateBy l g r9 x1 μ9 h1) q5_139 q5_136 q5_138 r3_12 q1_11 hd_X10_rateBy ⟨rfl, rfl⟩ ⟨Nat.le_of_ble_eq_true rfl, Nat.le_of_ble_eq_true rfl⟩ cm_0 (by decide) rfl hP hS hl.1 rfl rfl (Nat.le_of_ble_eq_true rfl) dX10_rate_58 (fun H locs hP hS => ?_)
          refine W.eq (g2 := F0 m 61 ls [.int r10]) rfl ?_
          refine lv_goto (tgt := 69) hx hb dX10_rate_61 (by decide) ?_
          obtain ⟨rfl, rfl⟩ := some2 h
          exact x_iret C0 hP hS dX10_rate_69
      · rw [if_pos c6] at h
        refine lv_aload_n hx hb dX10_rate_27 rfl (lv_at hl 0 rfl) ?_
        refine lv_aload_n hx hb dX10_rate_28 rfl (lv_at hl 0 rfl) ?_
        refine lv_iconst (v := (0 : Int32)) hx hb dX10_rate_29 rfl ?_
        refine lv_aload_n hx hb dX10_rate_30 rfl (lv_at hl 0 rfl) ?_
        refine x_get C0 hP inu10 (k := 0) cm_0 (by decide) rfl 0 (by decide) q4_134 rfl (v := .ref (g.2.2.1 + 1)) rfl dX10_rate_31 ?_
        refine lv_iconst (v := (0 : Int32)) hx hb dX10_rate_34 rfl ?_
        refine x_iald C0 hP (k := 1) cm_1 (j := 0) (by decide) rfl dX10_rate_35 ?_
        obtain ⟨r11, μ11, h1, h⟩ := ob2_some h
        refine x_callV C0 (rest := [.ref (g.2.2.1 + 0)]) (q := (RX10, TX10, 22)) (c_X10_forceIn l g (0 : Int32) (μ4 1 0) μ4 h1) q4_223 q4_220 q4_222 r2_7 q1_11 hd_X10_forceIn ⟨rfl, rfl⟩ ⟨Nat.le_of_ble_eq_true rfl, Nat.le_of_ble_eq_true rfl⟩ cm_0 (by decide) rfl hP hS hl.1 rfl rfl (Nat.le_of_ble_eq_true rfl) dX10_rate_36 (fun H locs hP hS => ?_)
        refine W.eq (g2 := F0 m 39 ls [.int r11, .ref (g.2.2.1 + 0)]) rfl ?_
        refine lv_iload_n hx hb dX10_rate_39 rfl (lv_at hl 1 rfl) ?_
        obtain ⟨r12, μ12, h1, h⟩ := ob2_some h
        refine x_callV C0 (rest := []) (q := (RX10, TX10, 22)) (c_X10_rateBy l g r11 x1 μ11 h1) q5_139 q5_136 q5_138 r3_12 q1_11 hd_X10_rateBy ⟨rfl, rfl⟩ ⟨Nat.le_of_ble_eq_true rfl, Nat.le_of_ble_eq_true rfl⟩ cm_0 (by decide) rfl hP hS hl.1 rfl rfl (Nat.le_of_ble_eq_true rfl) dX10_rate_40 (fun H locs hP hS => ?_)
        refine W.eq (g2 := F0 m 43 ls [.int r12]) rfl ?_
        refine lv_goto (tgt := 69) hx hb dX10_rate_43 (by decide) ?_
        obtain ⟨rfl, rfl⟩ := some2 h
        exact x_iret C0 hP hS dX10_rate_69
    · rw [if_pos c5] at h
      exact w_X10_rate_17 C0   μ4 _ _ _ hP hS (lv_sub hl [0] rfl) h
