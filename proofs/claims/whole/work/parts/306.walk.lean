def X8_say_body (S : Nat → Int32 → Int32 → Int32 → Int32 → Mem → Option (Int32 × Mem)) (a1 : Nat) (x2 : Int32) (x3 : Int32) (x4 : Int32) (x5 : Int32) (μ : Mem) : Option (Int32 × Mem) :=
  ob2 (X8_ownerOf x2 x3 μ) fun r1 μ1 => ob2 (X9_isKind r1 μ1) fun r2 μ2 => (if r2 = (0 : Int32) then some ((0 : Int32), μ2) else (if x5 ≤ (20 : Int32) then gd (inB ((r1 * (4 : Int32)) + x3) 24) (gd (inB r1 6) (ob (X8_note (BO ((r1 * (4 : Int32)) + x3).toNatClampNeg) μ2) fun μ7 => (if (BO ((r1 * (4 : Int32)) + x3).toNatClampNeg) = (10 : Int32) then some ((x4 + ((μ2 a1 3) + (μ2 a1 4))), μ7) else (if (BO ((r1 * (4 : Int32)) + x3).toNatClampNeg) = (11 : Int32) then ob2 (S a1 (μ7 a1 2) (0 : Int32) x4 (x5 + (1 : Int32)) μ7) fun r10 μ10 => some ((r10 * (2 : Int32)), μ10) else (if (BO ((r1 * (4 : Int32)) + x3).toNatClampNeg) = (12 : Int32) then some ((x4 - (μ7 a1 1)), μ7) else (if (BO ((r1 * (4 : Int32)) + x3).toNatClampNeg) = (13 : Int32) then ob2 (S a1 (μ7 a1 2) (1 : Int32) x4 (x5 + (1 : Int32)) μ7) fun r13 μ13 => ob2 (S a1 (μ13 a1 2) (2 : Int32) x4 (x5 + (1 : Int32)) μ13) fun r14 μ14 => some ((r13 ^^^ r14), μ14) else (if (BO ((r1 * (4 : Int32)) + x3).toNatClampNeg) = (20 : Int32) then ob2 (S a1 (KA r1.toNatClampNeg) (0 : Int32) x4 (x5 + (1 : Int32)) μ7) fun r16 μ16 => some ((r16 - (μ16 a1 1)), μ16) else (if (BO ((r1 * (4 : Int32)) + x3).toNatClampNeg) = (21 : Int32) then ob2 (S a1 (KA r1.toNatClampNeg) (3 : Int32) (x4 + (1 : Int32)) (x5 + (1 : Int32)) μ7) fun r18 μ18 => some (r18, μ18) else (if (BO ((r1 * (4 : Int32)) + x3).toNatClampNeg) = (30 : Int32) then ob2 (S a1 (KA r1.toNatClampNeg) (1 : Int32) x4 (x5 + (1 : Int32)) μ7) fun r20 μ20 => ob2 (S a1 (μ20 a1 2) (2 : Int32) x4 (x5 + (1 : Int32)) μ20) fun r21 μ21 => some ((r20 + r21), μ21) else (if (BO ((r1 * (4 : Int32)) + x3).toNatClampNeg) = (40 : Int32) then ob2 (S a1 (KA r1.toNatClampNeg) (2 : Int32) x4 (x5 + (1 : Int32)) μ7) fun r23 μ23 => some ((r23 * (3 : Int32)), μ23) else (if (BO ((r1 * (4 : Int32)) + x3).toNatClampNeg) = (41 : Int32) then ob2 (S a1 (KA r1.toNatClampNeg) (0 : Int32) (x4 + ((μ2 a1 3) + (μ2 a1 4))) (x5 + (1 : Int32)) μ7) fun r25 μ25 => some (r25, μ25) else (if (BO ((r1 * (4 : Int32)) + x3).toNatClampNeg) = (50 : Int32) then ob2 (S a1 (μ7 a1 2) (2 : Int32) x4 (x5 + (1 : Int32)) μ7) fun r27 μ27 => ob2 (S a1 (KA r1.toNatClampNeg) (3 : Int32) x4 (x5 + (1 : Int32)) μ27) fun r28 μ28 => some ((r27 - r28), μ28) else (if (BO ((r1 * (4 : Int32)) + x3).toNatClampNeg) = (51 : Int32) then ob2 (S a1 (KA r1.toNatClampNeg) (1 : Int32) x4 (x5 + (1 : Int32)) μ7) fun r30 μ30 => ob2 (S a1 (μ30 a1 2) (0 : Int32) x4 (x5 + (1 : Int32)) μ30) fun r31 μ31 => some ((r30 ^^^ r31), μ31) else (if (BO ((r1 * (4 : Int32)) + x3).toNatClampNeg) = (60 : Int32) then ob2 (S a1 (KA r1.toNatClampNeg) (2 : Int32) (x4 - ((μ2 a1 3) + (μ2 a1 4))) (x5 + (1 : Int32)) μ7) fun r33 μ33 => some (r33, μ33) else some ((0 : Int32), μ7))))))))))))))) else some ((0 : Int32), μ2)))
set_option maxRecDepth 100000 in
set_option maxHeartbeats 4000000 in
theorem c_X8_say_body (l : Launch) (g : Gx) (S : Nat → Int32 → Int32 → Int32 → Int32 → Mem → Option (Int32 × Mem)) {F Lo : Nat} (hS0 : ∀ (a1 : Nat) (hi1 : Id2 a1) (x2 : Int32) (x3 : Int32) (x4 : Int32) (x5 : Int32) (μ : Mem) (r : Int32) (ν : Mem), S a1 x2 x3 x4 x5 μ = some (r, ν) → Ct Lx g l yX8_say cX8_say 11 (some .int) { frames := F, cells := 0, slots := 0, locals := Lo } [.ref (g.2.2.1 + 83), .ref (g.2.2.1 + a1), .int x2, .int x3, .int x4, .int x5] μ (some (.int r)) ν) (a1 : Nat) (hi1 : Id2 a1) (x2 : Int32) (x3 : Int32) (x4 : Int32) (x5 : Int32) (μ : Mem) {r : Int32} {ν : Mem} (h : X8_say_body S a1 x2 x3 x4 x5 μ = some (r, ν)) : Ct Lx g l yX8_say cX8_say 11 (some .int) { frames := F + 2, cells := 0, slots := 0, locals := Lo + 43 } [.ref (g.2.2.1 + 83), .ref (g.2.2.1 + a1), .int x2, .int x3, .int x4, .int x5] μ (some (.int r)) ν := by
  refine x_met (lv := [(0, .ref (g.2.2.1 + 83)), (1, .ref (g.2.2.1 + a1)), (2, .int x2), (3, .int x3), (4, .int x4), (5, .int x5)]) rfl (Nat.le_of_ble_eq_true rfl) rfl ?_
  intro p e s m below meth c C0 hP ls hl
  generalize ([.ref (g.2.2.1 + 83), .ref (g.2.2.1 + a1), .int x2, .int x3, .int x4, .int x5] : List Value).toArray = args at C0 ⊢
  have C0 : Cx Lx g p s m args meth c cX8_say 11 (some .int) RX8 := C0
  have hS : va_S (Ax Lx g) s.heap s.heap [] := va_S.rf
  obtain ⟨hx, hb, hr, hml, hown, hts, hlocks, hK⟩ := id C0
  unfold X8_say_body at h
  skip
  refine lv_iload_n hx hb dX8_say_0 rfl (lv_at hl 2 rfl) ?_
  refine lv_iload_n hx hb dX8_say_1 rfl (lv_at hl 3 rfl) ?_
  obtain ⟨r1, μ1, h1, h⟩ := ob2_some h
  refine x_callS C0 (rest := []) (c_X8_ownerOf l g x2 x3 μ h1) q4_36 q4_34 q4_35 q1_9 hd_X8_ownerOf ⟨rfl, rfl⟩ ⟨by dsimp only; omega, by dsimp only; omega⟩ hP hS hl.1 rfl rfl (Nat.le_of_ble_eq_true rfl) dX8_say_2 (fun H locs hP hS => ?_)
  refine W.eq (g2 := F0 m 5 ls [.int r1]) rfl ?_
  refine lv_istore (lv' := [(6, .int r1), (0, .ref (g.2.2.1 + 83)), (1, .ref (g.2.2.1 + a1)), (2, .int x2), (3, .int x3), (4, .int x4), (5, .int x5)]) hx hb dX8_say_5 hl (by decide) rfl (fun ls hl => ?_)
  refine lv_iload hx hb dX8_say_7 (lv_at hl 0 rfl) ?_
  obtain ⟨r2, μ2, h1, h⟩ := ob2_some h
  refine x_callSN C0 (rest := []) (c_X9_isKind l g r1 μ1 h1) q2_115 (by decide +kernel) q2_114 q1_1 hd_X9_isKind ⟨rfl, rfl⟩ ⟨by dsimp only; omega, by dsimp only; omega⟩ hP hS hl.1 rfl rfl (Nat.le_of_ble_eq_true rfl) dX8_say_9 (fun H locs hP hS => ?_)
  refine W.eq (g2 := F0 m 12 ls [.int r2]) rfl ?_
  refine lv_if_eq (tgt := 22) hx hb dX8_say_12 (by decide) (fun c3 => ?_) (fun c3 => ?_)
  · rw [if_pos c3] at h
    refine lv_iconst (v := (0 : Int32)) hx hb dX8_say_22 rfl ?_
    obtain ⟨rfl, rfl⟩ := some2 h
    exact x_iret C0 hP hS dX8_say_23
  · rw [if_neg c3] at h
    refine lv_iload hx hb dX8_say_15 (lv_at hl 6 rfl) ?_
    refine lv_bipush (v := (20 : Int32)) hx hb dX8_say_17 (by decide +kernel) ?_
    refine lv_icmp_le (tgt := 24) hx hb dX8_say_19 (by decide) (fun c4 => ?_) (fun c4 => ?_)
    · rw [if_pos c4] at h
      refine x_bo C0 hS q4_38 dX8_say_24 ?_
      refine lv_iload hx hb dX8_say_27 (lv_at hl 0 rfl) ?_
      refine lv_iconst (v := (4 : Int32)) hx hb dX8_say_29 rfl ?_
      refine lv_imul hx hb dX8_say_30 ?_
      refine lv_iload_n hx hb dX8_say_31 rfl (lv_at hl 4 rfl) ?_
      refine lv_iadd hx hb dX8_say_32 ?_
      obtain ⟨z5, h⟩ := gd_some h
      refine x_tald (f := BO) C0 hS hK.2.2.2.2.2 (j := ((r1 * (4 : Int32)) + x3).toNatClampNeg) z5 rfl dX8_say_33 ?_
      refine lv_istore (lv' := [(7, .int (BO ((r1 * (4 : Int32)) + x3).toNatClampNeg)), (6, .int r1), (0, .ref (g.2.2.1 + 83)), (1, .ref (g.2.2.1 + a1)), (2, .int x2), (3, .int x3), (4, .int x4), (5, .int x5)]) hx hb dX8_say_34 hl (by decide) rfl (fun ls hl => ?_)
      refine x_kaN C0 hS (index := 39) (by decide +kernel) dX8_say_36 ?_
      refine lv_iload hx hb dX8_say_39 (lv_at hl 1 rfl) ?_
      obtain ⟨z6, h⟩ := gd_some h
      refine x_tald (f := KA) C0 hS hK.2.2.2.1.2 (j := r1.toNatClampNeg) z6 rfl dX8_say_41 ?_
      refine lv_istore (lv' := [(8, .int (KA r1.toNatClampNeg)), (7, .int (BO ((r1 * (4 : Int32)) + x3).toNatClampNeg)), (6, .int r1), (0, .ref (g.2.2.1 + 83)), (1, .ref (g.2.2.1 + a1)), (2, .int x2), (3, .int x3), (4, .int x4), (5, .int x5)]) hx hb dX8_say_42 hl (by decide) rfl (fun ls hl => ?_)
      refine lv_iload hx hb dX8_say_44 (lv_at hl 8 rfl) ?_
      refine lv_iconst (v := (1 : Int32)) hx hb dX8_say_46 rfl ?_
      refine lv_iadd hx hb dX8_say_47 ?_
      refine lv_istore (lv' := [(9, .int (x5 + (1 : Int32))), (8, .int (KA r1.toNatClampNeg)), (7, .int (BO ((r1 * (4 : Int32)) + x3).toNatClampNeg)), (6, .int r1), (0, .ref (g.2.2.1 + 83)), (1, .ref (g.2.2.1 + a1)), (2, .int x2), (3, .int x3), (4, .int x4), (5, .int x5)]) hx hb dX8_say_48 hl (by decide) rfl (fun ls hl => ?_)
      refine lv_aload_n hx hb dX8_say_50 rfl (lv_at hl 5 rfl) ?_
      refine x_get C0 hP inu2 (k := a1) (id2_0 hi1) (by decide) rfl 3 (by decide) q1_151 rfl (v := .int (μ2 a1 3)) rfl dX8_say_51 ?_
      refine lv_aload_n hx hb dX8_say_54 rfl (lv_at hl 5 rfl) ?_
      refine x_get C0 hP inu2 (k := a1) (id2_0 hi1) (by decide) rfl 4 (by decide) q1_154 rfl (v := .int (μ2 a1 4)) rfl dX8_say_55 ?_
      refine lv_iadd hx hb dX8_say_58 ?_
      refine lv_istore (lv' := [(10, .int ((μ2 a1 3) + (μ2 a1 4))), (9, .int (x5 + (1 : Int32))), (8, .int (KA r1.toNatClampNeg)), (7, .int (BO ((r1 * (4 : Int32)) + x3).toNatClampNeg)), (6, .int r1), (0, .ref (g.2.2.1 + 83)), (1, .ref (g.2.2.1 + a1)), (2, .int x2), (3, .int x3), (4, .int x4), (5, .int x5)]) hx hb dX8_say_59 hl (by decide) rfl (fun ls hl => ?_)
      refine lv_aload_n hx hb dX8_say_61 rfl (lv_at hl 5 rfl) ?_
      refine lv_iload hx hb dX8_say_62 (lv_at hl 3 rfl) ?_
      obtain ⟨μ7, h1, h⟩ := ob_some h
      refine x_callV C0 (rest := []) (q := (RX8, TX8, 2)) (c_X8_note l g (BO ((r1 * (4 : Int32)) + x3).toNatClampNeg) μ2 h1) q4_44 q4_41 q4_43 r2_3 q1_9 hd_X8_note ⟨rfl, rfl⟩ ⟨by dsimp only; omega, by dsimp only; omega⟩ cx_83 (by decide) rfl hP hS hl.1 rfl rfl (Nat.le_of_ble_eq_true rfl) dX8_say_64 (fun H locs hP hS => ?_)
      refine W.eq (g2 := F0 m 67 ls []) rfl ?_
      refine lv_iload hx hb dX8_say_67 (lv_at hl 3 rfl) ?_
      by_cases c8 : (BO ((r1 * (4 : Int32)) + x3).toNatClampNeg) = (10 : Int32)
      · rw [if_pos c8] at h
        refine lv_lookup (tgt := 176) (off := 107) hx hb dX8_say_69 (by decide) (by rw [c8]; decide) (by decide) ?_
        refine lv_iload hx hb dX8_say_176 (lv_at hl 9 rfl) ?_
        refine lv_iload hx hb dX8_say_178 (lv_at hl 0 rfl) ?_
        refine lv_iadd hx hb dX8_say_180 ?_
        obtain ⟨rfl, rfl⟩ := some2 h
        exact x_iret C0 hP hS dX8_say_181
      rw [if_neg c8] at h
      by_cases c9 : (BO ((r1 * (4 : Int32)) + x3).toNatClampNeg) = (11 : Int32)
      · rw [if_pos c9] at h
        refine lv_lookup (tgt := 182) (off := 113) hx hb dX8_say_69 (by decide) (by rw [c9]; decide) (by decide) ?_
        refine lv_aload_n hx hb dX8_say_182 rfl (lv_at hl 5 rfl) ?_
        refine lv_aload_n hx hb dX8_say_183 rfl (lv_at hl 6 rfl) ?_
        refine lv_aload_n hx hb dX8_say_184 rfl (lv_at hl 6 rfl) ?_
        refine x_get C0 hP inu2 (k := a1) (id2_0 hi1) (by decide) rfl 2 (by decide) q1_146 rfl (v := .int (μ7 a1 2)) rfl dX8_say_185 ?_
        refine lv_iconst (v := (0 : Int32)) hx hb dX8_say_188 rfl ?_
        refine lv_iload hx hb dX8_say_189 (lv_at hl 9 rfl) ?_
        refine lv_iload hx hb dX8_say_191 (lv_at hl 1 rfl) ?_
        obtain ⟨r10, μ10, h1, h⟩ := ob2_some h
        refine x_callV C0 (rest := []) (q := (RX8, TX8, 2)) (hS0 a1 hi1 (μ7 a1 2) (0 : Int32) x4 (x5 + (1 : Int32)) μ7 _ _ h1) q4_33 q4_30 q4_32 r2_2 q1_9 hd_X8_say ⟨rfl, rfl⟩ ⟨by dsimp only; omega, by dsimp only; omega⟩ cx_83 (by decide) rfl hP hS hl.1 rfl rfl (Nat.le_of_ble_eq_true rfl) dX8_say_193 (fun H locs hP hS => ?_)
        refine W.eq (g2 := F0 m 196 ls [.int r10]) rfl ?_
        refine lv_iconst (v := (2 : Int32)) hx hb dX8_say_196 rfl ?_
        refine lv_imul hx hb dX8_say_197 ?_
        obtain ⟨rfl, rfl⟩ := some2 h
        exact x_iret C0 hP hS dX8_say_198
      rw [if_neg c9] at h
      by_cases c11 : (BO ((r1 * (4 : Int32)) + x3).toNatClampNeg) = (12 : Int32)
      · rw [if_pos c11] at h
        refine lv_lookup (tgt := 199) (off := 130) hx hb dX8_say_69 (by decide) (by rw [c11]; decide) (by decide) ?_
        refine lv_iload hx hb dX8_say_199 (lv_at hl 9 rfl) ?_
        refine lv_aload_n hx hb dX8_say_201 rfl (lv_at hl 6 rfl) ?_
        refine x_get C0 hP inu2 (k := a1) (id2_0 hi1) (by decide) rfl 1 (by decide) q1_144 rfl (v := .int (μ7 a1 1)) rfl dX8_say_202 ?_
        refine lv_isub hx hb dX8_say_205 ?_
        obtain ⟨rfl, rfl⟩ := some2 h
        exact x_iret C0 hP hS dX8_say_206
      rw [if_neg c11] at h
      by_cases c12 : (BO ((r1 * (4 : Int32)) + x3).toNatClampNeg) = (13 : Int32)
      · rw [if_pos c12] at h
        refine lv_lookup (tgt := 207) (off := 138) hx hb dX8_say_69 (by decide) (by rw [c12]; decide) (by decide) ?_
        refine lv_aload_n hx hb dX8_say_207 rfl (lv_at hl 5 rfl) ?_
        refine lv_aload_n hx hb dX8_say_208 rfl (lv_at hl 6 rfl) ?_
        refine lv_aload_n hx hb dX8_say_209 rfl (lv_at hl 6 rfl) ?_
        refine x_get C0 hP inu2 (k := a1) (id2_0 hi1) (by decide) rfl 2 (by decide) q1_146 rfl (v := .int (μ7 a1 2)) rfl dX8_say_210 ?_
        refine lv_iconst (v := (1 : Int32)) hx hb dX8_say_213 rfl ?_
        refine lv_iload hx hb dX8_say_214 (lv_at hl 9 rfl) ?_
        refine lv_iload hx hb dX8_say_216 (lv_at hl 1 rfl) ?_
        obtain ⟨r13, μ13, h1, h⟩ := ob2_some h
        refine x_callV C0 (rest := []) (q := (RX8, TX8, 2)) (hS0 a1 hi1 (μ7 a1 2) (1 : Int32) x4 (x5 + (1 : Int32)) μ7 _ _ h1) q4_33 q4_30 q4_32 r2_2 q1_9 hd_X8_say ⟨rfl, rfl⟩ ⟨by dsimp only; omega, by dsimp only; omega⟩ cx_83 (by decide) rfl hP hS hl.1 rfl rfl (Nat.le_of_ble_eq_true rfl) dX8_say_218 (fun H locs hP hS => ?_)
        refine W.eq (g2 := F0 m 221 ls [.int r13]) rfl ?_
        refine lv_aload_n hx hb dX8_say_221 rfl (lv_at hl 5 rfl) ?_
        refine lv_aload_n hx hb dX8_say_222 rfl (lv_at hl 6 rfl) ?_
        refine lv_aload_n hx hb dX8_say_223 rfl (lv_at hl 6 rfl) ?_
        refine x_get C0 hP inu2 (k := a1) (id2_0 hi1) (by decide) rfl 2 (by decide) q1_146 rfl (v := .int (μ13 a1 2)) rfl dX8_say_224 ?_
        refine lv_iconst (v := (2 : Int32)) hx hb dX8_say_227 rfl ?_
        refine lv_iload hx hb dX8_say_228 (lv_at hl 9 rfl) ?_
        refine lv_iload hx hb dX8_say_230 (lv_at hl 1 rfl) ?_
        obtain ⟨r14, μ14, h1, h⟩ := ob2_some h
        refine x_callV C0 (rest := [.int r13]) (q := (RX8, TX8, 2)) (hS0 a1 hi1 (μ13 a1 2) (2 : Int32) x4 (x5 + (1 : Int32)) μ13 _ _ h1) q4_33 q4_30 q4_32 r2_2 q1_9 hd_X8_say ⟨rfl, rfl⟩ ⟨by dsimp only; omega, by dsimp only; omega⟩ cx_83 (by decide) rfl hP hS hl.1 rfl rfl (Nat.le_of_ble_eq_true rfl) dX8_say_232 (fun H locs hP hS => ?_)
        refine W.eq (g2 := F0 m 235 ls [.int r14, .int r13]) rfl ?_
        refine lv_ixor hx hb dX8_say_235 ?_
        obtain ⟨rfl, rfl⟩ := some2 h
        exact x_iret C0 hP hS dX8_say_236
      rw [if_neg c12] at h
      by_cases c15 : (BO ((r1 * (4 : Int32)) + x3).toNatClampNeg) = (20 : Int32)
      · rw [if_pos c15] at h
        refine lv_lookup (tgt := 237) (off := 168) hx hb dX8_say_69 (by decide) (by rw [c15]; decide) (by decide) ?_
        refine lv_aload_n hx hb dX8_say_237 rfl (lv_at hl 5 rfl) ?_
        refine lv_aload_n hx hb dX8_say_238 rfl (lv_at hl 6 rfl) ?_
        refine lv_iload hx hb dX8_say_239 (lv_at hl 2 rfl) ?_
        refine lv_iconst (v := (0 : Int32)) hx hb dX8_say_241 rfl ?_
        refine lv_iload hx hb dX8_say_242 (lv_at hl 9 rfl) ?_
        refine lv_iload hx hb dX8_say_244 (lv_at hl 1 rfl) ?_
        obtain ⟨r16, μ16, h1, h⟩ := ob2_some h
        refine x_callV C0 (rest := []) (q := (RX8, TX8, 2)) (hS0 a1 hi1 (KA r1.toNatClampNeg) (0 : Int32) x4 (x5 + (1 : Int32)) μ7 _ _ h1) q4_33 q4_30 q4_32 r2_2 q1_9 hd_X8_say ⟨rfl, rfl⟩ ⟨by dsimp only; omega, by dsimp only; omega⟩ cx_83 (by decide) rfl hP hS hl.1 rfl rfl (Nat.le_of_ble_eq_true rfl) dX8_say_246 (fun H locs hP hS => ?_)
        refine W.eq (g2 := F0 m 249 ls [.int r16]) rfl ?_
        refine lv_aload_n hx hb dX8_say_249 rfl (lv_at hl 6 rfl) ?_
        refine x_get C0 hP inu2 (k := a1) (id2_0 hi1) (by decide) rfl 1 (by decide) q1_144 rfl (v := .int (μ16 a1 1)) rfl dX8_say_250 ?_
        refine lv_isub hx hb dX8_say_253 ?_
        obtain ⟨rfl, rfl⟩ := some2 h
        exact x_iret C0 hP hS dX8_say_254
      rw [if_neg c15] at h
      by_cases c17 : (BO ((r1 * (4 : Int32)) + x3).toNatClampNeg) = (21 : Int32)
      · rw [if_pos c17] at h
        refine lv_lookup (tgt := 255) (off := 186) hx hb dX8_say_69 (by decide) (by rw [c17]; decide) (by decide) ?_
        refine lv_aload_n hx hb dX8_say_255 rfl (lv_at hl 5 rfl) ?_
        refine lv_aload_n hx hb dX8_say_256 rfl (lv_at hl 6 rfl) ?_
        refine lv_iload hx hb dX8_say_257 (lv_at hl 2 rfl) ?_
        refine lv_iconst (v := (3 : Int32)) hx hb dX8_say_259 rfl ?_
        refine lv_iload hx hb dX8_say_260 (lv_at hl 9 rfl) ?_
        refine lv_iconst (v := (1 : Int32)) hx hb dX8_say_262 rfl ?_
        refine lv_iadd hx hb dX8_say_263 ?_
        refine lv_iload hx hb dX8_say_264 (lv_at hl 1 rfl) ?_
        obtain ⟨r18, μ18, h1, h⟩ := ob2_some h
        refine x_callV C0 (rest := []) (q := (RX8, TX8, 2)) (hS0 a1 hi1 (KA r1.toNatClampNeg) (3 : Int32) (x4 + (1 : Int32)) (x5 + (1 : Int32)) μ7 _ _ h1) q4_33 q4_30 q4_32 r2_2 q1_9 hd_X8_say ⟨rfl, rfl⟩ ⟨by dsimp only; omega, by dsimp only; omega⟩ cx_83 (by decide) rfl hP hS hl.1 rfl rfl (Nat.le_of_ble_eq_true rfl) dX8_say_266 (fun H locs hP hS => ?_)
        refine W.eq (g2 := F0 m 269 ls [.int r18]) rfl ?_
        obtain ⟨rfl, rfl⟩ := some2 h
        exact x_iret C0 hP hS dX8_say_269
      rw [if_neg c17] at h
      by_cases c19 : (BO ((r1 * (4 : Int32)) + x3).toNatClampNeg) = (30 : Int32)
      · rw [if_pos c19] at h
        refine lv_lookup (tgt := 270) (off := 201) hx hb dX8_say_69 (by decide) (by rw [c19]; decide) (by decide) ?_
        refine lv_aload_n hx hb dX8_say_270 rfl (lv_at hl 5 rfl) ?_
        refine lv_aload_n hx hb dX8_say_271 rfl (lv_at hl 6 rfl) ?_
        refine lv_iload hx hb dX8_say_272 (lv_at hl 2 rfl) ?_
        refine lv_iconst (v := (1 : Int32)) hx hb dX8_say_274 rfl ?_
        refine lv_iload hx hb dX8_say_275 (lv_at hl 9 rfl) ?_
        refine lv_iload hx hb dX8_say_277 (lv_at hl 1 rfl) ?_
        obtain ⟨r20, μ20, h1, h⟩ := ob2_some h
        refine x_callV C0 (rest := []) (q := (RX8, TX8, 2)) (hS0 a1 hi1 (KA r1.toNatClampNeg) (1 : Int32) x4 (x5 + (1 : Int32)) μ7 _ _ h1) q4_33 q4_30 q4_32 r2_2 q1_9 hd_X8_say ⟨rfl, rfl⟩ ⟨by dsimp only; omega, by dsimp only; omega⟩ cx_83 (by decide) rfl hP hS hl.1 rfl rfl (Nat.le_of_ble_eq_true rfl) dX8_say_279 (fun H locs hP hS => ?_)
        refine W.eq (g2 := F0 m 282 ls [.int r20]) rfl ?_
        refine lv_aload_n hx hb dX8_say_282 rfl (lv_at hl 5 rfl) ?_
        refine lv_aload_n hx hb dX8_say_283 rfl (lv_at hl 6 rfl) ?_
        refine lv_aload_n hx hb dX8_say_284 rfl (lv_at hl 6 rfl) ?_
        refine x_get C0 hP inu2 (k := a1) (id2_0 hi1) (by decide) rfl 2 (by decide) q1_146 rfl (v := .int (μ20 a1 2)) rfl dX8_say_285 ?_
        refine lv_iconst (v := (2 : Int32)) hx hb dX8_say_288 rfl ?_
        refine lv_iload hx hb dX8_say_289 (lv_at hl 9 rfl) ?_
        refine lv_iload hx hb dX8_say_291 (lv_at hl 1 rfl) ?_
        obtain ⟨r21, μ21, h1, h⟩ := ob2_some h
        refine x_callV C0 (rest := [.int r20]) (q := (RX8, TX8, 2)) (hS0 a1 hi1 (μ20 a1 2) (2 : Int32) x4 (x5 + (1 : Int32)) μ20 _ _ h1) q4_33 q4_30 q4_32 r2_2 q1_9 hd_X8_say ⟨rfl, rfl⟩ ⟨by dsimp only; omega, by dsimp only; omega⟩ cx_83 (by decide) rfl hP hS hl.1 rfl rfl (Nat.le_of_ble_eq_true rfl) dX8_say_293 (fun H locs hP hS => ?_)
        refine W.eq (g2 := F0 m 296 ls [.int r21, .int r20]) rfl ?_
        refine lv_iadd hx hb dX8_say_296 ?_
        obtain ⟨rfl, rfl⟩ := some2 h
        exact x_iret C0 hP hS dX8_say_297
      rw [if_neg c19] at h
      by_cases c22 : (BO ((r1 * (4 : Int32)) + x3).toNatClampNeg) = (40 : Int32)
      · rw [if_pos c22] at h
        refine lv_lookup (tgt := 298) (off := 229) hx hb dX8_say_69 (by decide) (by rw [c22]; decide) (by decide) ?_
        refine lv_aload_n hx hb dX8_say_298 rfl (lv_at hl 5 rfl) ?_
        refine lv_aload_n hx hb dX8_say_299 rfl (lv_at hl 6 rfl) ?_
        refine lv_iload hx hb dX8_say_300 (lv_at hl 2 rfl) ?_
        refine lv_iconst (v := (2 : Int32)) hx hb dX8_say_302 rfl ?_
        refine lv_iload hx hb dX8_say_303 (lv_at hl 9 rfl) ?_
        refine lv_iload hx hb dX8_say_305 (lv_at hl 1 rfl) ?_
        obtain ⟨r23, μ23, h1, h⟩ := ob2_some h
        refine x_callV C0 (rest := []) (q := (RX8, TX8, 2)) (hS0 a1 hi1 (KA r1.toNatClampNeg) (2 : Int32) x4 (x5 + (1 : Int32)) μ7 _ _ h1) q4_33 q4_30 q4_32 r2_2 q1_9 hd_X8_say ⟨rfl, rfl⟩ ⟨by dsimp only; omega, by dsimp only; omega⟩ cx_83 (by decide) rfl hP hS hl.1 rfl rfl (Nat.le_of_ble_eq_true rfl) dX8_say_307 (fun H locs hP hS => ?_)
        refine W.eq (g2 := F0 m 310 ls [.int r23]) rfl ?_
        refine lv_iconst (v := (3 : Int32)) hx hb dX8_say_310 rfl ?_
        refine lv_imul hx hb dX8_say_311 ?_
        obtain ⟨rfl, rfl⟩ := some2 h
        exact x_iret C0 hP hS dX8_say_312
      rw [if_neg c22] at h
      by_cases c24 : (BO ((r1 * (4 : Int32)) + x3).toNatClampNeg) = (41 : Int32)
      · rw [if_pos c24] at h
        refine lv_lookup (tgt := 313) (off := 244) hx hb dX8_say_69 (by decide) (by rw [c24]; decide) (by decide) ?_
        refine lv_aload_n hx hb dX8_say_313 rfl (lv_at hl 5 rfl) ?_
        refine lv_aload_n hx hb dX8_say_314 rfl (lv_at hl 6 rfl) ?_
        refine lv_iload hx hb dX8_say_315 (lv_at hl 2 rfl) ?_
        refine lv_iconst (v := (0 : Int32)) hx hb dX8_say_317 rfl ?_
        refine lv_iload hx hb dX8_say_318 (lv_at hl 9 rfl) ?_
        refine lv_iload hx hb dX8_say_320 (lv_at hl 0 rfl) ?_
        refine lv_iadd hx hb dX8_say_322 ?_
        refine lv_iload hx hb dX8_say_323 (lv_at hl 1 rfl) ?_
        obtain ⟨r25, μ25, h1, h⟩ := ob2_some h
        refine x_callV C0 (rest := []) (q := (RX8, TX8, 2)) (hS0 a1 hi1 (KA r1.toNatClampNeg) (0 : Int32) (x4 + ((μ2 a1 3) + (μ2 a1 4))) (x5 + (1 : Int32)) μ7 _ _ h1) q4_33 q4_30 q4_32 r2_2 q1_9 hd_X8_say ⟨rfl, rfl⟩ ⟨by dsimp only; omega, by dsimp only; omega⟩ cx_83 (by decide) rfl hP hS hl.1 rfl rfl (Nat.le_of_ble_eq_true rfl) dX8_say_325 (fun H locs hP hS => ?_)
        refine W.eq (g2 := F0 m 328 ls [.int r25]) rfl ?_
        obtain ⟨rfl, rfl⟩ := some2 h
        exact x_iret C0 hP hS dX8_say_328
      rw [if_neg c24] at h
      by_cases c26 : (BO ((r1 * (4 : Int32)) + x3).toNatClampNeg) = (50 : Int32)
      · rw [if_pos c26] at h
        refine lv_lookup (tgt := 329) (off := 260) hx hb dX8_say_69 (by decide) (by rw [c26]; decide) (by decide) ?_
        refine lv_aload_n hx hb dX8_say_329 rfl (lv_at hl 5 rfl) ?_
        refine lv_aload_n hx hb dX8_say_330 rfl (lv_at hl 6 rfl) ?_
        refine lv_aload_n hx hb dX8_say_331 rfl (lv_at hl 6 rfl) ?_
        refine x_get C0 hP inu2 (k := a1) (id2_0 hi1) (by decide) rfl 2 (by decide) q1_146 rfl (v := .int (μ7 a1 2)) rfl dX8_say_332 ?_
        refine lv_iconst (v := (2 : Int32)) hx hb dX8_say_335 rfl ?_
        refine lv_iload hx hb dX8_say_336 (lv_at hl 9 rfl) ?_
        refine lv_iload hx hb dX8_say_338 (lv_at hl 1 rfl) ?_
        obtain ⟨r27, μ27, h1, h⟩ := ob2_some h
        refine x_callV C0 (rest := []) (q := (RX8, TX8, 2)) (hS0 a1 hi1 (μ7 a1 2) (2 : Int32) x4 (x5 + (1 : Int32)) μ7 _ _ h1) q4_33 q4_30 q4_32 r2_2 q1_9 hd_X8_say ⟨rfl, rfl⟩ ⟨by dsimp only; omega, by dsimp only; omega⟩ cx_83 (by decide) rfl hP hS hl.1 rfl rfl (Nat.le_of_ble_eq_true rfl) dX8_say_340 (fun H locs hP hS => ?_)
        refine W.eq (g2 := F0 m 343 ls [.int r27]) rfl ?_
        refine lv_aload_n hx hb dX8_say_343 rfl (lv_at hl 5 rfl) ?_
        refine lv_aload_n hx hb dX8_say_344 rfl (lv_at hl 6 rfl) ?_
        refine lv_iload hx hb dX8_say_345 (lv_at hl 2 rfl) ?_
        refine lv_iconst (v := (3 : Int32)) hx hb dX8_say_347 rfl ?_
        refine lv_iload hx hb dX8_say_348 (lv_at hl 9 rfl) ?_
        refine lv_iload hx hb dX8_say_350 (lv_at hl 1 rfl) ?_
        obtain ⟨r28, μ28, h1, h⟩ := ob2_some h
        refine x_callV C0 (rest := [.int r27]) (q := (RX8, TX8, 2)) (hS0 a1 hi1 (KA r1.toNatClampNeg) (3 : Int32) x4 (x5 + (1 : Int32)) μ27 _ _ h1) q4_33 q4_30 q4_32 r2_2 q1_9 hd_X8_say ⟨rfl, rfl⟩ ⟨by dsimp only; omega, by dsimp only; omega⟩ cx_83 (by decide) rfl hP hS hl.1 rfl rfl (Nat.le_of_ble_eq_true rfl) dX8_say_352 (fun H locs hP hS => ?_)
        refine W.eq (g2 := F0 m 355 ls [.int r28, .int r27]) rfl ?_
        refine lv_isub hx hb dX8_say_355 ?_
        obtain ⟨rfl, rfl⟩ := some2 h
        exact x_iret C0 hP hS dX8_say_356
      rw [if_neg c26] at h
      by_cases c29 : (BO ((r1 * (4 : Int32)) + x3).toNatClampNeg) = (51 : Int32)
      · rw [if_pos c29] at h
        refine lv_lookup (tgt := 357) (off := 288) hx hb dX8_say_69 (by decide) (by rw [c29]; decide) (by decide) ?_
        refine lv_aload_n hx hb dX8_say_357 rfl (lv_at hl 5 rfl) ?_
        refine lv_aload_n hx hb dX8_say_358 rfl (lv_at hl 6 rfl) ?_
        refine lv_iload hx hb dX8_say_359 (lv_at hl 2 rfl) ?_
        refine lv_iconst (v := (1 : Int32)) hx hb dX8_say_361 rfl ?_
        refine lv_iload hx hb dX8_say_362 (lv_at hl 9 rfl) ?_
        refine lv_iload hx hb dX8_say_364 (lv_at hl 1 rfl) ?_
        obtain ⟨r30, μ30, h1, h⟩ := ob2_some h
        refine x_callV C0 (rest := []) (q := (RX8, TX8, 2)) (hS0 a1 hi1 (KA r1.toNatClampNeg) (1 : Int32) x4 (x5 + (1 : Int32)) μ7 _ _ h1) q4_33 q4_30 q4_32 r2_2 q1_9 hd_X8_say ⟨rfl, rfl⟩ ⟨by dsimp only; omega, by dsimp only; omega⟩ cx_83 (by decide) rfl hP hS hl.1 rfl rfl (Nat.le_of_ble_eq_true rfl) dX8_say_366 (fun H locs hP hS => ?_)
        refine W.eq (g2 := F0 m 369 ls [.int r30]) rfl ?_
        refine lv_aload_n hx hb dX8_say_369 rfl (lv_at hl 5 rfl) ?_
        refine lv_aload_n hx hb dX8_say_370 rfl (lv_at hl 6 rfl) ?_
        refine lv_aload_n hx hb dX8_say_371 rfl (lv_at hl 6 rfl) ?_
        refine x_get C0 hP inu2 (k := a1) (id2_0 hi1) (by decide) rfl 2 (by decide) q1_146 rfl (v := .int (μ30 a1 2)) rfl dX8_say_372 ?_
        refine lv_iconst (v := (0 : Int32)) hx hb dX8_say_375 rfl ?_
        refine lv_iload hx hb dX8_say_376 (lv_at hl 9 rfl) ?_
        refine lv_iload hx hb dX8_say_378 (lv_at hl 1 rfl) ?_
        obtain ⟨r31, μ31, h1, h⟩ := ob2_some h
        refine x_callV C0 (rest := [.int r30]) (q := (RX8, TX8, 2)) (hS0 a1 hi1 (μ30 a1 2) (0 : Int32) x4 (x5 + (1 : Int32)) μ30 _ _ h1) q4_33 q4_30 q4_32 r2_2 q1_9 hd_X8_say ⟨rfl, rfl⟩ ⟨by dsimp only; omega, by dsimp only; omega⟩ cx_83 (by decide) rfl hP hS hl.1 rfl rfl (Nat.le_of_ble_eq_true rfl) dX8_say_380 (fun H locs hP hS => ?_)
        refine W.eq (g2 := F0 m 383 ls [.int r31, .int r30]) rfl ?_
        refine lv_ixor hx hb dX8_say_383 ?_
        obtain ⟨rfl, rfl⟩ := some2 h
        exact x_iret C0 hP hS dX8_say_384
      rw [if_neg c29] at h
      by_cases c32 : (BO ((r1 * (4 : Int32)) + x3).toNatClampNeg) = (60 : Int32)
      · rw [if_pos c32] at h
        refine lv_lookup (tgt := 385) (off := 316) hx hb dX8_say_69 (by decide) (by rw [c32]; decide) (by decide) ?_
        refine lv_aload_n hx hb dX8_say_385 rfl (lv_at hl 5 rfl) ?_
        refine lv_aload_n hx hb dX8_say_386 rfl (lv_at hl 6 rfl) ?_
        refine lv_iload hx hb dX8_say_387 (lv_at hl 2 rfl) ?_
        refine lv_iconst (v := (2 : Int32)) hx hb dX8_say_389 rfl ?_
        refine lv_iload hx hb dX8_say_390 (lv_at hl 9 rfl) ?_
        refine lv_iload hx hb dX8_say_392 (lv_at hl 0 rfl) ?_
        refine lv_isub hx hb dX8_say_394 ?_
        refine lv_iload hx hb dX8_say_395 (lv_at hl 1 rfl) ?_
        obtain ⟨r33, μ33, h1, h⟩ := ob2_some h
        refine x_callV C0 (rest := []) (q := (RX8, TX8, 2)) (hS0 a1 hi1 (KA r1.toNatClampNeg) (2 : Int32) (x4 - ((μ2 a1 3) + (μ2 a1 4))) (x5 + (1 : Int32)) μ7 _ _ h1) q4_33 q4_30 q4_32 r2_2 q1_9 hd_X8_say ⟨rfl, rfl⟩ ⟨by dsimp only; omega, by dsimp only; omega⟩ cx_83 (by decide) rfl hP hS hl.1 rfl rfl (Nat.le_of_ble_eq_true rfl) dX8_say_397 (fun H locs hP hS => ?_)
        refine W.eq (g2 := F0 m 400 ls [.int r33]) rfl ?_
        obtain ⟨rfl, rfl⟩ := some2 h
        exact x_iret C0 hP hS dX8_say_400
      rw [if_neg c32] at h
      have i8 : ¬ (BO ((r1 * (4 : Int32)) + x3).toNatClampNeg).toInt = 10 := fun q => c8 (Int32.toInt_inj.mp (q.trans (by decide)))
      have i9 : ¬ (BO ((r1 * (4 : Int32)) + x3).toNatClampNeg).toInt = 11 := fun q => c9 (Int32.toInt_inj.mp (q.trans (by decide)))
      have i11 : ¬ (BO ((r1 * (4 : Int32)) + x3).toNatClampNeg).toInt = 12 := fun q => c11 (Int32.toInt_inj.mp (q.trans (by decide)))
      have i12 : ¬ (BO ((r1 * (4 : Int32)) + x3).toNatClampNeg).toInt = 13 := fun q => c12 (Int32.toInt_inj.mp (q.trans (by decide)))
      have i15 : ¬ (BO ((r1 * (4 : Int32)) + x3).toNatClampNeg).toInt = 20 := fun q => c15 (Int32.toInt_inj.mp (q.trans (by decide)))
      have i17 : ¬ (BO ((r1 * (4 : Int32)) + x3).toNatClampNeg).toInt = 21 := fun q => c17 (Int32.toInt_inj.mp (q.trans (by decide)))
      have i19 : ¬ (BO ((r1 * (4 : Int32)) + x3).toNatClampNeg).toInt = 30 := fun q => c19 (Int32.toInt_inj.mp (q.trans (by decide)))
      have i22 : ¬ (BO ((r1 * (4 : Int32)) + x3).toNatClampNeg).toInt = 40 := fun q => c22 (Int32.toInt_inj.mp (q.trans (by decide)))
      have i24 : ¬ (BO ((r1 * (4 : Int32)) + x3).toNatClampNeg).toInt = 41 := fun q => c24 (Int32.toInt_inj.mp (q.trans (by decide)))
      have i26 : ¬ (BO ((r1 * (4 : Int32)) + x3).toNatClampNeg).toInt = 50 := fun q => c26 (Int32.toInt_inj.mp (q.trans (by decide)))
      have i29 : ¬ (BO ((r1 * (4 : Int32)) + x3).toNatClampNeg).toInt = 51 := fun q => c29 (Int32.toInt_inj.mp (q.trans (by decide)))
      have i32 : ¬ (BO ((r1 * (4 : Int32)) + x3).toNatClampNeg).toInt = 60 := fun q => c32 (Int32.toInt_inj.mp (q.trans (by decide)))
      refine lv_lookup (tgt := 401) (off := 332) hx hb dX8_say_69 (by decide) (by simp [Op.lookupswitch.offset, Ne.symm i8, Ne.symm i9, Ne.symm i11, Ne.symm i12, Ne.symm i15, Ne.symm i17, Ne.symm i19, Ne.symm i22, Ne.symm i24, Ne.symm i26, Ne.symm i29, Ne.symm i32]) (by decide) ?_
      refine lv_iconst (v := (0 : Int32)) hx hb dX8_say_401 rfl ?_
      obtain ⟨rfl, rfl⟩ := some2 h
      exact x_iret C0 hP hS dX8_say_402
    · rw [if_neg c4] at h
      refine lv_iconst (v := (0 : Int32)) hx hb dX8_say_22 rfl ?_
      obtain ⟨rfl, rfl⟩ := some2 h
      exact x_iret C0 hP hS dX8_say_23
def X8_say : Nat → Nat → Int32 → Int32 → Int32 → Int32 → Mem → Option (Int32 × Mem)
  | 0, _, _, _, _, _, _ => none
  | n + 1, a1, x2, x3, x4, x5, μ => X8_say_body (X8_say n) a1 x2 x3 x4 x5 μ
theorem c_X8_say (l : Launch) (g : Gx) (n : Nat) : ∀ (a1 : Nat) (hi1 : Id2 a1) (x2 : Int32) (x3 : Int32) (x4 : Int32) (x5 : Int32) (μ : Mem) (r : Int32) (ν : Mem), X8_say n a1 x2 x3 x4 x5 μ = some (r, ν) → Ct Lx g l yX8_say cX8_say 11 (some .int) { frames := 2 * n, cells := 0, slots := 0, locals := 43 * n } [.ref (g.2.2.1 + 83), .ref (g.2.2.1 + a1), .int x2, .int x3, .int x4, .int x5] μ (some (.int r)) ν := by
  induction n with
  | zero =>
    intro a1 hi1 x2 x3 x4 x5 μ r ν h
    have h : (none : Option (Int32 × Mem)) = some (r, ν) := h
    cases h
  | succ n ih =>
    intro a1 hi1 x2 x3 x4 x5 μ r ν h
    rw [X8_say.eq_2] at h
    exact c_X8_say_body l g (X8_say n) ih a1 hi1 x2 x3 x4 x5 μ h
def X8_speak (a1 : Nat) (x2 : Int32) (x3 : Int32) (μ : Mem) : Option (Int32 × Mem) :=
  lt (st μ 83 1 (0 : Int32)) fun μ1 => ob2 (X8_say 25 a1 (μ1 a1 2) x2 x3 (0 : Int32) μ1) fun r2 μ2 => some (r2, μ2)
set_option maxRecDepth 100000 in
set_option maxHeartbeats 4000000 in
theorem c_X8_speak (l : Launch) (g : Gx) (a1 : Nat) (hi1 : Id2 a1) (x2 : Int32) (x3 : Int32) (μ : Mem) {r : Int32} {ν : Mem} (h : X8_speak a1 x2 x3 μ = some (r, ν)) : Ct Lx g l yX8_speak cX8_speak 4 (some .int) { frames := 51, cells := 0, slots := 0, locals := 1105 } [.ref (g.2.2.1 + 83), .ref (g.2.2.1 + a1), .int x2, .int x3] μ (some (.int r)) ν := by
  refine x_met (lv := [(0, .ref (g.2.2.1 + 83)), (1, .ref (g.2.2.1 + a1)), (2, .int x2), (3, .int x3)]) rfl (Nat.le_of_ble_eq_true rfl) rfl ?_
  intro p e s m below meth c C0 hP ls hl
  generalize ([.ref (g.2.2.1 + 83), .ref (g.2.2.1 + a1), .int x2, .int x3] : List Value).toArray = args at C0 ⊢
  have C0 : Cx Lx g p s m args meth c cX8_speak 4 (some .int) RX8 := C0
  have hS : va_S (Ax Lx g) s.heap s.heap [] := va_S.rf
  obtain ⟨hx, hb, hr, hml, hown, hts, hlocks, hK⟩ := id C0
  unfold X8_speak at h
  skip
  refine lv_aload_n hx hb dX8_speak_0 rfl (lv_at hl 0 rfl) ?_
  refine lv_iconst (v := (0 : Int32)) hx hb dX8_speak_1 rfl ?_
  obtain ⟨μ1, e1, h⟩ := lt_some h
  refine x_put C0 hP hS inu8 tyX8 tyX8_ok nmX8 (k := 83) cx_83 (by decide) rfl 1 (by decide) q2_54 rfl rfl (v := .int (0 : Int32)) (x := (0 : Int32)) rfl rfl (Nat.le_of_ble_eq_true rfl) (os_8_1 _ _ _ _) dX8_speak_2 (fun H locs hP hS => ?_)
  rw [← e1] at hP
  refine lv_aload_n hx hb dX8_speak_5 rfl (lv_at hl 0 rfl) ?_
  refine lv_aload_n hx hb dX8_speak_6 rfl (lv_at hl 1 rfl) ?_
  refine lv_aload_n hx hb dX8_speak_7 rfl (lv_at hl 1 rfl) ?_
  refine x_get C0 hP inu2 (k := a1) (id2_0 hi1) (by decide) rfl 2 (by decide) q1_146 rfl (v := .int (μ1 a1 2)) rfl dX8_speak_8 ?_
  refine lv_iload_n hx hb dX8_speak_11 rfl (lv_at hl 2 rfl) ?_
  refine lv_iload_n hx hb dX8_speak_12 rfl (lv_at hl 3 rfl) ?_
  refine lv_iconst (v := (0 : Int32)) hx hb dX8_speak_13 rfl ?_
  obtain ⟨r2, μ2, h1, h⟩ := ob2_some h
  refine x_callV C0 (rest := []) (q := (RX8, TX8, 2)) (c_X8_say l g 25 a1 hi1 (μ1 a1 2) x2 x3 (0 : Int32) μ1 _ _ h1) q4_33 q4_30 q4_32 r2_2 q1_9 hd_X8_say ⟨rfl, rfl⟩ ⟨Nat.le_of_ble_eq_true rfl, Nat.le_of_ble_eq_true rfl⟩ cx_83 (by decide) rfl hP hS hl.1 rfl rfl (Nat.le_of_ble_eq_true rfl) dX8_speak_14 (fun H locs hP hS => ?_)
  refine W.eq (g2 := F0 m 17 ls [.int r2]) rfl ?_
  obtain ⟨rfl, rfl⟩ := some2 h
  exact x_iret C0 hP hS dX8_speak_17
def X9_isPlace (x0 : Int32) (μ : Mem) : Option (Int32 × Mem) :=
  (if x0 < (0 : Int32) then some ((0 : Int32), μ) else (if (30 : Int32) < (x0 / (100 : Int32)) then some ((0 : Int32), μ) else (if (30 : Int32) < (x0 - x0 / (100 : Int32) * (100 : Int32)) then some ((0 : Int32), μ) else some ((1 : Int32), μ))))
set_option maxRecDepth 100000 in
set_option maxHeartbeats 4000000 in
theorem c_X9_isPlace (l : Launch) (g : Gx) (x0 : Int32) (μ : Mem) {r : Int32} {ν : Mem} (h : X9_isPlace x0 μ = some (r, ν)) : Ct Lx g l yX9_isPlace cX9_isPlace 1 (some .boolean) { frames := 0, cells := 0, slots := 0, locals := 0 } [.int x0] μ (some (.int r)) ν := by
  refine x_met (lv := [(0, .int x0)]) rfl (Nat.le_of_ble_eq_true rfl) rfl ?_
  intro p e s m below meth c C0 hP ls hl
  generalize ([.int x0] : List Value).toArray = args at C0 ⊢
  have C0 : Cx Lx g p s m args meth c cX9_isPlace 1 (some .boolean) RX9 := C0
  have hS : va_S (Ax Lx g) s.heap s.heap [] := va_S.rf
  obtain ⟨hx, hb, hr, hml, hown, hts, hlocks, hK⟩ := id C0
  unfold X9_isPlace at h
  skip
  refine lv_iload_n hx hb dX9_isPlace_0 rfl (lv_at hl 0 rfl) ?_
  refine lv_if_lt (tgt := 26) hx hb dX9_isPlace_1 (by decide) (fun c1 => ?_) (fun c1 => ?_)
  · rw [if_pos c1] at h
    refine lv_iconst (v := (0 : Int32)) hx hb dX9_isPlace_26 rfl ?_
    obtain ⟨rfl, rfl⟩ := some2 h
    exact x_zret C0 hP hS (by decide) dX9_isPlace_27
  · rw [if_neg c1] at h
    refine lv_iload_n hx hb dX9_isPlace_4 rfl (lv_at hl 0 rfl) ?_
    refine lv_bipush (v := (100 : Int32)) hx hb dX9_isPlace_5 (by decide +kernel) ?_
    refine lv_idiv hx hb dX9_isPlace_7 (by decide) ?_
    refine lv_bipush (v := (30 : Int32)) hx hb dX9_isPlace_8 (by decide +kernel) ?_
    refine lv_icmp_gt (tgt := 26) hx hb dX9_isPlace_10 (by decide) (fun c2 => ?_) (fun c2 => ?_)
    · rw [if_pos c2] at h
      refine lv_iconst (v := (0 : Int32)) hx hb dX9_isPlace_26 rfl ?_
      obtain ⟨rfl, rfl⟩ := some2 h
      exact x_zret C0 hP hS (by decide) dX9_isPlace_27
    · rw [if_neg c2] at h
      refine lv_iload_n hx hb dX9_isPlace_13 rfl (lv_at hl 0 rfl) ?_
      refine lv_bipush (v := (100 : Int32)) hx hb dX9_isPlace_14 (by decide +kernel) ?_
      refine lv_irem hx hb dX9_isPlace_16 (by decide) ?_
      refine lv_bipush (v := (30 : Int32)) hx hb dX9_isPlace_17 (by decide +kernel) ?_
      refine lv_icmp_gt (tgt := 26) hx hb dX9_isPlace_19 (by decide) (fun c3 => ?_) (fun c3 => ?_)
      · rw [if_pos c3] at h
        refine lv_iconst (v := (0 : Int32)) hx hb dX9_isPlace_26 rfl ?_
        obtain ⟨rfl, rfl⟩ := some2 h
        exact x_zret C0 hP hS (by decide) dX9_isPlace_27
      · rw [if_neg c3] at h
        refine lv_iconst (v := (1 : Int32)) hx hb dX9_isPlace_22 rfl ?_
        refine lv_goto (tgt := 27) hx hb dX9_isPlace_23 (by decide) ?_
        obtain ⟨rfl, rfl⟩ := some2 h
        exact x_zret C0 hP hS (by decide) dX9_isPlace_27
def X9_finding_23  (x1 : Int32) (μ : Mem) : Option (Int32 × Mem) :=
  some (((-1000000 : Int32) - x1), μ)
set_option maxRecDepth 100000 in
set_option maxHeartbeats 4000000 in
theorem w_X9_finding_23 {g : Gx} {p : Program} {l : Launch} {e : Env} {s : State} {m : MethodId} {args : Array Value} {below : List Frame} {meth : Method} {c : Code} (C0 : Cx Lx g p s m args meth c cX9_finding 2 (some .int) RX9) {r : Int32} {ν : Mem}  (x1 : Int32) (μ : Mem) (H : Heap) (locs : List Loc) (ls : Array Slot) (hP : Px Lx g μ H) (hS : va_S (Ax Lx g) s.heap H locs) (hl : lv_has ls 2 [(1, .int x1)]) (h : X9_finding_23  x1 μ = some (r, ν)) : W p l e { frames := 0, cells := 0, slots := 0, locals := 0 } s m args below meth c H locs 0 0 (MQ below (Qx Lx g (some (.int r)) ν) args s 0 0 (Ax Lx g)) (F0 m 23 ls []) := by
  obtain ⟨hx, hb, hr, hml, hown, hts, hlocks, hK⟩ := id C0
  unfold X9_finding_23 at h
  refine lv_ldcw (v := (-1000000 : Int32)) hx hb hown (hts _ q2_123) dX9_finding_23 ?_
  refine lv_iload_n hx hb dX9_finding_26 rfl (lv_at hl 0 rfl) ?_
  refine lv_isub hx hb dX9_finding_27 ?_
  obtain ⟨rfl, rfl⟩ := some2 h
  exact x_iret C0 hP hS dX9_finding_28
def X9_finding (x1 : Int32) (μ : Mem) : Option (Int32 × Mem) :=
  (if x1 < (0 : Int32) then X9_finding_23 x1 μ else (if (6 : Int32) ≤ x1 then X9_finding_23 x1 μ else gd (inB x1 6) (gd (inB x1 6) (lt (st μ 86 x1.toNatClampNeg ((μ 86 x1.toNatClampNeg) + (1 : Int32))) fun μ5 => X9_finding_23 x1 μ5))))
set_option maxRecDepth 100000 in
set_option maxHeartbeats 4000000 in
theorem c_X9_finding (l : Launch) (g : Gx) (x1 : Int32) (μ : Mem) {r : Int32} {ν : Mem} (h : X9_finding x1 μ = some (r, ν)) : Ct Lx g l yX9_finding cX9_finding 2 (some .int) { frames := 0, cells := 0, slots := 0, locals := 0 } [.ref (g.2.2.1 + 0), .int x1] μ (some (.int r)) ν := by
  refine x_met (lv := [(0, .ref (g.2.2.1 + 0)), (1, .int x1)]) rfl (Nat.le_of_ble_eq_true rfl) rfl ?_
  intro p e s m below meth c C0 hP ls hl
  generalize ([.ref (g.2.2.1 + 0), .int x1] : List Value).toArray = args at C0 ⊢
  have C0 : Cx Lx g p s m args meth c cX9_finding 2 (some .int) RX9 := C0
  have hS : va_S (Ax Lx g) s.heap s.heap [] := va_S.rf
  obtain ⟨hx, hb, hr, hml, hown, hts, hlocks, hK⟩ := id C0
  unfold X9_finding at h
  skip
  refine lv_iload_n hx hb dX9_finding_0 rfl (lv_at hl 1 rfl) ?_
  refine lv_if_lt (tgt := 23) hx hb dX9_finding_1 (by decide) (fun c1 => ?_) (fun c1 => ?_)
  · rw [if_pos c1] at h
    exact w_X9_finding_23 C0  x1 μ _ _ _ hP hS (lv_sub hl [1] rfl) h
  · rw [if_neg c1] at h
    refine lv_iload_n hx hb dX9_finding_4 rfl (lv_at hl 1 rfl) ?_
    refine lv_aload_n hx hb dX9_finding_5 rfl (lv_at hl 0 rfl) ?_
    refine x_get C0 hP inu9 (k := 0) cx_0 (by decide) rfl 6 (by decide) q2_87 rfl (v := .ref (g.2.2.1 + 86)) rfl dX9_finding_6 ?_
    refine x_alen C0 hP (k := 86) (Or.inl cx_86) (v := (6 : Int32)) rfl dX9_finding_9 ?_
    refine lv_icmp_ge (tgt := 23) hx hb dX9_finding_10 (by decide) (fun c2 => ?_) (fun c2 => ?_)
    · rw [if_pos c2] at h
      exact w_X9_finding_23 C0  x1 μ _ _ _ hP hS (lv_sub hl [1] rfl) h
    · rw [if_neg c2] at h
      refine lv_aload_n hx hb dX9_finding_13 rfl (lv_at hl 0 rfl) ?_
      refine x_get C0 hP inu9 (k := 0) cx_0 (by decide) rfl 6 (by decide) q2_87 rfl (v := .ref (g.2.2.1 + 86)) rfl dX9_finding_14 ?_
      refine lv_iload_n hx hb dX9_finding_17 rfl (lv_at hl 1 rfl) ?_
      refine lv_dup2_11 hx hb dX9_finding_18 rfl rfl ?_
      obtain ⟨z3, h⟩ := gd_some h
      refine x_iald C0 hP (k := 86) cx_86 (j := x1.toNatClampNeg) z3 rfl dX9_finding_19 ?_
      refine lv_iconst (v := (1 : Int32)) hx hb dX9_finding_20 rfl ?_
      refine lv_iadd hx hb dX9_finding_21 ?_
      obtain ⟨z4, h⟩ := gd_some h
      obtain ⟨μ5, e5, h⟩ := lt_some h
      refine x_iast C0 hP hS (k := 86) cx_86 (j := x1.toNatClampNeg) z4 rfl dX9_finding_22 (fun H locs hP hS => ?_)
      rw [← e5] at hP
      exact w_X9_finding_23 C0  x1 μ5 _ _ _ hP hS (lv_sub hl [1] rfl) h
def X9_meter_14   (μ : Mem) : Option (Int32 × Mem) :=
  ob2 (X9_finding (1 : Int32) μ) fun r3 μ3 => some (r3, μ3)
set_option maxRecDepth 100000 in
set_option maxHeartbeats 4000000 in
theorem w_X9_meter_14 {g : Gx} {p : Program} {l : Launch} {e : Env} {s : State} {m : MethodId} {args : Array Value} {below : List Frame} {meth : Method} {c : Code} (C0 : Cx Lx g p s m args meth c cX9_meter 3 (some .int) RX9) {r : Int32} {ν : Mem}   (μ : Mem) (H : Heap) (locs : List Loc) (ls : Array Slot) (hP : Px Lx g μ H) (hS : va_S (Ax Lx g) s.heap H locs) (hl : lv_has ls 3 [(0, .ref (g.2.2.1 + 0))]) (h : X9_meter_14   μ = some (r, ν)) : W p l e { frames := 2, cells := 0, slots := 0, locals := 47 } s m args below meth c H locs 0 0 (MQ below (Qx Lx g (some (.int r)) ν) args s 0 0 (Ax Lx g)) (F0 m 14 ls []) := by
  obtain ⟨hx, hb, hr, hml, hown, hts, hlocks, hK⟩ := id C0
  unfold X9_meter_14 at h
  refine lv_aload_n hx hb dX9_meter_14 rfl (lv_at hl 0 rfl) ?_
  refine lv_iconst (v := (1 : Int32)) hx hb dX9_meter_15 rfl ?_
  obtain ⟨r3, μ3, h1, h⟩ := ob2_some h
  refine x_callV C0 (rest := []) (q := (RX9, TX9, 9)) (c_X9_finding l g (1 : Int32) μ h1) q2_122 q2_119 q2_121 r1_0 q1_1 hd_X9_finding ⟨rfl, rfl⟩ ⟨Nat.le_of_ble_eq_true rfl, Nat.le_of_ble_eq_true rfl⟩ cx_0 (by decide) rfl hP hS hl.1 rfl rfl (Nat.le_of_ble_eq_true rfl) dX9_meter_16 (fun H locs hP hS => ?_)
  refine W.eq (g2 := F0 m 19 ls [.int r3]) rfl ?_
  obtain ⟨rfl, rfl⟩ := some2 h
  exact x_iret C0 hP hS dX9_meter_19
def X9_meter (x1 : Int32) (x2 : Int32) (μ : Mem) : Option (Int32 × Mem) :=
  ob2 (X9_isKind x1 μ) fun r1 μ1 => (if r1 = (0 : Int32) then X9_meter_14 μ1 else ob2 (X9_isPlace x2 μ1) fun r4 μ4 => (if r4 = (0 : Int32) then X9_meter_14 μ4 else (if (μ4 1 6) < (8 : Int32) then ob2 (X7_addMeter x1 x2 μ4) fun r7 μ7 => some (r7, μ7) else ob2 (X9_finding (4 : Int32) μ4) fun r8 μ8 => some (r8, μ8))))
set_option maxRecDepth 100000 in
set_option maxHeartbeats 4000000 in
theorem c_X9_meter (l : Launch) (g : Gx) (x1 : Int32) (x2 : Int32) (μ : Mem) {r : Int32} {ν : Mem} (h : X9_meter x1 x2 μ = some (r, ν)) : Ct Lx g l yX9_meter cX9_meter 3 (some .int) { frames := 2, cells := 0, slots := 0, locals := 47 } [.ref (g.2.2.1 + 0), .int x1, .int x2] μ (some (.int r)) ν := by
  refine x_met (lv := [(0, .ref (g.2.2.1 + 0)), (1, .int x1), (2, .int x2)]) rfl (Nat.le_of_ble_eq_true rfl) rfl ?_
  intro p e s m below meth c C0 hP ls hl
  generalize ([.ref (g.2.2.1 + 0), .int x1, .int x2] : List Value).toArray = args at C0 ⊢
  have C0 : Cx Lx g p s m args meth c cX9_meter 3 (some .int) RX9 := C0
  have hS : va_S (Ax Lx g) s.heap s.heap [] := va_S.rf
  obtain ⟨hx, hb, hr, hml, hown, hts, hlocks, hK⟩ := id C0
  unfold X9_meter at h
  skip
  refine lv_iload_n hx hb dX9_meter_0 rfl (lv_at hl 1 rfl) ?_
  obtain ⟨r1, μ1, h1, h⟩ := ob2_some h
  refine x_callS C0 (rest := []) (c_X9_isKind l g x1 μ h1) q2_115 q2_113 q2_114 q1_1 hd_X9_isKind ⟨rfl, rfl⟩ ⟨Nat.le_of_ble_eq_true rfl, Nat.le_of_ble_eq_true rfl⟩ hP hS hl.1 rfl rfl (Nat.le_of_ble_eq_true rfl) dX9_meter_1 (fun H locs hP hS => ?_)
  refine W.eq (g2 := F0 m 4 ls [.int r1]) rfl ?_
  refine lv_if_eq (tgt := 14) hx hb dX9_meter_4 (by decide) (fun c2 => ?_) (fun c2 => ?_)
  · rw [if_pos c2] at h
    exact w_X9_meter_14 C0   μ1 _ _ _ hP hS (lv_sub hl [0] rfl) h
  · rw [if_neg c2] at h
    refine lv_iload_n hx hb dX9_meter_7 rfl (lv_at hl 2 rfl) ?_
    obtain ⟨r4, μ4, h1, h⟩ := ob2_some h
    refine x_callS C0 (rest := []) (c_X9_isPlace l g x2 μ1 h1) q2_118 q2_116 q2_117 q1_1 hd_X9_isPlace ⟨rfl, rfl⟩ ⟨Nat.le_of_ble_eq_true rfl, Nat.le_of_ble_eq_true rfl⟩ hP hS hl.1 rfl rfl (Nat.le_of_ble_eq_true rfl) dX9_meter_8 (fun H locs hP hS => ?_)
    refine W.eq (g2 := F0 m 11 ls [.int r4]) rfl ?_
    refine lv_if_ne (tgt := 20) hx hb dX9_meter_11 (by decide) (fun c5 => ?_) (fun c5 => ?_)
    · rw [if_neg c5] at h
      refine lv_aload_n hx hb dX9_meter_20 rfl (lv_at hl 0 rfl) ?_
      refine x_get C0 hP inu9 (k := 0) cx_0 (by decide) rfl 0 (by decide) q2_81 rfl (v := .ref (g.2.2.1 + 1)) rfl dX9_meter_21 ?_
      refine x_get C0 hP inu7 (k := 1) cx_1 (by decide) rfl 6 (by decide) q1_233 rfl (v := .int (μ4 1 6)) rfl dX9_meter_24 ?_
      refine lv_bipush (v := (8 : Int32)) hx hb dX9_meter_27 (by decide +kernel) ?_
      refine lv_icmp_lt (tgt := 38) hx hb dX9_meter_29 (by decide) (fun c6 => ?_) (fun c6 => ?_)
      · rw [if_pos c6] at h
        refine lv_aload_n hx hb dX9_meter_38 rfl (lv_at hl 0 rfl) ?_
        refine x_get C0 hP inu9 (k := 0) cx_0 (by decide) rfl 0 (by decide) q2_81 rfl (v := .ref (g.2.2.1 + 1)) rfl dX9_meter_39 ?_
        refine lv_iload_n hx hb dX9_meter_42 rfl (lv_at hl 1 rfl) ?_
        refine lv_iload_n hx hb dX9_meter_43 rfl (lv_at hl 2 rfl) ?_
        obtain ⟨r7, μ7, h1, h⟩ := ob2_some h
        refine x_callV C0 (rest := []) (q := (RX7, TX7, 9)) (c_X7_addMeter l g x1 x2 μ4 h1) q2_127 q2_124 q2_125 q2_126 q1_2 hd_X7_addMeter ⟨rfl, rfl⟩ ⟨Nat.le_of_ble_eq_true rfl, Nat.le_of_ble_eq_true rfl⟩ cx_1 (by decide) rfl hP hS hl.1 rfl rfl (Nat.le_of_ble_eq_true rfl) dX9_meter_44 (fun H locs hP hS => ?_)
        refine W.eq (g2 := F0 m 47 ls [.int r7]) rfl ?_
        obtain ⟨rfl, rfl⟩ := some2 h
        exact x_iret C0 hP hS dX9_meter_47
      · rw [if_neg c6] at h
        refine lv_aload_n hx hb dX9_meter_32 rfl (lv_at hl 0 rfl) ?_
        refine lv_iconst (v := (4 : Int32)) hx hb dX9_meter_33 rfl ?_
        obtain ⟨r8, μ8, h1, h⟩ := ob2_some h
        refine x_callV C0 (rest := []) (q := (RX9, TX9, 9)) (c_X9_finding l g (4 : Int32) μ4 h1) q2_122 q2_119 q2_121 r1_0 q1_1 hd_X9_finding ⟨rfl, rfl⟩ ⟨Nat.le_of_ble_eq_true rfl, Nat.le_of_ble_eq_true rfl⟩ cx_0 (by decide) rfl hP hS hl.1 rfl rfl (Nat.le_of_ble_eq_true rfl) dX9_meter_34 (fun H locs hP hS => ?_)
        refine W.eq (g2 := F0 m 37 ls [.int r8]) rfl ?_
        obtain ⟨rfl, rfl⟩ := some2 h
        exact x_iret C0 hP hS dX9_meter_37
    · rw [if_pos c5] at h
      exact w_X9_meter_14 C0   μ4 _ _ _ hP hS (lv_sub hl [0] rfl) h
def X9_as_18   (μ : Mem) : Option (Int32 × Mem) :=
  ob2 (X9_finding (1 : Int32) μ) fun r3 μ3 => some (r3, μ3)
set_option maxRecDepth 100000 in
set_option maxHeartbeats 4000000 in
theorem w_X9_as_18 {g : Gx} {p : Program} {l : Launch} {e : Env} {s : State} {m : MethodId} {args : Array Value} {below : List Frame} {meth : Method} {c : Code} (C0 : Cx Lx g p s m args meth c cX9_as 4 (some .int) RX9) {r : Int32} {ν : Mem}   (μ : Mem) (H : Heap) (locs : List Loc) (ls : Array Slot) (hP : Px Lx g μ H) (hS : va_S (Ax Lx g) s.heap H locs) (hl : lv_has ls 4 [(0, .ref (g.2.2.1 + 0))]) (h : X9_as_18   μ = some (r, ν)) : W p l e { frames := 2, cells := 0, slots := 0, locals := 43 } s m args below meth c H locs 0 0 (MQ below (Qx Lx g (some (.int r)) ν) args s 0 0 (Ax Lx g)) (F0 m 18 ls []) := by
  obtain ⟨hx, hb, hr, hml, hown, hts, hlocks, hK⟩ := id C0
  unfold X9_as_18 at h
  refine lv_aload_n hx hb dX9_as_18 rfl (lv_at hl 0 rfl) ?_
  refine lv_iconst (v := (1 : Int32)) hx hb dX9_as_19 rfl ?_
  obtain ⟨r3, μ3, h1, h⟩ := ob2_some h
  refine x_callV C0 (rest := []) (q := (RX9, TX9, 9)) (c_X9_finding l g (1 : Int32) μ h1) q2_122 q2_119 q2_121 r1_0 q1_1 hd_X9_finding ⟨rfl, rfl⟩ ⟨Nat.le_of_ble_eq_true rfl, Nat.le_of_ble_eq_true rfl⟩ cx_0 (by decide) rfl hP hS hl.1 rfl rfl (Nat.le_of_ble_eq_true rfl) dX9_as_20 (fun H locs hP hS => ?_)
  refine W.eq (g2 := F0 m 23 ls [.int r3]) rfl ?_
  obtain ⟨rfl, rfl⟩ := some2 h
  exact x_iret C0 hP hS dX9_as_23
def X9_as (x1 : Int32) (x2 : Int32) (μ : Mem) : Option (Int32 × Mem) :=
  ob2 (X7_hasMeter x1 μ) fun r1 μ1 => (if r1 = (0 : Int32) then X9_as_18 μ1 else ob2 (X9_isKind x2 μ1) fun r4 μ4 => (if r4 = (0 : Int32) then X9_as_18 μ4 else gd (inB x1 8) (ob2 (X2_isOf (24 + 2 * x1.toNatClampNeg) x2 μ4) fun r7 μ7 => (if r7 = (0 : Int32) then ob2 (X9_finding (5 : Int32) μ7) fun r9 μ9 => some (r9, μ9) else some ((μ7 (24 + 2 * x1.toNatClampNeg) 5), μ7)))))
set_option maxRecDepth 100000 in
set_option maxHeartbeats 4000000 in
theorem c_X9_as (l : Launch) (g : Gx) (x1 : Int32) (x2 : Int32) (μ : Mem) {r : Int32} {ν : Mem} (h : X9_as x1 x2 μ = some (r, ν)) : Ct Lx g l yX9_as cX9_as 4 (some .int) { frames := 2, cells := 0, slots := 0, locals := 43 } [.ref (g.2.2.1 + 0), .int x1, .int x2] μ (some (.int r)) ν := by
  refine x_met (lv := [(0, .ref (g.2.2.1 + 0)), (1, .int x1), (2, .int x2)]) rfl (Nat.le_of_ble_eq_true rfl) rfl ?_
  intro p e s m below meth c C0 hP ls hl
  generalize ([.ref (g.2.2.1 + 0), .int x1, .int x2] : List Value).toArray = args at C0 ⊢
  have C0 : Cx Lx g p s m args meth c cX9_as 4 (some .int) RX9 := C0
  have hS : va_S (Ax Lx g) s.heap s.heap [] := va_S.rf
  obtain ⟨hx, hb, hr, hml, hown, hts, hlocks, hK⟩ := id C0
  unfold X9_as at h
  skip
  refine lv_aload_n hx hb dX9_as_0 rfl (lv_at hl 0 rfl) ?_
  refine x_get C0 hP inu9 (k := 0) cx_0 (by decide) rfl 0 (by decide) q2_81 rfl (v := .ref (g.2.2.1 + 1)) rfl dX9_as_1 ?_
  refine lv_iload_n hx hb dX9_as_4 rfl (lv_at hl 1 rfl) ?_
  obtain ⟨r1, μ1, h1, h⟩ := ob2_some h
  refine x_callV C0 (rest := []) (q := (RX7, TX7, 9)) (c_X7_hasMeter l g x1 μ h1) q2_143 q2_140 q2_141 q2_142 q1_2 hd_X7_hasMeter ⟨rfl, rfl⟩ ⟨Nat.le_of_ble_eq_true rfl, Nat.le_of_ble_eq_true rfl⟩ cx_1 (by decide) rfl hP hS hl.1 rfl rfl (Nat.le_of_ble_eq_true rfl) dX9_as_5 (fun H locs hP hS => ?_)
  refine W.eq (g2 := F0 m 8 ls [.int r1]) rfl ?_
  refine lv_if_eq (tgt := 18) hx hb dX9_as_8 (by decide) (fun c2 => ?_) (fun c2 => ?_)
  · rw [if_pos c2] at h
    exact w_X9_as_18 C0   μ1 _ _ _ hP hS (lv_sub hl [0] rfl) h
  · rw [if_neg c2] at h
    refine lv_iload_n hx hb dX9_as_11 rfl (lv_at hl 2 rfl) ?_
    obtain ⟨r4, μ4, h1, h⟩ := ob2_some h
    refine x_callS C0 (rest := []) (c_X9_isKind l g x2 μ1 h1) q2_115 q2_113 q2_114 q1_1 hd_X9_isKind ⟨rfl, rfl⟩ ⟨Nat.le_of_ble_eq_true rfl, Nat.le_of_ble_eq_true rfl⟩ hP hS hl.1 rfl rfl (Nat.le_of_ble_eq_true rfl) dX9_as_12 (fun H locs hP hS => ?_)
    refine W.eq (g2 := F0 m 15 ls [.int r4]) rfl ?_
    refine lv_if_ne (tgt := 24) hx hb dX9_as_15 (by decide) (fun c5 => ?_) (fun c5 => ?_)
    · rw [if_neg c5] at h
      refine lv_aload_n hx hb dX9_as_24 rfl (lv_at hl 0 rfl) ?_
      refine x_get C0 hP inu9 (k := 0) cx_0 (by decide) rfl 0 (by decide) q2_81 rfl (v := .ref (g.2.2.1 + 1)) rfl dX9_as_25 ?_
      refine x_get C0 hP inu7 (k := 1) cx_1 (by decide) rfl 0 (by decide) q1_221 rfl (v := .ref (g.2.2.1 + 2)) rfl dX9_as_28 ?_
      refine lv_iload_n hx hb dX9_as_31 rfl (lv_at hl 1 rfl) ?_
      obtain ⟨z6, h⟩ := gd_some h
      refine x_maald C0 hP (k := 2) cx_2 (j := x1.toNatClampNeg) z6 rfl dX9_as_32 ?_
      refine W.eq (g2 := F0 m 33 ls [.ref (g.2.2.1 + (24 + 2 * x1.toNatClampNeg))]) rfl ?_
      refine lv_astore_n (lv' := [(3, .ref (g.2.2.1 + (24 + 2 * x1.toNatClampNeg))), (0, .ref (g.2.2.1 + 0)), (1, .int x1), (2, .int x2)]) hx hb dX9_as_33 rfl hl (by decide) rfl (fun ls hl => ?_)
      refine lv_aload_n hx hb dX9_as_34 rfl (lv_at hl 0 rfl) ?_
      refine lv_iload_n hx hb dX9_as_35 rfl (lv_at hl 3 rfl) ?_
      obtain ⟨r7, μ7, h1, h⟩ := ob2_some h
      refine x_callV C0 (rest := []) (q := (RX2, TX2, 15)) (c_X2_isOf l g (24 + 2 * x1.toNatClampNeg) (met_i z6) x2 μ4 h1) q2_147 q2_144 q2_145 q2_146 q1_7 hd_X2_isOf ⟨rfl, rfl⟩ ⟨Nat.le_of_ble_eq_true rfl, Nat.le_of_ble_eq_true rfl⟩ (id2_0 (met_i z6)) (by decide) rfl hP hS hl.1 rfl rfl (Nat.le_of_ble_eq_true rfl) dX9_as_36 (fun H locs hP hS => ?_)
      refine W.eq (g2 := F0 m 39 ls [.int r7]) rfl ?_
      refine lv_if_ne (tgt := 48) hx hb dX9_as_39 (by decide) (fun c8 => ?_) (fun c8 => ?_)
      · rw [if_neg c8] at h
        refine lv_aload_n hx hb dX9_as_48 rfl (lv_at hl 0 rfl) ?_
        refine x_get C0 hP inu2 (k := (24 + 2 * x1.toNatClampNeg)) (id2_0 (met_i z6)) (by decide) rfl 5 (by decide) q1_157 rfl (v := .int (μ7 (24 + 2 * x1.toNatClampNeg) 5)) rfl dX9_as_49 ?_
        obtain ⟨rfl, rfl⟩ := some2 h
        exact x_iret C0 hP hS dX9_as_52
      · rw [if_pos c8] at h
        refine lv_aload_n hx hb dX9_as_42 rfl (lv_at hl 1 rfl) ?_
        refine lv_iconst (v := (5 : Int32)) hx hb dX9_as_43 rfl ?_
        obtain ⟨r9, μ9, h1, h⟩ := ob2_some h
        refine x_callV C0 (rest := []) (q := (RX9, TX9, 9)) (c_X9_finding l g (5 : Int32) μ7 h1) q2_122 q2_119 q2_121 r1_0 q1_1 hd_X9_finding ⟨rfl, rfl⟩ ⟨Nat.le_of_ble_eq_true rfl, Nat.le_of_ble_eq_true rfl⟩ cx_0 (by decide) rfl hP hS hl.1 rfl rfl (Nat.le_of_ble_eq_true rfl) dX9_as_44 (fun H locs hP hS => ?_)
        refine W.eq (g2 := F0 m 47 ls [.int r9]) rfl ?_
        obtain ⟨rfl, rfl⟩ := some2 h
        exact x_iret C0 hP hS dX9_as_47
    · rw [if_pos c5] at h
      exact w_X9_as_18 C0   μ4 _ _ _ hP hS (lv_sub hl [0] rfl) h
def X9_meterIs (x1 : Int32) (x2 : Int32) (μ : Mem) : Option (Int32 × Mem) :=
  ob2 (X7_hasMeter x1 μ) fun r1 μ1 => (if r1 = (0 : Int32) then ob2 (X9_finding (1 : Int32) μ1) fun r22 μ22 => some (r22, μ22) else gd (inB x1 8) ((if x2 = (0 : Int32) then some ((μ1 (24 + 2 * x1.toNatClampNeg) 2), μ1) else (if x2 = (1 : Int32) then some ((μ1 (24 + 2 * x1.toNatClampNeg) 5), μ1) else (if x2 = (2 : Int32) then some ((μ1 (24 + 2 * x1.toNatClampNeg) 6), μ1) else (if x2 = (3 : Int32) then some ((μ1 (24 + 2 * x1.toNatClampNeg) 7), μ1) else (if x2 = (4 : Int32) then (if (μ1 (24 + 2 * x1.toNatClampNeg) 8) = (0 : Int32) then some ((0 : Int32), μ1) else some ((1 : Int32), μ1)) else (if x2 = (5 : Int32) then (if (μ1 (24 + 2 * x1.toNatClampNeg) 9) = (0 : Int32) then some ((0 : Int32), μ1) else some ((1 : Int32), μ1)) else (if x2 = (6 : Int32) then some ((μ1 (24 + 2 * x1.toNatClampNeg) 10), μ1) else (if x2 = (7 : Int32) then some ((μ1 (24 + 2 * x1.toNatClampNeg) 11), μ1) else (if x2 = (8 : Int32) then some ((μ1 (24 + 2 * x1.toNatClampNeg) 12), μ1) else (if x2 = (9 : Int32) then some ((μ1 (24 + 2 * x1.toNatClampNeg) 13), μ1) else (if x2 = (10 : Int32) then ob2 (X1_ruling (0 : Int32) (μ1 1 8) μ1) fun r17 μ17 => ob2 (X2_loadedUnder (24 + 2 * x1.toNatClampNeg) r17 μ17) fun r18 μ18 => some (r18, μ18) else (if x2 = (11 : Int32) then ob2 (X2_limit (24 + 2 * x1.toNatClampNeg) μ1) fun r20 μ20 => some (r20, μ20) else ob2 (X9_finding (1 : Int32) μ1) fun r21 μ21 => some (r21, μ21)))))))))))))))
set_option maxRecDepth 100000 in
set_option maxHeartbeats 4000000 in
theorem c_X9_meterIs (l : Launch) (g : Gx) (x1 : Int32) (x2 : Int32) (μ : Mem) {r : Int32} {ν : Mem} (h : X9_meterIs x1 x2 μ = some (r, ν)) : Ct Lx g l yX9_meterIs cX9_meterIs 4 (some .int) { frames := 2, cells := 0, slots := 0, locals := 41 } [.ref (g.2.2.1 + 0), .int x1, .int x2] μ (some (.int r)) ν := by
  refine x_met (lv := [(0, .ref (g.2.2.1 + 0)), (1, .int x1), (2, .int x2)]) rfl (Nat.le_of_ble_eq_true rfl) rfl ?_
  intro p e s m below meth c C0 hP ls hl
  generalize ([.ref (g.2.2.1 + 0), .int x1, .int x2] : List Value).toArray = args at C0 ⊢
  have C0 : Cx Lx g p s m args meth c cX9_meterIs 4 (some .int) RX9 := C0
  have hS : va_S (Ax Lx g) s.heap s.heap [] := va_S.rf
  obtain ⟨hx, hb, hr, hml, hown, hts, hlocks, hK⟩ := id C0
  unfold X9_meterIs at h
  skip
  refine lv_aload_n hx hb dX9_meterIs_0 rfl (lv_at hl 0 rfl) ?_
  refine x_get C0 hP inu9 (k := 0) cx_0 (by decide) rfl 0 (by decide) q2_81 rfl (v := .ref (g.2.2.1 + 1)) rfl dX9_meterIs_1 ?_
  refine lv_iload_n hx hb dX9_meterIs_4 rfl (lv_at hl 1 rfl) ?_
  obtain ⟨r1, μ1, h1, h⟩ := ob2_some h
  refine x_callV C0 (rest := []) (q := (RX7, TX7, 9)) (c_X7_hasMeter l g x1 μ h1) q2_143 q2_140 q2_141 q2_142 q1_2 hd_X7_hasMeter ⟨rfl, rfl⟩ ⟨Nat.le_of_ble_eq_true rfl, Nat.le_of_ble_eq_true rfl⟩ cx_1 (by decide) rfl hP hS hl.1 rfl rfl (Nat.le_of_ble_eq_true rfl) dX9_meterIs_5 (fun H locs hP hS => ?_)
  refine W.eq (g2 := F0 m 8 ls [.int r1]) rfl ?_
  refine lv_if_ne (tgt := 17) hx hb dX9_meterIs_8 (by decide) (fun c2 => ?_) (fun c2 => ?_)
  · rw [if_neg c2] at h
    refine lv_aload_n hx hb dX9_meterIs_17 rfl (lv_at hl 0 rfl) ?_
    refine x_get C0 hP inu9 (k := 0) cx_0 (by decide) rfl 0 (by decide) q2_81 rfl (v := .ref (g.2.2.1 + 1)) rfl dX9_meterIs_18 ?_
    refine x_get C0 hP inu7 (k := 1) cx_1 (by decide) rfl 0 (by decide) q1_221 rfl (v := .ref (g.2.2.1 + 2)) rfl dX9_meterIs_21 ?_
    refine lv_iload_n hx hb dX9_meterIs_24 rfl (lv_at hl 1 rfl) ?_
    obtain ⟨z3, h⟩ := gd_some h
    refine x_maald C0 hP (k := 2) cx_2 (j := x1.toNatClampNeg) z3 rfl dX9_meterIs_25 ?_
    refine W.eq (g2 := F0 m 26 ls [.ref (g.2.2.1 + (24 + 2 * x1.toNatClampNeg))]) rfl ?_
    refine lv_astore_n (lv' := [(3, .ref (g.2.2.1 + (24 + 2 * x1.toNatClampNeg))), (0, .ref (g.2.2.1 + 0)), (1, .int x1), (2, .int x2)]) hx hb dX9_meterIs_26 rfl hl (by decide) rfl (fun ls hl => ?_)
    refine lv_iload_n hx hb dX9_meterIs_27 rfl (lv_at hl 3 rfl) ?_
    by_cases c4 : x2 = (0 : Int32)
    · rw [if_pos c4] at h
      refine lv_tableIn (tgt := 92) (off := 64) hx hb dX9_meterIs_28 (by rw [c4]; decide) (by rw [c4]; decide) (by rw [c4]; decide) (by decide) ?_
      refine lv_aload_n hx hb dX9_meterIs_92 rfl (lv_at hl 0 rfl) ?_
      refine x_get C0 hP inu2 (k := (24 + 2 * x1.toNatClampNeg)) (id2_0 (met_i z3)) (by decide) rfl 2 (by decide) q1_147 rfl (v := .int (μ1 (24 + 2 * x1.toNatClampNeg) 2)) rfl dX9_meterIs_93 ?_
      obtain ⟨rfl, rfl⟩ := some2 h
      exact x_iret C0 hP hS dX9_meterIs_96
    rw [if_neg c4] at h
    by_cases c5 : x2 = (1 : Int32)
    · rw [if_pos c5] at h
      refine lv_tableIn (tgt := 97) (off := 69) hx hb dX9_meterIs_28 (by rw [c5]; decide) (by rw [c5]; decide) (by rw [c5]; decide) (by decide) ?_
      refine lv_aload_n hx hb dX9_meterIs_97 rfl (lv_at hl 0 rfl) ?_
      refine x_get C0 hP inu2 (k := (24 + 2 * x1.toNatClampNeg)) (id2_0 (met_i z3)) (by decide) rfl 5 (by decide) q1_157 rfl (v := .int (μ1 (24 + 2 * x1.toNatClampNeg) 5)) rfl dX9_meterIs_98 ?_
      obtain ⟨rfl, rfl⟩ := some2 h
      exact x_iret C0 hP hS dX9_meterIs_101
    rw [if_neg c5] at h
    by_cases c6 : x2 = (2 : Int32)
    · rw [if_pos c6] at h
      refine lv_tableIn (tgt := 102) (off := 74) hx hb dX9_meterIs_28 (by rw [c6]; decide) (by rw [c6]; decide) (by rw [c6]; decide) (by decide) ?_
      refine lv_aload_n hx hb dX9_meterIs_102 rfl (lv_at hl 0 rfl) ?_
      refine x_get C0 hP inu2 (k := (24 + 2 * x1.toNatClampNeg)) (id2_0 (met_i z3)) (by decide) rfl 6 (by decide) q1_162 rfl (v := .int (μ1 (24 + 2 * x1.toNatClampNeg) 6)) rfl dX9_meterIs_103 ?_
      obtain ⟨rfl, rfl⟩ := some2 h
      exact x_iret C0 hP hS dX9_meterIs_106
    rw [if_neg c6] at h
    by_cases c7 : x2 = (3 : Int32)
    · rw [if_pos c7] at h
      refine lv_tableIn (tgt := 107) (off := 79) hx hb dX9_meterIs_28 (by rw [c7]; decide) (by rw [c7]; decide) (by rw [c7]; decide) (by decide) ?_
      refine lv_aload_n hx hb dX9_meterIs_107 rfl (lv_at hl 0 rfl) ?_
      refine x_get C0 hP inu2 (k := (24 + 2 * x1.toNatClampNeg)) (id2_0 (met_i z3)) (by decide) rfl 7 (by decide) q1_165 rfl (v := .int (μ1 (24 + 2 * x1.toNatClampNeg) 7)) rfl dX9_meterIs_108 ?_
      obtain ⟨rfl, rfl⟩ := some2 h
      exact x_iret C0 hP hS dX9_meterIs_111
    rw [if_neg c7] at h
    by_cases c8 : x2 = (4 : Int32)
    · rw [if_pos c8] at h
      refine lv_tableIn (tgt := 112) (off := 84) hx hb dX9_meterIs_28 (by rw [c8]; decide) (by rw [c8]; decide) (by rw [c8]; decide) (by decide) ?_
      refine lv_aload_n hx hb dX9_meterIs_112 rfl (lv_at hl 0 rfl) ?_
      refine x_get C0 hP inu2 (k := (24 + 2 * x1.toNatClampNeg)) (id2_0 (met_i z3)) (by decide) rfl 8 (by decide) q1_168 rfl (v := .int (μ1 (24 + 2 * x1.toNatClampNeg) 8)) rfl dX9_meterIs_113 ?_
      refine lv_if_eq (tgt := 123) hx hb dX9_meterIs_116 (by decide) (fun c9 => ?_) (fun c9 => ?_)
      · rw [if_pos c9] at h
        refine lv_iconst (v := (0 : Int32)) hx hb dX9_meterIs_123 rfl ?_
        obtain ⟨rfl, rfl⟩ := some2 h
        exact x_iret C0 hP hS dX9_meterIs_124
      · rw [if_neg c9] at h
        refine lv_iconst (v := (1 : Int32)) hx hb dX9_meterIs_119 rfl ?_
        refine lv_goto (tgt := 124) hx hb dX9_meterIs_120 (by decide) ?_
        obtain ⟨rfl, rfl⟩ := some2 h
        exact x_iret C0 hP hS dX9_meterIs_124
    rw [if_neg c8] at h
    by_cases c10 : x2 = (5 : Int32)
    · rw [if_pos c10] at h
      refine lv_tableIn (tgt := 125) (off := 97) hx hb dX9_meterIs_28 (by rw [c10]; decide) (by rw [c10]; decide) (by rw [c10]; decide) (by decide) ?_
      refine lv_aload_n hx hb dX9_meterIs_125 rfl (lv_at hl 0 rfl) ?_
      refine x_get C0 hP inu2 (k := (24 + 2 * x1.toNatClampNeg)) (id2_0 (met_i z3)) (by decide) rfl 9 (by decide) q1_172 rfl (v := .int (μ1 (24 + 2 * x1.toNatClampNeg) 9)) rfl dX9_meterIs_126 ?_
      refine lv_if_eq (tgt := 136) hx hb dX9_meterIs_129 (by decide) (fun c11 => ?_) (fun c11 => ?_)
      · rw [if_pos c11] at h
        refine lv_iconst (v := (0 : Int32)) hx hb dX9_meterIs_136 rfl ?_
        obtain ⟨rfl, rfl⟩ := some2 h
        exact x_iret C0 hP hS dX9_meterIs_137
      · rw [if_neg c11] at h
        refine lv_iconst (v := (1 : Int32)) hx hb dX9_meterIs_132 rfl ?_
        refine lv_goto (tgt := 137) hx hb dX9_meterIs_133 (by decide) ?_
        obtain ⟨rfl, rfl⟩ := some2 h
        exact x_iret C0 hP hS dX9_meterIs_137
    rw [if_neg c10] at h
    by_cases c12 : x2 = (6 : Int32)
    · rw [if_pos c12] at h
      refine lv_tableIn (tgt := 138) (off := 110) hx hb dX9_meterIs_28 (by rw [c12]; decide) (by rw [c12]; decide) (by rw [c12]; decide) (by decide) ?_
      refine lv_aload_n hx hb dX9_meterIs_138 rfl (lv_at hl 0 rfl) ?_
      refine x_get C0 hP inu2 (k := (24 + 2 * x1.toNatClampNeg)) (id2_0 (met_i z3)) (by decide) rfl 10 (by decide) q1_174 rfl (v := .int (μ1 (24 + 2 * x1.toNatClampNeg) 10)) rfl dX9_meterIs_139 ?_
      obtain ⟨rfl, rfl⟩ := some2 h
      exact x_iret C0 hP hS dX9_meterIs_142
    rw [if_neg c12] at h
    by_cases c13 : x2 = (7 : Int32)
    · rw [if_pos c13] at h
      refine lv_tableIn (tgt := 143) (off := 115) hx hb dX9_meterIs_28 (by rw [c13]; decide) (by rw [c13]; decide) (by rw [c13]; decide) (by decide) ?_
      refine lv_aload_n hx hb dX9_meterIs_143 rfl (lv_at hl 0 rfl) ?_
      refine x_get C0 hP inu2 (k := (24 + 2 * x1.toNatClampNeg)) (id2_0 (met_i z3)) (by decide) rfl 11 (by decide) q1_177 rfl (v := .int (μ1 (24 + 2 * x1.toNatClampNeg) 11)) rfl dX9_meterIs_144 ?_
      obtain ⟨rfl, rfl⟩ := some2 h
      exact x_iret C0 hP hS dX9_meterIs_147
    rw [if_neg c13] at h
    by_cases c14 : x2 = (8 : Int32)
    · rw [if_pos c14] at h
      refine lv_tableIn (tgt := 148) (off := 120) hx hb dX9_meterIs_28 (by rw [c14]; decide) (by rw [c14]; decide) (by rw [c14]; decide) (by decide) ?_
      refine lv_aload_n hx hb dX9_meterIs_148 rfl (lv_at hl 0 rfl) ?_
      refine x_get C0 hP inu2 (k := (24 + 2 * x1.toNatClampNeg)) (id2_0 (met_i z3)) (by decide) rfl 12 (by decide) q1_181 rfl (v := .int (μ1 (24 + 2 * x1.toNatClampNeg) 12)) rfl dX9_meterIs_149 ?_
      obtain ⟨rfl, rfl⟩ := some2 h
      exact x_iret C0 hP hS dX9_meterIs_152
    rw [if_neg c14] at h
    by_cases c15 : x2 = (9 : Int32)
    · rw [if_pos c15] at h
      refine lv_tableIn (tgt := 153) (off := 125) hx hb dX9_meterIs_28 (by rw [c15]; decide) (by rw [c15]; decide) (by rw [c15]; decide) (by decide) ?_
      refine lv_aload_n hx hb dX9_meterIs_153 rfl (lv_at hl 0 rfl) ?_
      refine x_get C0 hP inu2 (k := (24 + 2 * x1.toNatClampNeg)) (id2_0 (met_i z3)) (by decide) rfl 13 (by decide) q1_184 rfl (v := .int (μ1 (24 + 2 * x1.toNatClampNeg) 13)) rfl dX9_meterIs_154 ?_
      obtain ⟨rfl, rfl⟩ := some2 h
      exact x_iret C0 hP hS dX9_meterIs_157
    rw [if_neg c15] at h
    by_cases c16 : x2 = (10 : Int32)
    · rw [if_pos c16] at h
      refine lv_tableIn (tgt := 158) (off := 130) hx hb dX9_meterIs_28 (by rw [c16]; decide) (by rw [c16]; decide) (by rw [c16]; decide) (by decide) ?_
      refine lv_aload_n hx hb dX9_meterIs_158 rfl (lv_at hl 0 rfl) ?_
      refine lv_aload_n hx hb dX9_meterIs_159 rfl (lv_at hl 1 rfl) ?_
      refine x_get C0 hP inu9 (k := 0) cx_0 (by decide) rfl 0 (by decide) q2_81 rfl (v := .ref (g.2.2.1 + 1)) rfl dX9_meterIs_160 ?_
      refine x_get C0 hP inu7 (k := 1) cx_1 (by decide) rfl 2 (by decide) q1_225 rfl (v := .ref (g.2.2.1 + 8)) rfl dX9_meterIs_163 ?_
      refine lv_iconst (v := (0 : Int32)) hx hb dX9_meterIs_166 rfl ?_
      refine lv_aload_n hx hb dX9_meterIs_167 rfl (lv_at hl 1 rfl) ?_
      refine x_get C0 hP inu9 (k := 0) cx_0 (by decide) rfl 0 (by decide) q2_81 rfl (v := .ref (g.2.2.1 + 1)) rfl dX9_meterIs_168 ?_
      refine x_get C0 hP inu7 (k := 1) cx_1 (by decide) rfl 8 (by decide) q1_237 rfl (v := .int (μ1 1 8)) rfl dX9_meterIs_171 ?_
      obtain ⟨r17, μ17, h1, h⟩ := ob2_some h
      refine x_callV C0 (rest := [.ref (g.2.2.1 + (24 + 2 * x1.toNatClampNeg))]) (q := (RX1, TX1, 6)) (c_X1_ruling l g (0 : Int32) (μ1 1 8) μ1 h1) q2_135 q2_155 q2_133 q2_134 q1_4 hd_X1_ruling ⟨rfl, rfl⟩ ⟨Nat.le_of_ble_eq_true rfl, Nat.le_of_ble_eq_true rfl⟩ cx_8 (by decide) rfl hP hS hl.1 rfl rfl (Nat.le_of_ble_eq_true rfl) dX9_meterIs_174 (fun H locs hP hS => ?_)
      refine W.eq (g2 := F0 m 177 ls [.int r17, .ref (g.2.2.1 + (24 + 2 * x1.toNatClampNeg))]) rfl ?_
      obtain ⟨r18, μ18, h1, h⟩ := ob2_some h
      refine x_callV C0 (rest := []) (q := (RX2, TX2, 15)) (c_X2_loadedUnder l g (24 + 2 * x1.toNatClampNeg) (met_i z3) r17 μ17 h1) q2_159 q2_156 q2_157 q2_158 q1_7 hd_X2_loadedUnder ⟨rfl, rfl⟩ ⟨Nat.le_of_ble_eq_true rfl, Nat.le_of_ble_eq_true rfl⟩ (id2_0 (met_i z3)) (by decide) rfl hP hS hl.1 rfl rfl (Nat.le_of_ble_eq_true rfl) dX9_meterIs_177 (fun H locs hP hS => ?_)
      refine W.eq (g2 := F0 m 180 ls [.int r18]) rfl ?_
      obtain ⟨rfl, rfl⟩ := some2 h
      exact x_iret C0 hP hS dX9_meterIs_180
    rw [if_neg c16] at h
    by_cases c19 : x2 = (11 : Int32)
    · rw [if_pos c19] at h
      refine lv_tableIn (tgt := 181) (off := 153) hx hb dX9_meterIs_28 (by rw [c19]; decide) (by rw [c19]; decide) (by rw [c19]; decide) (by decide) ?_
      refine lv_aload_n hx hb dX9_meterIs_181 rfl (lv_at hl 0 rfl) ?_
      obtain ⟨r20, μ20, h1, h⟩ := ob2_some h
      refine x_callV C0 (rest := []) (q := (RX2, TX2, 15)) (c_X2_limit l g (24 + 2 * x1.toNatClampNeg) (met_i z3) μ1 h1) q2_167 q2_164 q2_165 q2_166 q1_7 hd_X2_limit ⟨rfl, rfl⟩ ⟨Nat.le_of_ble_eq_true rfl, Nat.le_of_ble_eq_true rfl⟩ (id2_0 (met_i z3)) (by decide) rfl hP hS hl.1 rfl rfl (Nat.le_of_ble_eq_true rfl) dX9_meterIs_182 (fun H locs hP hS => ?_)
      refine W.eq (g2 := F0 m 185 ls [.int r20]) rfl ?_
      obtain ⟨rfl, rfl⟩ := some2 h
      exact x_iret C0 hP hS dX9_meterIs_185
    rw [if_neg c19] at h
    have i4 : ¬ x2.toInt = 0 := fun q => c4 (Int32.toInt_inj.mp (q.trans (by decide)))
    have i5 : ¬ x2.toInt = 1 := fun q => c5 (Int32.toInt_inj.mp (q.trans (by decide)))
    have i6 : ¬ x2.toInt = 2 := fun q => c6 (Int32.toInt_inj.mp (q.trans (by decide)))
    have i7 : ¬ x2.toInt = 3 := fun q => c7 (Int32.toInt_inj.mp (q.trans (by decide)))
    have i8 : ¬ x2.toInt = 4 := fun q => c8 (Int32.toInt_inj.mp (q.trans (by decide)))
    have i10 : ¬ x2.toInt = 5 := fun q => c10 (Int32.toInt_inj.mp (q.trans (by decide)))
    have i12 : ¬ x2.toInt = 6 := fun q => c12 (Int32.toInt_inj.mp (q.trans (by decide)))
    have i13 : ¬ x2.toInt = 7 := fun q => c13 (Int32.toInt_inj.mp (q.trans (by decide)))
    have i14 : ¬ x2.toInt = 8 := fun q => c14 (Int32.toInt_inj.mp (q.trans (by decide)))
    have i15 : ¬ x2.toInt = 9 := fun q => c15 (Int32.toInt_inj.mp (q.trans (by decide)))
    have i16 : ¬ x2.toInt = 10 := fun q => c16 (Int32.toInt_inj.mp (q.trans (by decide)))
    have i19 : ¬ x2.toInt = 11 := fun q => c19 (Int32.toInt_inj.mp (q.trans (by decide)))
    refine lv_tableOut (tgt := 186) hx hb dX9_meterIs_28 (by omega) (by decide) ?_
    refine lv_aload_n hx hb dX9_meterIs_186 rfl (lv_at hl 1 rfl) ?_
    refine lv_iconst (v := (1 : Int32)) hx hb dX9_meterIs_187 rfl ?_
    obtain ⟨r21, μ21, h1, h⟩ := ob2_some h
    refine x_callV C0 (rest := []) (q := (RX9, TX9, 9)) (c_X9_finding l g (1 : Int32) μ1 h1) q2_122 q2_119 q2_121 r1_0 q1_1 hd_X9_finding ⟨rfl, rfl⟩ ⟨Nat.le_of_ble_eq_true rfl, Nat.le_of_ble_eq_true rfl⟩ cx_0 (by decide) rfl hP hS hl.1 rfl rfl (Nat.le_of_ble_eq_true rfl) dX9_meterIs_188 (fun H locs hP hS => ?_)
    refine W.eq (g2 := F0 m 191 ls [.int r21]) rfl ?_
    obtain ⟨rfl, rfl⟩ := some2 h
    exact x_iret C0 hP hS dX9_meterIs_191
  · rw [if_pos c2] at h
    refine lv_aload_n hx hb dX9_meterIs_11 rfl (lv_at hl 0 rfl) ?_
    refine lv_iconst (v := (1 : Int32)) hx hb dX9_meterIs_12 rfl ?_
    obtain ⟨r22, μ22, h1, h⟩ := ob2_some h
    refine x_callV C0 (rest := []) (q := (RX9, TX9, 9)) (c_X9_finding l g (1 : Int32) μ1 h1) q2_122 q2_119 q2_121 r1_0 q1_1 hd_X9_finding ⟨rfl, rfl⟩ ⟨Nat.le_of_ble_eq_true rfl, Nat.le_of_ble_eq_true rfl⟩ cx_0 (by decide) rfl hP hS hl.1 rfl rfl (Nat.le_of_ble_eq_true rfl) dX9_meterIs_13 (fun H locs hP hS => ?_)
    refine W.eq (g2 := F0 m 16 ls [.int r22]) rfl ?_
    obtain ⟨rfl, rfl⟩ := some2 h
    exact x_iret C0 hP hS dX9_meterIs_16
def X9_isClock (x0 : Int32) (μ : Mem) : Option (Int32 × Mem) :=
  (if x0 < (0 : Int32) then some ((0 : Int32), μ) else (if (24 : Int32) ≤ x0 then some ((0 : Int32), μ) else some ((1 : Int32), μ)))
set_option maxRecDepth 100000 in
set_option maxHeartbeats 4000000 in
theorem c_X9_isClock (l : Launch) (g : Gx) (x0 : Int32) (μ : Mem) {r : Int32} {ν : Mem} (h : X9_isClock x0 μ = some (r, ν)) : Ct Lx g l yX9_isClock cX9_isClock 1 (some .boolean) { frames := 0, cells := 0, slots := 0, locals := 0 } [.int x0] μ (some (.int r)) ν := by
  refine x_met (lv := [(0, .int x0)]) rfl (Nat.le_of_ble_eq_true rfl) rfl ?_
  intro p e s m below meth c C0 hP ls hl
  generalize ([.int x0] : List Value).toArray = args at C0 ⊢
  have C0 : Cx Lx g p s m args meth c cX9_isClock 1 (some .boolean) RX9 := C0
  have hS : va_S (Ax Lx g) s.heap s.heap [] := va_S.rf
  obtain ⟨hx, hb, hr, hml, hown, hts, hlocks, hK⟩ := id C0
  unfold X9_isClock at h
  skip
  refine lv_iload_n hx hb dX9_isClock_0 rfl (lv_at hl 0 rfl) ?_
  refine lv_if_lt (tgt := 14) hx hb dX9_isClock_1 (by decide) (fun c1 => ?_) (fun c1 => ?_)
  · rw [if_pos c1] at h
    refine lv_iconst (v := (0 : Int32)) hx hb dX9_isClock_14 rfl ?_
    obtain ⟨rfl, rfl⟩ := some2 h
    exact x_zret C0 hP hS (by decide) dX9_isClock_15
  · rw [if_neg c1] at h
    refine lv_iload_n hx hb dX9_isClock_4 rfl (lv_at hl 0 rfl) ?_
    refine lv_bipush (v := (24 : Int32)) hx hb dX9_isClock_5 (by decide +kernel) ?_
    refine lv_icmp_ge (tgt := 14) hx hb dX9_isClock_7 (by decide) (fun c2 => ?_) (fun c2 => ?_)
    · rw [if_pos c2] at h
      refine lv_iconst (v := (0 : Int32)) hx hb dX9_isClock_14 rfl ?_
      obtain ⟨rfl, rfl⟩ := some2 h
      exact x_zret C0 hP hS (by decide) dX9_isClock_15
    · rw [if_neg c2] at h
      refine lv_iconst (v := (1 : Int32)) hx hb dX9_isClock_10 rfl ?_
      refine lv_goto (tgt := 15) hx hb dX9_isClock_11 (by decide) ?_
      obtain ⟨rfl, rfl⟩ := some2 h
      exact x_zret C0 hP hS (by decide) dX9_isClock_15
def X9_load_28   (μ : Mem) : Option (Int32 × Mem) :=
  ob2 (X9_finding (1 : Int32) μ) fun r3 μ3 => some (r3, μ3)
set_option maxRecDepth 100000 in
set_option maxHeartbeats 4000000 in
theorem w_X9_load_28 {g : Gx} {p : Program} {l : Launch} {e : Env} {s : State} {m : MethodId} {args : Array Value} {below : List Frame} {meth : Method} {c : Code} (C0 : Cx Lx g p s m args meth c cX9_load 6 (some .int) RX9) {r : Int32} {ν : Mem}   (μ : Mem) (H : Heap) (locs : List Loc) (ls : Array Slot) (hP : Px Lx g μ H) (hS : va_S (Ax Lx g) s.heap H locs) (hl : lv_has ls 6 [(0, .ref (g.2.2.1 + 0))]) (h : X9_load_28   μ = some (r, ν)) : W p l e { frames := 1, cells := 0, slots := 0, locals := 21 } s m args below meth c H locs 0 0 (MQ below (Qx Lx g (some (.int r)) ν) args s 0 0 (Ax Lx g)) (F0 m 28 ls []) := by
  obtain ⟨hx, hb, hr, hml, hown, hts, hlocks, hK⟩ := id C0
  unfold X9_load_28 at h
  refine lv_aload_n hx hb dX9_load_28 rfl (lv_at hl 0 rfl) ?_
  refine lv_iconst (v := (1 : Int32)) hx hb dX9_load_29 rfl ?_
  obtain ⟨r3, μ3, h1, h⟩ := ob2_some h
  refine x_callV C0 (rest := []) (q := (RX9, TX9, 9)) (c_X9_finding l g (1 : Int32) μ h1) q2_122 q2_119 q2_121 r1_0 q1_1 hd_X9_finding ⟨rfl, rfl⟩ ⟨Nat.le_of_ble_eq_true rfl, Nat.le_of_ble_eq_true rfl⟩ cx_0 (by decide) rfl hP hS hl.1 rfl rfl (Nat.le_of_ble_eq_true rfl) dX9_load_30 (fun H locs hP hS => ?_)
  refine W.eq (g2 := F0 m 33 ls [.int r3]) rfl ?_
  obtain ⟨rfl, rfl⟩ := some2 h
  exact x_iret C0 hP hS dX9_load_33
def X9_load (x1 : Int32) (x2 : Int32) (x3 : Int32) (μ : Mem) : Option (Int32 × Mem) :=
  ob2 (X7_hasMeter x1 μ) fun r1 μ1 => (if r1 = (0 : Int32) then X9_load_28 μ1 else ob2 (X9_isClock x2 μ1) fun r4 μ4 => (if r4 = (0 : Int32) then X9_load_28 μ4 else (if x3 < (0 : Int32) then X9_load_28 μ4 else (if x3 ≤ (9 : Int32) then gd (inB x1 8) (gd (inB x2 24) (gd (inB x2 24) (lt (st μ4 ((24 + 2 * x1.toNatClampNeg) + 1) x2.toNatClampNeg x3) fun μ11 => some ((μ4 ((24 + 2 * x1.toNatClampNeg) + 1) x2.toNatClampNeg), μ11)))) else X9_load_28 μ4))))
set_option maxRecDepth 100000 in
set_option maxHeartbeats 4000000 in
theorem c_X9_load (l : Launch) (g : Gx) (x1 : Int32) (x2 : Int32) (x3 : Int32) (μ : Mem) {r : Int32} {ν : Mem} (h : X9_load x1 x2 x3 μ = some (r, ν)) : Ct Lx g l yX9_load cX9_load 6 (some .int) { frames := 1, cells := 0, slots := 0, locals := 21 } [.ref (g.2.2.1 + 0), .int x1, .int x2, .int x3] μ (some (.int r)) ν := by
  refine x_met (lv := [(0, .ref (g.2.2.1 + 0)), (1, .int x1), (2, .int x2), (3, .int x3)]) rfl (Nat.le_of_ble_eq_true rfl) rfl ?_
  intro p e s m below meth c C0 hP ls hl
  generalize ([.ref (g.2.2.1 + 0), .int x1, .int x2, .int x3] : List Value).toArray = args at C0 ⊢
  have C0 : Cx Lx g p s m args meth c cX9_load 6 (some .int) RX9 := C0
  have hS : va_S (Ax Lx g) s.heap s.heap [] := va_S.rf
  obtain ⟨hx, hb, hr, hml, hown, hts, hlocks, hK⟩ := id C0
  unfold X9_load at h
  skip
  refine lv_aload_n hx hb dX9_load_0 rfl (lv_at hl 0 rfl) ?_
  refine x_get C0 hP inu9 (k := 0) cx_0 (by decide) rfl 0 (by decide) q2_81 rfl (v := .ref (g.2.2.1 + 1)) rfl dX9_load_1 ?_
  refine lv_iload_n hx hb dX9_load_4 rfl (lv_at hl 1 rfl) ?_
  obtain ⟨r1, μ1, h1, h⟩ := ob2_some h
  refine x_callV C0 (rest := []) (q := (RX7, TX7, 9)) (c_X7_hasMeter l g x1 μ h1) q2_143 q2_140 q2_141 q2_142 q1_2 hd_X7_hasMeter ⟨rfl, rfl⟩ ⟨Nat.le_of_ble_eq_true rfl, Nat.le_of_ble_eq_true rfl⟩ cx_1 (by decide) rfl hP hS hl.1 rfl rfl (Nat.le_of_ble_eq_true rfl) dX9_load_5 (fun H locs hP hS => ?_)
  refine W.eq (g2 := F0 m 8 ls [.int r1]) rfl ?_
  refine lv_if_eq (tgt := 28) hx hb dX9_load_8 (by decide) (fun c2 => ?_) (fun c2 => ?_)
  · rw [if_pos c2] at h
    exact w_X9_load_28 C0   μ1 _ _ _ hP hS (lv_sub hl [0] rfl) h
  · rw [if_neg c2] at h
    refine lv_iload_n hx hb dX9_load_11 rfl (lv_at hl 2 rfl) ?_
    obtain ⟨r4, μ4, h1, h⟩ := ob2_some h
    refine x_callS C0 (rest := []) (c_X9_isClock l g x2 μ1 h1) q2_174 q2_172 q2_173 q1_1 hd_X9_isClock ⟨rfl, rfl⟩ ⟨Nat.le_of_ble_eq_true rfl, Nat.le_of_ble_eq_true rfl⟩ hP hS hl.1 rfl rfl (Nat.le_of_ble_eq_true rfl) dX9_load_12 (fun H locs hP hS => ?_)
    refine W.eq (g2 := F0 m 15 ls [.int r4]) rfl ?_
    refine lv_if_eq (tgt := 28) hx hb dX9_load_15 (by decide) (fun c5 => ?_) (fun c5 => ?_)
    · rw [if_pos c5] at h
      exact w_X9_load_28 C0   μ4 _ _ _ hP hS (lv_sub hl [0] rfl) h
    · rw [if_neg c5] at h
      refine lv_iload_n hx hb dX9_load_18 rfl (lv_at hl 3 rfl) ?_
      refine lv_if_lt (tgt := 28) hx hb dX9_load_19 (by decide) (fun c6 => ?_) (fun c6 => ?_)
      · rw [if_pos c6] at h
        exact w_X9_load_28 C0   μ4 _ _ _ hP hS (lv_sub hl [0] rfl) h
      · rw [if_neg c6] at h
        refine lv_iload_n hx hb dX9_load_22 rfl (lv_at hl 3 rfl) ?_
        refine lv_bipush (v := (9 : Int32)) hx hb dX9_load_23 (by decide +kernel) ?_
        refine lv_icmp_le (tgt := 34) hx hb dX9_load_25 (by decide) (fun c7 => ?_) (fun c7 => ?_)
        · rw [if_pos c7] at h
          refine lv_aload_n hx hb dX9_load_34 rfl (lv_at hl 0 rfl) ?_
          refine x_get C0 hP inu9 (k := 0) cx_0 (by decide) rfl 0 (by decide) q2_81 rfl (v := .ref (g.2.2.1 + 1)) rfl dX9_load_35 ?_
          refine x_get C0 hP inu7 (k := 1) cx_1 (by decide) rfl 0 (by decide) q1_221 rfl (v := .ref (g.2.2.1 + 2)) rfl dX9_load_38 ?_
          refine lv_iload_n hx hb dX9_load_41 rfl (lv_at hl 1 rfl) ?_
          obtain ⟨z8, h⟩ := gd_some h
          refine x_maald C0 hP (k := 2) cx_2 (j := x1.toNatClampNeg) z8 rfl dX9_load_42 ?_
          refine W.eq (g2 := F0 m 43 ls [.ref (g.2.2.1 + (24 + 2 * x1.toNatClampNeg))]) rfl ?_
          refine x_get C0 hP inu2 (k := (24 + 2 * x1.toNatClampNeg)) (id2_0 (met_i z8)) (by decide) rfl 0 (by decide) q1_140 rfl (v := .ref (g.2.2.1 + ((24 + 2 * x1.toNatClampNeg) + 1))) rfl dX9_load_43 ?_
          refine lv_astore (lv' := [(4, .ref (g.2.2.1 + ((24 + 2 * x1.toNatClampNeg) + 1))), (0, .ref (g.2.2.1 + 0)), (1, .int x1), (2, .int x2), (3, .int x3)]) hx hb dX9_load_46 hl (by decide) rfl (fun ls hl => ?_)
          refine lv_aload hx hb dX9_load_48 (lv_at hl 0 rfl) ?_
          refine lv_iload_n hx hb dX9_load_50 rfl (lv_at hl 3 rfl) ?_
          obtain ⟨z9, h⟩ := gd_some h
          refine x_iald C0 hP (k := ((24 + 2 * x1.toNatClampNeg) + 1)) (id2_1 (met_i z8)) (j := x2.toNatClampNeg) z9 rfl dX9_load_51 ?_
          refine lv_istore (lv' := [(5, .int (μ4 ((24 + 2 * x1.toNatClampNeg) + 1) x2.toNatClampNeg)), (4, .ref (g.2.2.1 + ((24 + 2 * x1.toNatClampNeg) + 1))), (0, .ref (g.2.2.1 + 0)), (1, .int x1), (2, .int x2), (3, .int x3)]) hx hb dX9_load_52 hl (by decide) rfl (fun ls hl => ?_)
          refine lv_aload hx hb dX9_load_54 (lv_at hl 1 rfl) ?_
          refine lv_iload_n hx hb dX9_load_56 rfl (lv_at hl 4 rfl) ?_
          refine lv_iload_n hx hb dX9_load_57 rfl (lv_at hl 5 rfl) ?_
          obtain ⟨z10, h⟩ := gd_some h
          obtain ⟨μ11, e11, h⟩ := lt_some h
          refine x_iast C0 hP hS (k := ((24 + 2 * x1.toNatClampNeg) + 1)) (id2_1 (met_i z8)) (j := x2.toNatClampNeg) z10 rfl dX9_load_58 (fun H locs hP hS => ?_)
          rw [← e11] at hP
          refine lv_iload hx hb dX9_load_59 (lv_at hl 0 rfl) ?_
          obtain ⟨rfl, rfl⟩ := some2 h
          exact x_iret C0 hP hS dX9_load_61
        · rw [if_neg c7] at h
          exact w_X9_load_28 C0   μ4 _ _ _ hP hS (lv_sub hl [0] rfl) h
def X9_isPence (x0 : Int32) (μ : Mem) : Option (Int32 × Mem) :=
  (if x0 < (1 : Int32) then some ((0 : Int32), μ) else (if (9999 : Int32) < x0 then some ((0 : Int32), μ) else some ((1 : Int32), μ)))
set_option maxRecDepth 100000 in
set_option maxHeartbeats 4000000 in
theorem c_X9_isPence (l : Launch) (g : Gx) (x0 : Int32) (μ : Mem) {r : Int32} {ν : Mem} (h : X9_isPence x0 μ = some (r, ν)) : Ct Lx g l yX9_isPence cX9_isPence 1 (some .boolean) { frames := 0, cells := 0, slots := 0, locals := 0 } [.int x0] μ (some (.int r)) ν := by
  refine x_met (lv := [(0, .int x0)]) rfl (Nat.le_of_ble_eq_true rfl) rfl ?_
  intro p e s m below meth c C0 hP ls hl
  generalize ([.int x0] : List Value).toArray = args at C0 ⊢
  have C0 : Cx Lx g p s m args meth c cX9_isPence 1 (some .boolean) RX9 := C0
  have hS : va_S (Ax Lx g) s.heap s.heap [] := va_S.rf
  obtain ⟨hx, hb, hr, hml, hown, hts, hlocks, hK⟩ := id C0
  unfold X9_isPence at h
  skip
  refine lv_iload_n hx hb dX9_isPence_0 rfl (lv_at hl 0 rfl) ?_
  refine lv_iconst (v := (1 : Int32)) hx hb dX9_isPence_1 rfl ?_
  refine lv_icmp_lt (tgt := 16) hx hb dX9_isPence_2 (by decide) (fun c1 => ?_) (fun c1 => ?_)
  · rw [if_pos c1] at h
    refine lv_iconst (v := (0 : Int32)) hx hb dX9_isPence_16 rfl ?_
    obtain ⟨rfl, rfl⟩ := some2 h
    exact x_zret C0 hP hS (by decide) dX9_isPence_17
  · rw [if_neg c1] at h
    refine lv_iload_n hx hb dX9_isPence_5 rfl (lv_at hl 0 rfl) ?_
    refine lv_sipush (v := (9999 : Int32)) hx hb dX9_isPence_6 (by decide +kernel) ?_
    refine lv_icmp_gt (tgt := 16) hx hb dX9_isPence_9 (by decide) (fun c2 => ?_) (fun c2 => ?_)
    · rw [if_pos c2] at h
      refine lv_iconst (v := (0 : Int32)) hx hb dX9_isPence_16 rfl ?_
      obtain ⟨rfl, rfl⟩ := some2 h
      exact x_zret C0 hP hS (by decide) dX9_isPence_17
    · rw [if_neg c2] at h
      refine lv_iconst (v := (1 : Int32)) hx hb dX9_isPence_12 rfl ?_
      refine lv_goto (tgt := 17) hx hb dX9_isPence_13 (by decide) ?_
      obtain ⟨rfl, rfl⟩ := some2 h
      exact x_zret C0 hP hS (by decide) dX9_isPence_17
def X9_owe_18   (μ : Mem) : Option (Int32 × Mem) :=
  ob2 (X9_finding (1 : Int32) μ) fun r3 μ3 => some (r3, μ3)
set_option maxRecDepth 100000 in
set_option maxHeartbeats 4000000 in
theorem w_X9_owe_18 {g : Gx} {p : Program} {l : Launch} {e : Env} {s : State} {m : MethodId} {args : Array Value} {below : List Frame} {meth : Method} {c : Code} (C0 : Cx Lx g p s m args meth c cX9_owe 4 (some .int) RX9) {r : Int32} {ν : Mem}   (μ : Mem) (H : Heap) (locs : List Loc) (ls : Array Slot) (hP : Px Lx g μ H) (hS : va_S (Ax Lx g) s.heap H locs) (hl : lv_has ls 4 [(0, .ref (g.2.2.1 + 0))]) (h : X9_owe_18   μ = some (r, ν)) : W p l e { frames := 1, cells := 0, slots := 0, locals := 21 } s m args below meth c H locs 0 0 (MQ below (Qx Lx g (some (.int r)) ν) args s 0 0 (Ax Lx g)) (F0 m 18 ls []) := by
  obtain ⟨hx, hb, hr, hml, hown, hts, hlocks, hK⟩ := id C0
  unfold X9_owe_18 at h
  refine lv_aload_n hx hb dX9_owe_18 rfl (lv_at hl 0 rfl) ?_
  refine lv_iconst (v := (1 : Int32)) hx hb dX9_owe_19 rfl ?_
  obtain ⟨r3, μ3, h1, h⟩ := ob2_some h
  refine x_callV C0 (rest := []) (q := (RX9, TX9, 9)) (c_X9_finding l g (1 : Int32) μ h1) q2_122 q2_119 q2_121 r1_0 q1_1 hd_X9_finding ⟨rfl, rfl⟩ ⟨Nat.le_of_ble_eq_true rfl, Nat.le_of_ble_eq_true rfl⟩ cx_0 (by decide) rfl hP hS hl.1 rfl rfl (Nat.le_of_ble_eq_true rfl) dX9_owe_20 (fun H locs hP hS => ?_)
  refine W.eq (g2 := F0 m 23 ls [.int r3]) rfl ?_
  obtain ⟨rfl, rfl⟩ := some2 h
  exact x_iret C0 hP hS dX9_owe_23
def X9_owe (x1 : Int32) (x2 : Int32) (μ : Mem) : Option (Int32 × Mem) :=
  ob2 (X7_hasMeter x1 μ) fun r1 μ1 => (if r1 = (0 : Int32) then X9_owe_18 μ1 else ob2 (X9_isPence x2 μ1) fun r4 μ4 => (if r4 = (0 : Int32) then X9_owe_18 μ4 else gd (inB x1 8) ((if ((μ4 (24 + 2 * x1.toNatClampNeg) 6) + x2) ≤ (99999 : Int32) then lt (st μ4 (24 + 2 * x1.toNatClampNeg) 6 ((μ4 (24 + 2 * x1.toNatClampNeg) 6) + x2)) fun μ8 => some ((μ8 (24 + 2 * x1.toNatClampNeg) 6), μ8) else ob2 (X9_finding (4 : Int32) μ4) fun r9 μ9 => some (r9, μ9)))))
set_option maxRecDepth 100000 in
set_option maxHeartbeats 4000000 in
theorem c_X9_owe (l : Launch) (g : Gx) (x1 : Int32) (x2 : Int32) (μ : Mem) {r : Int32} {ν : Mem} (h : X9_owe x1 x2 μ = some (r, ν)) : Ct Lx g l yX9_owe cX9_owe 4 (some .int) { frames := 1, cells := 0, slots := 0, locals := 21 } [.ref (g.2.2.1 + 0), .int x1, .int x2] μ (some (.int r)) ν := by
  refine x_met (lv := [(0, .ref (g.2.2.1 + 0)), (1, .int x1), (2, .int x2)]) rfl (Nat.le_of_ble_eq_true rfl) rfl ?_
  intro p e s m below meth c C0 hP ls hl
  generalize ([.ref (g.2.2.1 + 0), .int x1, .int x2] : List Value).toArray = args at C0 ⊢
  have C0 : Cx Lx g p s m args meth c cX9_owe 4 (some .int) RX9 := C0
  have hS : va_S (Ax Lx g) s.heap s.heap [] := va_S.rf
  obtain ⟨hx, hb, hr, hml, hown, hts, hlocks, hK⟩ := id C0
  unfold X9_owe at h
  skip
  refine lv_aload_n hx hb dX9_owe_0 rfl (lv_at hl 0 rfl) ?_
  refine x_get C0 hP inu9 (k := 0) cx_0 (by decide) rfl 0 (by decide) q2_81 rfl (v := .ref (g.2.2.1 + 1)) rfl dX9_owe_1 ?_
  refine lv_iload_n hx hb dX9_owe_4 rfl (lv_at hl 1 rfl) ?_
  obtain ⟨r1, μ1, h1, h⟩ := ob2_some h
  refine x_callV C0 (rest := []) (q := (RX7, TX7, 9)) (c_X7_hasMeter l g x1 μ h1) q2_143 q2_140 q2_141 q2_142 q1_2 hd_X7_hasMeter ⟨rfl, rfl⟩ ⟨Nat.le_of_ble_eq_true rfl, Nat.le_of_ble_eq_true rfl⟩ cx_1 (by decide) rfl hP hS hl.1 rfl rfl (Nat.le_of_ble_eq_true rfl) dX9_owe_5 (fun H locs hP hS => ?_)
  refine W.eq (g2 := F0 m 8 ls [.int r1]) rfl ?_
  refine lv_if_eq (tgt := 18) hx hb dX9_owe_8 (by decide) (fun c2 => ?_) (fun c2 => ?_)
  · rw [if_pos c2] at h
    exact w_X9_owe_18 C0   μ1 _ _ _ hP hS (lv_sub hl [0] rfl) h
  · rw [if_neg c2] at h
    refine lv_iload_n hx hb dX9_owe_11 rfl (lv_at hl 2 rfl) ?_
    obtain ⟨r4, μ4, h1, h⟩ := ob2_some h
    refine x_callS C0 (rest := []) (c_X9_isPence l g x2 μ1 h1) q2_181 q2_179 q2_180 q1_1 hd_X9_isPence ⟨rfl, rfl⟩ ⟨Nat.le_of_ble_eq_true rfl, Nat.le_of_ble_eq_true rfl⟩ hP hS hl.1 rfl rfl (Nat.le_of_ble_eq_true rfl) dX9_owe_12 (fun H locs hP hS => ?_)
    refine W.eq (g2 := F0 m 15 ls [.int r4]) rfl ?_
    refine lv_if_ne (tgt := 24) hx hb dX9_owe_15 (by decide) (fun c5 => ?_) (fun c5 => ?_)
    · rw [if_neg c5] at h
      refine lv_aload_n hx hb dX9_owe_24 rfl (lv_at hl 0 rfl) ?_
      refine x_get C0 hP inu9 (k := 0) cx_0 (by decide) rfl 0 (by decide) q2_81 rfl (v := .ref (g.2.2.1 + 1)) rfl dX9_owe_25 ?_
      refine x_get C0 hP inu7 (k := 1) cx_1 (by decide) rfl 0 (by decide) q1_221 rfl (v := .ref (g.2.2.1 + 2)) rfl dX9_owe_28 ?_
      refine lv_iload_n hx hb dX9_owe_31 rfl (lv_at hl 1 rfl) ?_
      obtain ⟨z6, h⟩ := gd_some h
      refine x_maald C0 hP (k := 2) cx_2 (j := x1.toNatClampNeg) z6 rfl dX9_owe_32 ?_
      refine W.eq (g2 := F0 m 33 ls [.ref (g.2.2.1 + (24 + 2 * x1.toNatClampNeg))]) rfl ?_
      refine lv_astore_n (lv' := [(3, .ref (g.2.2.1 + (24 + 2 * x1.toNatClampNeg))), (0, .ref (g.2.2.1 + 0)), (1, .int x1), (2, .int x2)]) hx hb dX9_owe_33 rfl hl (by decide) rfl (fun ls hl => ?_)
      refine lv_aload_n hx hb dX9_owe_34 rfl (lv_at hl 0 rfl) ?_
      refine x_get C0 hP inu2 (k := (24 + 2 * x1.toNatClampNeg)) (id2_0 (met_i z6)) (by decide) rfl 6 (by decide) q1_162 rfl (v := .int (μ4 (24 + 2 * x1.toNatClampNeg) 6)) rfl dX9_owe_35 ?_
      refine lv_iload_n hx hb dX9_owe_38 rfl (lv_at hl 3 rfl) ?_
      refine lv_iadd hx hb dX9_owe_39 ?_
      refine lv_ldc (v := (99999 : Int32)) hx hb hown (hts _ q2_182) dX9_owe_40 ?_
      refine lv_icmp_le (tgt := 51) hx hb dX9_owe_42 (by decide) (fun c7 => ?_) (fun c7 => ?_)
      · rw [if_pos c7] at h
        refine lv_aload_n hx hb dX9_owe_51 rfl (lv_at hl 0 rfl) ?_
        refine lv_dup hx hb dX9_owe_52 rfl ?_
        refine x_get C0 hP inu2 (k := (24 + 2 * x1.toNatClampNeg)) (id2_0 (met_i z6)) (by decide) rfl 6 (by decide) q1_162 rfl (v := .int (μ4 (24 + 2 * x1.toNatClampNeg) 6)) rfl dX9_owe_53 ?_
        refine lv_iload_n hx hb dX9_owe_56 rfl (lv_at hl 3 rfl) ?_
        refine lv_iadd hx hb dX9_owe_57 ?_
        obtain ⟨μ8, e8, h⟩ := lt_some h
        refine x_put C0 hP hS inu2 tyX2 tyX2_ok nmX2 (k := (24 + 2 * x1.toNatClampNeg)) (id2_0 (met_i z6)) (by decide) rfl 6 (by decide) q1_162 rfl rfl (v := .int ((μ4 (24 + 2 * x1.toNatClampNeg) 6) + x2)) (x := ((μ4 (24 + 2 * x1.toNatClampNeg) 6) + x2)) rfl rfl (Nat.le_of_ble_eq_true rfl) (os_2_6 _ _ _ _) dX9_owe_58 (fun H locs hP hS => ?_)
        rw [← e8] at hP
        refine lv_aload_n hx hb dX9_owe_61 rfl (lv_at hl 0 rfl) ?_
        refine x_get C0 hP inu2 (k := (24 + 2 * x1.toNatClampNeg)) (id2_0 (met_i z6)) (by decide) rfl 6 (by decide) q1_162 rfl (v := .int (μ8 (24 + 2 * x1.toNatClampNeg) 6)) rfl dX9_owe_62 ?_
        obtain ⟨rfl, rfl⟩ := some2 h
        exact x_iret C0 hP hS dX9_owe_65
      · rw [if_neg c7] at h
        refine lv_aload_n hx hb dX9_owe_45 rfl (lv_at hl 1 rfl) ?_
        refine lv_iconst (v := (4 : Int32)) hx hb dX9_owe_46 rfl ?_
        obtain ⟨r9, μ9, h1, h⟩ := ob2_some h
        refine x_callV C0 (rest := []) (q := (RX9, TX9, 9)) (c_X9_finding l g (4 : Int32) μ4 h1) q2_122 q2_119 q2_121 r1_0 q1_1 hd_X9_finding ⟨rfl, rfl⟩ ⟨Nat.le_of_ble_eq_true rfl, Nat.le_of_ble_eq_true rfl⟩ cx_0 (by decide) rfl hP hS hl.1 rfl rfl (Nat.le_of_ble_eq_true rfl) dX9_owe_47 (fun H locs hP hS => ?_)
        refine W.eq (g2 := F0 m 50 ls [.int r9]) rfl ?_
        obtain ⟨rfl, rfl⟩ := some2 h
        exact x_iret C0 hP hS dX9_owe_50
    · rw [if_pos c5] at h
      exact w_X9_owe_18 C0   μ4 _ _ _ hP hS (lv_sub hl [0] rfl) h
def X9_isPart (x0 : Int32) (μ : Mem) : Option (Int32 × Mem) :=
  (if x0 < (0 : Int32) then some ((0 : Int32), μ) else (if (200 : Int32) < x0 then some ((0 : Int32), μ) else some ((1 : Int32), μ)))
set_option maxRecDepth 100000 in
set_option maxHeartbeats 4000000 in
theorem c_X9_isPart (l : Launch) (g : Gx) (x0 : Int32) (μ : Mem) {r : Int32} {ν : Mem} (h : X9_isPart x0 μ = some (r, ν)) : Ct Lx g l yX9_isPart cX9_isPart 1 (some .boolean) { frames := 0, cells := 0, slots := 0, locals := 0 } [.int x0] μ (some (.int r)) ν := by
  refine x_met (lv := [(0, .int x0)]) rfl (Nat.le_of_ble_eq_true rfl) rfl ?_
  intro p e s m below meth c C0 hP ls hl
  generalize ([.int x0] : List Value).toArray = args at C0 ⊢
  have C0 : Cx Lx g p s m args meth c cX9_isPart 1 (some .boolean) RX9 := C0
  have hS : va_S (Ax Lx g) s.heap s.heap [] := va_S.rf
  obtain ⟨hx, hb, hr, hml, hown, hts, hlocks, hK⟩ := id C0
  unfold X9_isPart at h
  skip
  refine lv_iload_n hx hb dX9_isPart_0 rfl (lv_at hl 0 rfl) ?_
  refine lv_if_lt (tgt := 15) hx hb dX9_isPart_1 (by decide) (fun c1 => ?_) (fun c1 => ?_)
  · rw [if_pos c1] at h
    refine lv_iconst (v := (0 : Int32)) hx hb dX9_isPart_15 rfl ?_
    obtain ⟨rfl, rfl⟩ := some2 h
    exact x_zret C0 hP hS (by decide) dX9_isPart_16
  · rw [if_neg c1] at h
    refine lv_iload_n hx hb dX9_isPart_4 rfl (lv_at hl 0 rfl) ?_
    refine lv_sipush (v := (200 : Int32)) hx hb dX9_isPart_5 (by decide +kernel) ?_
    refine lv_icmp_gt (tgt := 15) hx hb dX9_isPart_8 (by decide) (fun c2 => ?_) (fun c2 => ?_)
    · rw [if_pos c2] at h
      refine lv_iconst (v := (0 : Int32)) hx hb dX9_isPart_15 rfl ?_
      obtain ⟨rfl, rfl⟩ := some2 h
      exact x_zret C0 hP hS (by decide) dX9_isPart_16
    · rw [if_neg c2] at h
      refine lv_iconst (v := (1 : Int32)) hx hb dX9_isPart_11 rfl ?_
      refine lv_goto (tgt := 16) hx hb dX9_isPart_12 (by decide) ?_
      obtain ⟨rfl, rfl⟩ := some2 h
      exact x_zret C0 hP hS (by decide) dX9_isPart_16
