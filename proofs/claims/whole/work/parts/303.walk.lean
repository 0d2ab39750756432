def X1_allowForcing (a1 : Nat) (x2 : Int32) (μ : Mem) : Option (Int32 × Mem) :=
  ob2 (X1_ruling (3 : Int32) x2 μ) fun r1 μ1 => ob2 (X1_has r1 μ1) fun r2 μ2 => (if r2 = (0 : Int32) then (if (μ2 a1 6) ≤ (10000 : Int32) then some ((0 : Int32), μ2) else some ((1 : Int32), μ2)) else (if (μ2 a1 6) ≤ (0 : Int32) then some ((0 : Int32), μ2) else ob2 (X1_worth r1 a1 x2 (0 : Int32) μ2) fun r6 μ6 => (if r6 = (0 : Int32) then some ((0 : Int32), μ6) else some ((1 : Int32), μ6))))
set_option maxRecDepth 100000 in
set_option maxHeartbeats 4000000 in
theorem c_X1_allowForcing (l : Launch) (g : Gx) (a1 : Nat) (hi1 : Id2 a1) (x2 : Int32) (μ : Mem) {r : Int32} {ν : Mem} (h : X1_allowForcing a1 x2 μ = some (r, ν)) : Ct Lx g l yX1_allowForcing cX1_allowForcing 4 (some .boolean) { frames := 2, cells := 0, slots := 0, locals := 52 } [.ref (g.2.2.1 + 8), .ref (g.2.2.1 + a1), .int x2] μ (some (.int r)) ν := by
  refine x_met (lv := [(0, .ref (g.2.2.1 + 8)), (1, .ref (g.2.2.1 + a1)), (2, .int x2)]) rfl (Nat.le_of_ble_eq_true rfl) rfl ?_
  intro p e s m below meth c C0 hP ls hl
  generalize ([.ref (g.2.2.1 + 8), .ref (g.2.2.1 + a1), .int x2] : List Value).toArray = args at C0 ⊢
  have C0 : Cx Lx g p s m args meth c cX1_allowForcing 4 (some .boolean) RX1 := C0
  have hS : va_S (Ax Lx g) s.heap s.heap [] := va_S.rf
  obtain ⟨hx, hb, hr, hml, hown, hts, hlocks, hK⟩ := id C0
  unfold X1_allowForcing at h
  skip
  refine lv_aload_n hx hb dX1_allowForcing_0 rfl (lv_at hl 0 rfl) ?_
  refine lv_iconst (v := (3 : Int32)) hx hb dX1_allowForcing_1 rfl ?_
  refine lv_iload_n hx hb dX1_allowForcing_2 rfl (lv_at hl 2 rfl) ?_
  obtain ⟨r1, μ1, h1, h⟩ := ob2_some h
  refine x_callV C0 (rest := []) (q := (RX1, TX1, 6)) (c_X1_ruling l g (3 : Int32) x2 μ h1) q2_135 q2_205 q2_133 q2_134 q1_4 hd_X1_ruling ⟨rfl, rfl⟩ ⟨Nat.le_of_ble_eq_true rfl, Nat.le_of_ble_eq_true rfl⟩ cx_8 (by decide) rfl hP hS hl.1 rfl rfl (Nat.le_of_ble_eq_true rfl) dX1_allowForcing_3 (fun H locs hP hS => ?_)
  refine W.eq (g2 := F0 m 6 ls [.int r1]) rfl ?_
  refine lv_istore_n (lv' := [(3, .int r1), (0, .ref (g.2.2.1 + 8)), (1, .ref (g.2.2.1 + a1)), (2, .int x2)]) hx hb dX1_allowForcing_6 rfl hl (by decide) rfl (fun ls hl => ?_)
  refine lv_aload_n hx hb dX1_allowForcing_7 rfl (lv_at hl 1 rfl) ?_
  refine lv_iload_n hx hb dX1_allowForcing_8 rfl (lv_at hl 0 rfl) ?_
  obtain ⟨r2, μ2, h1, h⟩ := ob2_some h
  refine x_callV C0 (rest := []) (q := (RX1, TX1, 6)) (c_X1_has l g r1 μ1 h1) q2_209 q2_206 q2_207 q2_208 q1_4 hd_X1_has ⟨rfl, rfl⟩ ⟨Nat.le_of_ble_eq_true rfl, Nat.le_of_ble_eq_true rfl⟩ cx_8 (by decide) rfl hP hS hl.1 rfl rfl (Nat.le_of_ble_eq_true rfl) dX1_allowForcing_9 (fun H locs hP hS => ?_)
  refine W.eq (g2 := F0 m 12 ls [.int r2]) rfl ?_
  refine lv_if_eq (tgt := 41) hx hb dX1_allowForcing_12 (by decide) (fun c3 => ?_) (fun c3 => ?_)
  · rw [if_pos c3] at h
    refine lv_aload_n hx hb dX1_allowForcing_41 rfl (lv_at hl 2 rfl) ?_
    refine x_get C0 hP inu2 (k := a1) (id2_0 hi1) (by decide) rfl 6 (by decide) q1_163 rfl (v := .int (μ2 a1 6)) rfl dX1_allowForcing_42 ?_
    refine lv_sipush (v := (10000 : Int32)) hx hb dX1_allowForcing_45 (by decide +kernel) ?_
    refine lv_icmp_le (tgt := 55) hx hb dX1_allowForcing_48 (by decide) (fun c4 => ?_) (fun c4 => ?_)
    · rw [if_pos c4] at h
      refine lv_iconst (v := (0 : Int32)) hx hb dX1_allowForcing_55 rfl ?_
      obtain ⟨rfl, rfl⟩ := some2 h
      exact x_zret C0 hP hS (by decide) dX1_allowForcing_56
    · rw [if_neg c4] at h
      refine lv_iconst (v := (1 : Int32)) hx hb dX1_allowForcing_51 rfl ?_
      refine lv_goto (tgt := 56) hx hb dX1_allowForcing_52 (by decide) ?_
      obtain ⟨rfl, rfl⟩ := some2 h
      exact x_zret C0 hP hS (by decide) dX1_allowForcing_56
  · rw [if_neg c3] at h
    refine lv_aload_n hx hb dX1_allowForcing_15 rfl (lv_at hl 2 rfl) ?_
    refine x_get C0 hP inu2 (k := a1) (id2_0 hi1) (by decide) rfl 6 (by decide) q1_163 rfl (v := .int (μ2 a1 6)) rfl dX1_allowForcing_16 ?_
    refine lv_if_le (tgt := 37) hx hb dX1_allowForcing_19 (by decide) (fun c5 => ?_) (fun c5 => ?_)
    · rw [if_pos c5] at h
      refine lv_iconst (v := (0 : Int32)) hx hb dX1_allowForcing_37 rfl ?_
      refine lv_goto (tgt := 56) hx hb dX1_allowForcing_38 (by decide) ?_
      obtain ⟨rfl, rfl⟩ := some2 h
      exact x_zret C0 hP hS (by decide) dX1_allowForcing_56
    · rw [if_neg c5] at h
      refine lv_aload_n hx hb dX1_allowForcing_22 rfl (lv_at hl 1 rfl) ?_
      refine lv_iload_n hx hb dX1_allowForcing_23 rfl (lv_at hl 0 rfl) ?_
      refine lv_aload_n hx hb dX1_allowForcing_24 rfl (lv_at hl 2 rfl) ?_
      refine lv_iload_n hx hb dX1_allowForcing_25 rfl (lv_at hl 3 rfl) ?_
      refine lv_iconst (v := (0 : Int32)) hx hb dX1_allowForcing_26 rfl ?_
      obtain ⟨r6, μ6, h1, h⟩ := ob2_some h
      refine x_callV C0 (rest := []) (q := (RX1, TX1, 6)) (c_X1_worth l g r1 a1 hi1 x2 (0 : Int32) μ2 h1) q2_213 q2_210 q2_211 q2_212 q1_4 hd_X1_worth ⟨rfl, rfl⟩ ⟨Nat.le_of_ble_eq_true rfl, Nat.le_of_ble_eq_true rfl⟩ cx_8 (by decide) rfl hP hS hl.1 rfl rfl (Nat.le_of_ble_eq_true rfl) dX1_allowForcing_27 (fun H locs hP hS => ?_)
      refine W.eq (g2 := F0 m 30 ls [.int r6]) rfl ?_
      refine lv_if_eq (tgt := 37) hx hb dX1_allowForcing_30 (by decide) (fun c7 => ?_) (fun c7 => ?_)
      · rw [if_pos c7] at h
        refine lv_iconst (v := (0 : Int32)) hx hb dX1_allowForcing_37 rfl ?_
        refine lv_goto (tgt := 56) hx hb dX1_allowForcing_38 (by decide) ?_
        obtain ⟨rfl, rfl⟩ := some2 h
        exact x_zret C0 hP hS (by decide) dX1_allowForcing_56
      · rw [if_neg c7] at h
        refine lv_iconst (v := (1 : Int32)) hx hb dX1_allowForcing_33 rfl ?_
        refine lv_goto (tgt := 56) hx hb dX1_allowForcing_34 (by decide) ?_
        obtain ⟨rfl, rfl⟩ := some2 h
        exact x_zret C0 hP hS (by decide) dX1_allowForcing_56
def X1_copyFrom (a0 : Nat) (a1 : Nat) (μ : Mem) : Option Mem :=
  lt (st μ a0 5 (μ a1 5)) fun μ1 => lt (str μ1 (a0 + 1) (va_cpy (μ1 (a1 + 1)) (μ1 (a0 + 1)) 0 0 12)) fun μ2 => lt (str μ2 (a0 + 2) (va_cpy (μ2 (a1 + 2)) (μ2 (a0 + 2)) 0 0 12)) fun μ3 => lt (str μ3 (a0 + 3) (va_cpy (μ3 (a1 + 3)) (μ3 (a0 + 3)) 0 0 12)) fun μ4 => lt (str μ4 (a0 + 4) (va_cpy (μ4 (a1 + 4)) (μ4 (a0 + 4)) 0 0 720)) fun μ5 => some μ5
set_option maxRecDepth 100000 in
set_option maxHeartbeats 4000000 in
theorem c_X1_copyFrom (l : Launch) (g : Gx) (a0 : Nat) (hi0 : Id1 a0) (a1 : Nat) (hi1 : Id1 a1) (μ : Mem) {ν : Mem} (h : X1_copyFrom a0 a1 μ = some ν) : Ct Lx g l yX1_copyFrom cX1_copyFrom 2 none { frames := 1, cells := 0, slots := 0, locals := 18 } [.ref (g.2.2.1 + a0), .ref (g.2.2.1 + a1)] μ none ν := by
  refine x_met (lv := [(0, .ref (g.2.2.1 + a0)), (1, .ref (g.2.2.1 + a1))]) rfl (Nat.le_of_ble_eq_true rfl) rfl ?_
  intro p e s m below meth c C0 hP ls hl
  generalize ([.ref (g.2.2.1 + a0), .ref (g.2.2.1 + a1)] : List Value).toArray = args at C0 ⊢
  have C0 : Cx Lx g p s m args meth c cX1_copyFrom 2 none RX1 := C0
  have hS : va_S (Ax Lx g) s.heap s.heap [] := va_S.rf
  obtain ⟨hx, hb, hr, hml, hown, hts, hlocks, hK⟩ := id C0
  unfold X1_copyFrom at h
  skip
  refine lv_aload_n hx hb dX1_copyFrom_0 rfl (lv_at hl 0 rfl) ?_
  refine lv_aload_n hx hb dX1_copyFrom_1 rfl (lv_at hl 1 rfl) ?_
  refine x_get C0 hP inu1 (k := a1) (id1_0 hi1) (by decide) rfl 5 (by decide) q1_66 rfl (v := .int (μ a1 5)) rfl dX1_copyFrom_2 ?_
  obtain ⟨μ1, e1, h⟩ := lt_some h
  refine x_put C0 hP hS inu1 tyX1 tyX1_ok nmX1 (k := a0) (id1_0 hi0) (by decide) rfl 5 (by decide) q1_66 rfl rfl (v := .int (μ a1 5)) (x := (μ a1 5)) rfl rfl (Nat.le_of_ble_eq_true rfl) (os_1_5 _ _ _ _) dX1_copyFrom_5 (fun H locs hP hS => ?_)
  rw [← e1] at hP
  refine lv_aload_n hx hb dX1_copyFrom_8 rfl (lv_at hl 1 rfl) ?_
  refine x_get C0 hP inu1 (k := a1) (id1_0 hi1) (by decide) rfl 0 (by decide) q1_61 rfl (v := .ref (g.2.2.1 + (a1 + 1))) rfl dX1_copyFrom_9 ?_
  refine lv_iconst (v := (0 : Int32)) hx hb dX1_copyFrom_12 rfl ?_
  refine lv_aload_n hx hb dX1_copyFrom_13 rfl (lv_at hl 0 rfl) ?_
  refine x_get C0 hP inu1 (k := a0) (id1_0 hi0) (by decide) rfl 0 (by decide) q1_61 rfl (v := .ref (g.2.2.1 + (a0 + 1))) rfl dX1_copyFrom_14 ?_
  refine lv_iconst (v := (0 : Int32)) hx hb dX1_copyFrom_17 rfl ?_
  refine lv_bipush (v := (12 : Int32)) hx hb dX1_copyFrom_18 (by decide +kernel) ?_
  obtain ⟨μ2, e2, h⟩ := lt_some h
  refine x_copyi C0 hP hS hl.1 (k0 := (a1 + 1)) (k1 := (a0 + 1)) (id1_1 hi1) (id1_1 hi0) q3_122 q3_124 q3_123 q1_13 (by decide) (sp2 := 0) (dp2 := 0) (n2 := 12) rfl rfl rfl (Nat.le_of_ble_eq_true rfl) (Nat.le_of_ble_eq_true rfl) dX1_copyFrom_20 (fun H locs hP hS => ?_)
  rw [← e2] at hP
  refine lv_aload_n hx hb dX1_copyFrom_23 rfl (lv_at hl 1 rfl) ?_
  refine x_get C0 hP inu1 (k := a1) (id1_0 hi1) (by decide) rfl 1 (by decide) q1_62 rfl (v := .ref (g.2.2.1 + (a1 + 2))) rfl dX1_copyFrom_24 ?_
  refine lv_iconst (v := (0 : Int32)) hx hb dX1_copyFrom_27 rfl ?_
  refine lv_aload_n hx hb dX1_copyFrom_28 rfl (lv_at hl 0 rfl) ?_
  refine x_get C0 hP inu1 (k := a0) (id1_0 hi0) (by decide) rfl 1 (by decide) q1_62 rfl (v := .ref (g.2.2.1 + (a0 + 2))) rfl dX1_copyFrom_29 ?_
  refine lv_iconst (v := (0 : Int32)) hx hb dX1_copyFrom_32 rfl ?_
  refine lv_bipush (v := (12 : Int32)) hx hb dX1_copyFrom_33 (by decide +kernel) ?_
  obtain ⟨μ3, e3, h⟩ := lt_some h
  refine x_copyi C0 hP hS hl.1 (k0 := (a1 + 2)) (k1 := (a0 + 2)) (id1_2 hi1) (id1_2 hi0) q3_122 q3_124 q3_123 q1_13 (by decide) (sp2 := 0) (dp2 := 0) (n2 := 12) rfl rfl rfl (Nat.le_of_ble_eq_true rfl) (Nat.le_of_ble_eq_true rfl) dX1_copyFrom_35 (fun H locs hP hS => ?_)
  rw [← e3] at hP
  refine lv_aload_n hx hb dX1_copyFrom_38 rfl (lv_at hl 1 rfl) ?_
  refine x_get C0 hP inu1 (k := a1) (id1_0 hi1) (by decide) rfl 2 (by decide) q1_63 rfl (v := .ref (g.2.2.1 + (a1 + 3))) rfl dX1_copyFrom_39 ?_
  refine lv_iconst (v := (0 : Int32)) hx hb dX1_copyFrom_42 rfl ?_
  refine lv_aload_n hx hb dX1_copyFrom_43 rfl (lv_at hl 0 rfl) ?_
  refine x_get C0 hP inu1 (k := a0) (id1_0 hi0) (by decide) rfl 2 (by decide) q1_63 rfl (v := .ref (g.2.2.1 + (a0 + 3))) rfl dX1_copyFrom_44 ?_
  refine lv_iconst (v := (0 : Int32)) hx hb dX1_copyFrom_47 rfl ?_
  refine lv_bipush (v := (12 : Int32)) hx hb dX1_copyFrom_48 (by decide +kernel) ?_
  obtain ⟨μ4, e4, h⟩ := lt_some h
  refine x_copyi C0 hP hS hl.1 (k0 := (a1 + 3)) (k1 := (a0 + 3)) (id1_3 hi1) (id1_3 hi0) q3_122 q3_124 q3_123 q1_13 (by decide) (sp2 := 0) (dp2 := 0) (n2 := 12) rfl rfl rfl (Nat.le_of_ble_eq_true rfl) (Nat.le_of_ble_eq_true rfl) dX1_copyFrom_50 (fun H locs hP hS => ?_)
  rw [← e4] at hP
  refine lv_aload_n hx hb dX1_copyFrom_53 rfl (lv_at hl 1 rfl) ?_
  refine x_get C0 hP inu1 (k := a1) (id1_0 hi1) (by decide) rfl 3 (by decide) q1_64 rfl (v := .ref (g.2.2.1 + (a1 + 4))) rfl dX1_copyFrom_54 ?_
  refine lv_iconst (v := (0 : Int32)) hx hb dX1_copyFrom_57 rfl ?_
  refine lv_aload_n hx hb dX1_copyFrom_58 rfl (lv_at hl 0 rfl) ?_
  refine x_get C0 hP inu1 (k := a0) (id1_0 hi0) (by decide) rfl 3 (by decide) q1_64 rfl (v := .ref (g.2.2.1 + (a0 + 4))) rfl dX1_copyFrom_59 ?_
  refine lv_iconst (v := (0 : Int32)) hx hb dX1_copyFrom_62 rfl ?_
  refine lv_sipush (v := (720 : Int32)) hx hb dX1_copyFrom_63 (by decide +kernel) ?_
  obtain ⟨μ5, e5, h⟩ := lt_some h
  refine x_copyi C0 hP hS hl.1 (k0 := (a1 + 4)) (k1 := (a0 + 4)) (id1_4 hi1) (id1_4 hi0) q3_122 q3_124 q3_123 q1_13 (by decide) (sp2 := 0) (dp2 := 0) (n2 := 720) rfl rfl rfl (Nat.le_of_ble_eq_true rfl) (Nat.le_of_ble_eq_true rfl) dX1_copyFrom_66 (fun H locs hP hS => ?_)
  rw [← e5] at hP
  obtain rfl := some1 h
  exact x_vret C0 hP hS dX1_copyFrom_69
def X2_begin_79  : Nat → Nat → Int32 → Mem → Option Mem
  | 0, _, _, _ => none
  | n + 1, a0, x4, μ => (if (24 : Int32) ≤ x4 then some μ else gd (inB x4 24) (lt (st μ (a0 + 1) x4.toNatClampNeg (1 : Int32)) fun μ17 => (X2_begin_79 n) a0 (x4 + (1 : Int32)) μ17))
set_option maxRecDepth 100000 in
set_option maxHeartbeats 4000000 in
theorem w_X2_begin_79 {g : Gx} {p : Program} {l : Launch} {e : Env} {s : State} {m : MethodId} {args : Array Value} {below : List Frame} {meth : Method} {c : Code} (C0 : Cx Lx g p s m args meth c cX2_begin 5 none RX2) {ν : Mem}  (n : Nat) : ∀ (a0 : Nat) (ha0 : Id2 a0) (x4 : Int32) (μ : Mem) (H : Heap) (locs : List Loc) (ls : Array Slot), Px Lx g μ H → va_S (Ax Lx g) s.heap H locs → lv_has ls 5 [(0, .ref (g.2.2.1 + a0)), (4, .int x4)] → X2_begin_79  n a0 x4 μ = some ν → W p l e { frames := 0, cells := 0, slots := 0, locals := 0 } s m args below meth c H locs 0 0 (MQ below (Qx Lx g none ν) args s 0 0 (Ax Lx g)) (F0 m 79 ls []) := by
  obtain ⟨hx, hb, hr, hml, hown, hts, hlocks, hK⟩ := id C0
  induction n with
  | zero =>
    intro a0 ha0 x4 μ H locs ls hP hS hl h
    have h : (none : Option Mem) = some ν := h
    cases h
  | succ n ih =>
    intro a0 ha0 x4 μ H locs ls hP hS hl h
    rw [X2_begin_79.eq_2] at h
    refine lv_iload hx hb dX2_begin_79 (lv_at hl 1 rfl) ?_
    refine lv_aload_n hx hb dX2_begin_81 rfl (lv_at hl 0 rfl) ?_
    refine x_get C0 hP inu2 (k := a0) (id2_0 ha0) (by decide) rfl 0 (by decide) q1_139 rfl (v := .ref (g.2.2.1 + (a0 + 1))) rfl dX2_begin_82 ?_
    refine x_alen C0 hP (k := (a0 + 1)) (Or.inl (id2_1 ha0)) (v := (24 : Int32)) rfl dX2_begin_85 ?_
    refine lv_icmp_ge (tgt := 103) hx hb dX2_begin_86 (by decide) (fun c15 => ?_) (fun c15 => ?_)
    · rw [if_pos c15] at h
      obtain rfl := some1 h
      exact x_vret C0 hP hS dX2_begin_103
    · rw [if_neg c15] at h
      refine lv_aload_n hx hb dX2_begin_89 rfl (lv_at hl 0 rfl) ?_
      refine x_get C0 hP inu2 (k := a0) (id2_0 ha0) (by decide) rfl 0 (by decide) q1_139 rfl (v := .ref (g.2.2.1 + (a0 + 1))) rfl dX2_begin_90 ?_
      refine lv_iload hx hb dX2_begin_93 (lv_at hl 1 rfl) ?_
      refine lv_iconst (v := (1 : Int32)) hx hb dX2_begin_95 rfl ?_
      obtain ⟨z16, h⟩ := gd_some h
      obtain ⟨μ17, e17, h⟩ := lt_some h
      refine x_iast C0 hP hS (k := (a0 + 1)) (id2_1 ha0) (j := x4.toNatClampNeg) z16 rfl dX2_begin_96 (fun H locs hP hS => ?_)
      rw [← e17] at hP
      refine lv_iinc (v := (x4 + (1 : Int32))) (lv' := [(4, .int (x4 + (1 : Int32))), (0, .ref (g.2.2.1 + a0))]) hx hb dX2_begin_97 hl (k := 1) rfl rfl (by decide) rfl (fun ls hl => ?_)
      refine lv_goto (tgt := 79) hx hb dX2_begin_100 (by decide) ?_
      exact ih a0 ha0 (x4 + (1 : Int32)) μ17 _ _ _ hP hS (lv_sub hl [1, 0] rfl) h
def X2_begin (a0 : Nat) (x1 : Int32) (x2 : Int32) (x3 : Int32) (μ : Mem) : Option Mem :=
  lt (st μ a0 1 x1) fun μ1 => lt (st μ1 a0 2 x2) fun μ2 => lt (st μ2 a0 3 (x3 / (100 : Int32))) fun μ3 => lt (st μ3 a0 4 (x3 - x3 / (100 : Int32) * (100 : Int32))) fun μ4 => lt (st μ4 a0 5 (0 : Int32)) fun μ5 => lt (st μ5 a0 6 (0 : Int32)) fun μ6 => lt (st μ6 a0 7 (0 : Int32)) fun μ7 => lt (st μ7 a0 8 (1 : Int32)) fun μ8 => lt (st μ8 a0 9 (0 : Int32)) fun μ9 => lt (st μ9 a0 10 (0 : Int32)) fun μ10 => lt (st μ10 a0 11 (0 : Int32)) fun μ11 => lt (st μ11 a0 12 (0 : Int32)) fun μ12 => lt (st μ12 a0 13 (0 : Int32)) fun μ13 => lt (st μ13 a0 14 (-1 : Int32)) fun μ14 => X2_begin_79 FU a0 (0 : Int32) μ14
set_option maxRecDepth 100000 in
set_option maxHeartbeats 4000000 in
theorem c_X2_begin (l : Launch) (g : Gx) (a0 : Nat) (hi0 : Id2 a0) (x1 : Int32) (x2 : Int32) (x3 : Int32) (μ : Mem) {ν : Mem} (h : X2_begin a0 x1 x2 x3 μ = some ν) : Ct Lx g l yX2_begin cX2_begin 5 none { frames := 0, cells := 0, slots := 0, locals := 0 } [.ref (g.2.2.1 + a0), .int x1, .int x2, .int x3] μ none ν := by
  refine x_met (lv := [(0, .ref (g.2.2.1 + a0)), (1, .int x1), (2, .int x2), (3, .int x3)]) rfl (Nat.le_of_ble_eq_true rfl) rfl ?_
  intro p e s m below meth c C0 hP ls hl
  generalize ([.ref (g.2.2.1 + a0), .int x1, .int x2, .int x3] : List Value).toArray = args at C0 ⊢
  have C0 : Cx Lx g p s m args meth c cX2_begin 5 none RX2 := C0
  have hS : va_S (Ax Lx g) s.heap s.heap [] := va_S.rf
  obtain ⟨hx, hb, hr, hml, hown, hts, hlocks, hK⟩ := id C0
  unfold X2_begin at h
  skip
  refine lv_aload_n hx hb dX2_begin_0 rfl (lv_at hl 0 rfl) ?_
  refine lv_iload_n hx hb dX2_begin_1 rfl (lv_at hl 1 rfl) ?_
  obtain ⟨μ1, e1, h⟩ := lt_some h
  refine x_put C0 hP hS inu2 tyX2 tyX2_ok nmX2 (k := a0) (id2_0 hi0) (by decide) rfl 1 (by decide) q1_142 rfl rfl (v := .int x1) (x := x1) rfl rfl (Nat.le_of_ble_eq_true rfl) (os_2_1 _ _ _ _) dX2_begin_2 (fun H locs hP hS => ?_)
  rw [← e1] at hP
  refine lv_aload_n hx hb dX2_begin_5 rfl (lv_at hl 0 rfl) ?_
  refine lv_iload_n hx hb dX2_begin_6 rfl (lv_at hl 2 rfl) ?_
  obtain ⟨μ2, e2, h⟩ := lt_some h
  refine x_put C0 hP hS inu2 tyX2 tyX2_ok nmX2 (k := a0) (id2_0 hi0) (by decide) rfl 2 (by decide) q1_145 rfl rfl (v := .int x2) (x := x2) rfl rfl (Nat.le_of_ble_eq_true rfl) (os_2_2 _ _ _ _) dX2_begin_7 (fun H locs hP hS => ?_)
  rw [← e2] at hP
  refine lv_aload_n hx hb dX2_begin_10 rfl (lv_at hl 0 rfl) ?_
  refine lv_iload_n hx hb dX2_begin_11 rfl (lv_at hl 3 rfl) ?_
  refine lv_bipush (v := (100 : Int32)) hx hb dX2_begin_12 (by decide +kernel) ?_
  refine lv_idiv hx hb dX2_begin_14 (by decide) ?_
  obtain ⟨μ3, e3, h⟩ := lt_some h
  refine x_put C0 hP hS inu2 tyX2 tyX2_ok nmX2 (k := a0) (id2_0 hi0) (by decide) rfl 3 (by decide) q1_150 rfl rfl (v := .int (x3 / (100 : Int32))) (x := (x3 / (100 : Int32))) rfl rfl (Nat.le_of_ble_eq_true rfl) (os_2_3 _ _ _ _) dX2_begin_15 (fun H locs hP hS => ?_)
  rw [← e3] at hP
  refine lv_aload_n hx hb dX2_begin_18 rfl (lv_at hl 0 rfl) ?_
  refine lv_iload_n hx hb dX2_begin_19 rfl (lv_at hl 3 rfl) ?_
  refine lv_bipush (v := (100 : Int32)) hx hb dX2_begin_20 (by decide +kernel) ?_
  refine lv_irem hx hb dX2_begin_22 (by decide) ?_
  obtain ⟨μ4, e4, h⟩ := lt_some h
  refine x_put C0 hP hS inu2 tyX2 tyX2_ok nmX2 (k := a0) (id2_0 hi0) (by decide) rfl 4 (by decide) q1_153 rfl rfl (v := .int (x3 - x3 / (100 : Int32) * (100 : Int32))) (x := (x3 - x3 / (100 : Int32) * (100 : Int32))) rfl rfl (Nat.le_of_ble_eq_true rfl) (os_2_4 _ _ _ _) dX2_begin_23 (fun H locs hP hS => ?_)
  rw [← e4] at hP
  refine lv_aload_n hx hb dX2_begin_26 rfl (lv_at hl 0 rfl) ?_
  refine lv_iconst (v := (0 : Int32)) hx hb dX2_begin_27 rfl ?_
  obtain ⟨μ5, e5, h⟩ := lt_some h
  refine x_put C0 hP hS inu2 tyX2 tyX2_ok nmX2 (k := a0) (id2_0 hi0) (by decide) rfl 5 (by decide) q1_156 rfl rfl (v := .int (0 : Int32)) (x := (0 : Int32)) rfl rfl (Nat.le_of_ble_eq_true rfl) (os_2_5 _ _ _ _) dX2_begin_28 (fun H locs hP hS => ?_)
  rw [← e5] at hP
  refine lv_aload_n hx hb dX2_begin_31 rfl (lv_at hl 0 rfl) ?_
  refine lv_iconst (v := (0 : Int32)) hx hb dX2_begin_32 rfl ?_
  obtain ⟨μ6, e6, h⟩ := lt_some h
  refine x_put C0 hP hS inu2 tyX2 tyX2_ok nmX2 (k := a0) (id2_0 hi0) (by decide) rfl 6 (by decide) q1_160 rfl rfl (v := .int (0 : Int32)) (x := (0 : Int32)) rfl rfl (Nat.le_of_ble_eq_true rfl) (os_2_6 _ _ _ _) dX2_begin_33 (fun H locs hP hS => ?_)
  rw [← e6] at hP
  refine lv_aload_n hx hb dX2_begin_36 rfl (lv_at hl 0 rfl) ?_
  refine lv_iconst (v := (0 : Int32)) hx hb dX2_begin_37 rfl ?_
  obtain ⟨μ7, e7, h⟩ := lt_some h
  refine x_put C0 hP hS inu2 tyX2 tyX2_ok nmX2 (k := a0) (id2_0 hi0) (by decide) rfl 7 (by decide) q1_164 rfl rfl (v := .int (0 : Int32)) (x := (0 : Int32)) rfl rfl (Nat.le_of_ble_eq_true rfl) (os_2_7 _ _ _ _) dX2_begin_38 (fun H locs hP hS => ?_)
  rw [← e7] at hP
  refine lv_aload_n hx hb dX2_begin_41 rfl (lv_at hl 0 rfl) ?_
  refine lv_iconst (v := (1 : Int32)) hx hb dX2_begin_42 rfl ?_
  obtain ⟨μ8, e8, h⟩ := lt_some h
  refine x_put C0 hP hS inu2 tyX2 tyX2_ok nmX2 (k := a0) (id2_0 hi0) (by decide) rfl 8 (by decide) q1_167 rfl rfl (v := .int (1 : Int32)) (x := (1 : Int32)) rfl rfl (Nat.le_of_ble_eq_true rfl) (os_2_8 _ _ _ _) dX2_begin_43 (fun H locs hP hS => ?_)
  rw [← e8] at hP
  refine lv_aload_n hx hb dX2_begin_46 rfl (lv_at hl 0 rfl) ?_
  refine lv_iconst (v := (0 : Int32)) hx hb dX2_begin_47 rfl ?_
  obtain ⟨μ9, e9, h⟩ := lt_some h
  refine x_put C0 hP hS inu2 tyX2 tyX2_ok nmX2 (k := a0) (id2_0 hi0) (by decide) rfl 9 (by decide) q1_170 rfl rfl (v := .int (0 : Int32)) (x := (0 : Int32)) rfl rfl (Nat.le_of_ble_eq_true rfl) (os_2_9 _ _ _ _) dX2_begin_48 (fun H locs hP hS => ?_)
  rw [← e9] at hP
  refine lv_aload_n hx hb dX2_begin_51 rfl (lv_at hl 0 rfl) ?_
  refine lv_iconst (v := (0 : Int32)) hx hb dX2_begin_52 rfl ?_
  obtain ⟨μ10, e10, h⟩ := lt_some h
  refine x_put C0 hP hS inu2 tyX2 tyX2_ok nmX2 (k := a0) (id2_0 hi0) (by decide) rfl 10 (by decide) q1_173 rfl rfl (v := .int (0 : Int32)) (x := (0 : Int32)) rfl rfl (Nat.le_of_ble_eq_true rfl) (os_2_10 _ _ _ _) dX2_begin_53 (fun H locs hP hS => ?_)
  rw [← e10] at hP
  refine lv_aload_n hx hb dX2_begin_56 rfl (lv_at hl 0 rfl) ?_
  refine lv_iconst (v := (0 : Int32)) hx hb dX2_begin_57 rfl ?_
  obtain ⟨μ11, e11, h⟩ := lt_some h
  refine x_put C0 hP hS inu2 tyX2 tyX2_ok nmX2 (k := a0) (id2_0 hi0) (by decide) rfl 11 (by decide) q1_176 rfl rfl (v := .int (0 : Int32)) (x := (0 : Int32)) rfl rfl (Nat.le_of_ble_eq_true rfl) (os_2_11 _ _ _ _) dX2_begin_58 (fun H locs hP hS => ?_)
  rw [← e11] at hP
  refine lv_aload_n hx hb dX2_begin_61 rfl (lv_at hl 0 rfl) ?_
  refine lv_iconst (v := (0 : Int32)) hx hb dX2_begin_62 rfl ?_
  obtain ⟨μ12, e12, h⟩ := lt_some h
  refine x_put C0 hP hS inu2 tyX2 tyX2_ok nmX2 (k := a0) (id2_0 hi0) (by decide) rfl 12 (by decide) q1_180 rfl rfl (v := .int (0 : Int32)) (x := (0 : Int32)) rfl rfl (Nat.le_of_ble_eq_true rfl) (os_2_12 _ _ _ _) dX2_begin_63 (fun H locs hP hS => ?_)
  rw [← e12] at hP
  refine lv_aload_n hx hb dX2_begin_66 rfl (lv_at hl 0 rfl) ?_
  refine lv_iconst (v := (0 : Int32)) hx hb dX2_begin_67 rfl ?_
  obtain ⟨μ13, e13, h⟩ := lt_some h
  refine x_put C0 hP hS inu2 tyX2 tyX2_ok nmX2 (k := a0) (id2_0 hi0) (by decide) rfl 13 (by decide) q1_183 rfl rfl (v := .int (0 : Int32)) (x := (0 : Int32)) rfl rfl (Nat.le_of_ble_eq_true rfl) (os_2_13 _ _ _ _) dX2_begin_68 (fun H locs hP hS => ?_)
  rw [← e13] at hP
  refine lv_aload_n hx hb dX2_begin_71 rfl (lv_at hl 0 rfl) ?_
  refine lv_iconst (v := (-1 : Int32)) hx hb dX2_begin_72 rfl ?_
  obtain ⟨μ14, e14, h⟩ := lt_some h
  refine x_put C0 hP hS inu2 tyX2 tyX2_ok nmX2 (k := a0) (id2_0 hi0) (by decide) rfl 14 (by decide) q1_186 rfl rfl (v := .int (-1 : Int32)) (x := (-1 : Int32)) rfl rfl (Nat.le_of_ble_eq_true rfl) (os_2_14 _ _ _ _) dX2_begin_73 (fun H locs hP hS => ?_)
  rw [← e14] at hP
  refine lv_iconst (v := (0 : Int32)) hx hb dX2_begin_76 rfl ?_
  refine lv_istore (lv' := [(4, .int (0 : Int32)), (0, .ref (g.2.2.1 + a0)), (1, .int x1), (2, .int x2), (3, .int x3)]) hx hb dX2_begin_77 hl (by decide) rfl (fun ls hl => ?_)
  exact w_X2_begin_79 C0  FU a0 hi0 (0 : Int32) μ14 _ _ _ hP hS (lv_sub hl [1, 0] rfl) h
def X2_copyFrom (a0 : Nat) (a1 : Nat) (μ : Mem) : Option Mem :=
  lt (st μ a0 1 (μ a1 1)) fun μ1 => lt (st μ1 a0 2 (μ1 a1 2)) fun μ2 => lt (st μ2 a0 3 (μ2 a1 3)) fun μ3 => lt (st μ3 a0 4 (μ3 a1 4)) fun μ4 => lt (st μ4 a0 5 (μ4 a1 5)) fun μ5 => lt (st μ5 a0 6 (μ5 a1 6)) fun μ6 => lt (st μ6 a0 7 (μ6 a1 7)) fun μ7 => gd ((μ7 a1 8) = 0 ∨ (μ7 a1 8) = 1) (lt (st μ7 a0 8 (μ7 a1 8)) fun μ9 => gd ((μ9 a1 9) = 0 ∨ (μ9 a1 9) = 1) (lt (st μ9 a0 9 (μ9 a1 9)) fun μ11 => lt (st μ11 a0 10 (μ11 a1 10)) fun μ12 => lt (st μ12 a0 11 (μ12 a1 11)) fun μ13 => lt (st μ13 a0 12 (μ13 a1 12)) fun μ14 => lt (st μ14 a0 13 (μ14 a1 13)) fun μ15 => lt (st μ15 a0 14 (μ15 a1 14)) fun μ16 => lt (str μ16 (a0 + 1) (va_cpy (μ16 (a1 + 1)) (μ16 (a0 + 1)) 0 0 24)) fun μ17 => some μ17))
set_option maxRecDepth 100000 in
set_option maxHeartbeats 4000000 in
theorem c_X2_copyFrom (l : Launch) (g : Gx) (a0 : Nat) (hi0 : Id2 a0) (a1 : Nat) (hi1 : Id2 a1) (μ : Mem) {ν : Mem} (h : X2_copyFrom a0 a1 μ = some ν) : Ct Lx g l yX2_copyFrom cX2_copyFrom 2 none { frames := 1, cells := 0, slots := 0, locals := 18 } [.ref (g.2.2.1 + a0), .ref (g.2.2.1 + a1)] μ none ν := by
  refine x_met (lv := [(0, .ref (g.2.2.1 + a0)), (1, .ref (g.2.2.1 + a1))]) rfl (Nat.le_of_ble_eq_true rfl) rfl ?_
  intro p e s m below meth c C0 hP ls hl
  generalize ([.ref (g.2.2.1 + a0), .ref (g.2.2.1 + a1)] : List Value).toArray = args at C0 ⊢
  have C0 : Cx Lx g p s m args meth c cX2_copyFrom 2 none RX2 := C0
  have hS : va_S (Ax Lx g) s.heap s.heap [] := va_S.rf
  obtain ⟨hx, hb, hr, hml, hown, hts, hlocks, hK⟩ := id C0
  unfold X2_copyFrom at h
  skip
  refine lv_aload_n hx hb dX2_copyFrom_0 rfl (lv_at hl 0 rfl) ?_
  refine lv_aload_n hx hb dX2_copyFrom_1 rfl (lv_at hl 1 rfl) ?_
  refine x_get C0 hP inu2 (k := a1) (id2_0 hi1) (by decide) rfl 1 (by decide) q1_142 rfl (v := .int (μ a1 1)) rfl dX2_copyFrom_2 ?_
  obtain ⟨μ1, e1, h⟩ := lt_some h
  refine x_put C0 hP hS inu2 tyX2 tyX2_ok nmX2 (k := a0) (id2_0 hi0) (by decide) rfl 1 (by decide) q1_142 rfl rfl (v := .int (μ a1 1)) (x := (μ a1 1)) rfl rfl (Nat.le_of_ble_eq_true rfl) (os_2_1 _ _ _ _) dX2_copyFrom_5 (fun H locs hP hS => ?_)
  rw [← e1] at hP
  refine lv_aload_n hx hb dX2_copyFrom_8 rfl (lv_at hl 0 rfl) ?_
  refine lv_aload_n hx hb dX2_copyFrom_9 rfl (lv_at hl 1 rfl) ?_
  refine x_get C0 hP inu2 (k := a1) (id2_0 hi1) (by decide) rfl 2 (by decide) q1_145 rfl (v := .int (μ1 a1 2)) rfl dX2_copyFrom_10 ?_
  obtain ⟨μ2, e2, h⟩ := lt_some h
  refine x_put C0 hP hS inu2 tyX2 tyX2_ok nmX2 (k := a0) (id2_0 hi0) (by decide) rfl 2 (by decide) q1_145 rfl rfl (v := .int (μ1 a1 2)) (x := (μ1 a1 2)) rfl rfl (Nat.le_of_ble_eq_true rfl) (os_2_2 _ _ _ _) dX2_copyFrom_13 (fun H locs hP hS => ?_)
  rw [← e2] at hP
  refine lv_aload_n hx hb dX2_copyFrom_16 rfl (lv_at hl 0 rfl) ?_
  refine lv_aload_n hx hb dX2_copyFrom_17 rfl (lv_at hl 1 rfl) ?_
  refine x_get C0 hP inu2 (k := a1) (id2_0 hi1) (by decide) rfl 3 (by decide) q1_150 rfl (v := .int (μ2 a1 3)) rfl dX2_copyFrom_18 ?_
  obtain ⟨μ3, e3, h⟩ := lt_some h
  refine x_put C0 hP hS inu2 tyX2 tyX2_ok nmX2 (k := a0) (id2_0 hi0) (by decide) rfl 3 (by decide) q1_150 rfl rfl (v := .int (μ2 a1 3)) (x := (μ2 a1 3)) rfl rfl (Nat.le_of_ble_eq_true rfl) (os_2_3 _ _ _ _) dX2_copyFrom_21 (fun H locs hP hS => ?_)
  rw [← e3] at hP
  refine lv_aload_n hx hb dX2_copyFrom_24 rfl (lv_at hl 0 rfl) ?_
  refine lv_aload_n hx hb dX2_copyFrom_25 rfl (lv_at hl 1 rfl) ?_
  refine x_get C0 hP inu2 (k := a1) (id2_0 hi1) (by decide) rfl 4 (by decide) q1_153 rfl (v := .int (μ3 a1 4)) rfl dX2_copyFrom_26 ?_
  obtain ⟨μ4, e4, h⟩ := lt_some h
  refine x_put C0 hP hS inu2 tyX2 tyX2_ok nmX2 (k := a0) (id2_0 hi0) (by decide) rfl 4 (by decide) q1_153 rfl rfl (v := .int (μ3 a1 4)) (x := (μ3 a1 4)) rfl rfl (Nat.le_of_ble_eq_true rfl) (os_2_4 _ _ _ _) dX2_copyFrom_29 (fun H locs hP hS => ?_)
  rw [← e4] at hP
  refine lv_aload_n hx hb dX2_copyFrom_32 rfl (lv_at hl 0 rfl) ?_
  refine lv_aload_n hx hb dX2_copyFrom_33 rfl (lv_at hl 1 rfl) ?_
  refine x_get C0 hP inu2 (k := a1) (id2_0 hi1) (by decide) rfl 5 (by decide) q1_156 rfl (v := .int (μ4 a1 5)) rfl dX2_copyFrom_34 ?_
  obtain ⟨μ5, e5, h⟩ := lt_some h
  refine x_put C0 hP hS inu2 tyX2 tyX2_ok nmX2 (k := a0) (id2_0 hi0) (by decide) rfl 5 (by decide) q1_156 rfl rfl (v := .int (μ4 a1 5)) (x := (μ4 a1 5)) rfl rfl (Nat.le_of_ble_eq_true rfl) (os_2_5 _ _ _ _) dX2_copyFrom_37 (fun H locs hP hS => ?_)
  rw [← e5] at hP
  refine lv_aload_n hx hb dX2_copyFrom_40 rfl (lv_at hl 0 rfl) ?_
  refine lv_aload_n hx hb dX2_copyFrom_41 rfl (lv_at hl 1 rfl) ?_
  refine x_get C0 hP inu2 (k := a1) (id2_0 hi1) (by decide) rfl 6 (by decide) q1_160 rfl (v := .int (μ5 a1 6)) rfl dX2_copyFrom_42 ?_
  obtain ⟨μ6, e6, h⟩ := lt_some h
  refine x_put C0 hP hS inu2 tyX2 tyX2_ok nmX2 (k := a0) (id2_0 hi0) (by decide) rfl 6 (by decide) q1_160 rfl rfl (v := .int (μ5 a1 6)) (x := (μ5 a1 6)) rfl rfl (Nat.le_of_ble_eq_true rfl) (os_2_6 _ _ _ _) dX2_copyFrom_45 (fun H locs hP hS => ?_)
  rw [← e6] at hP
  refine lv_aload_n hx hb dX2_copyFrom_48 rfl (lv_at hl 0 rfl) ?_
  refine lv_aload_n hx hb dX2_copyFrom_49 rfl (lv_at hl 1 rfl) ?_
  refine x_get C0 hP inu2 (k := a1) (id2_0 hi1) (by decide) rfl 7 (by decide) q1_164 rfl (v := .int (μ6 a1 7)) rfl dX2_copyFrom_50 ?_
  obtain ⟨μ7, e7, h⟩ := lt_some h
  refine x_put C0 hP hS inu2 tyX2 tyX2_ok nmX2 (k := a0) (id2_0 hi0) (by decide) rfl 7 (by decide) q1_164 rfl rfl (v := .int (μ6 a1 7)) (x := (μ6 a1 7)) rfl rfl (Nat.le_of_ble_eq_true rfl) (os_2_7 _ _ _ _) dX2_copyFrom_53 (fun H locs hP hS => ?_)
  rw [← e7] at hP
  refine lv_aload_n hx hb dX2_copyFrom_56 rfl (lv_at hl 0 rfl) ?_
  refine lv_aload_n hx hb dX2_copyFrom_57 rfl (lv_at hl 1 rfl) ?_
  refine x_get C0 hP inu2 (k := a1) (id2_0 hi1) (by decide) rfl 8 (by decide) q1_167 rfl (v := .int (μ7 a1 8)) rfl dX2_copyFrom_58 ?_
  obtain ⟨z8, h⟩ := gd_some h
  obtain ⟨μ9, e9, h⟩ := lt_some h
  refine x_put C0 hP hS inu2 tyX2 tyX2_ok nmX2 (k := a0) (id2_0 hi0) (by decide) rfl 8 (by decide) q1_167 rfl rfl (v := .int (μ7 a1 8)) (x := (μ7 a1 8)) (x_bool z8).1 (x_bool z8).2 (Nat.le_of_ble_eq_true rfl) (os_2_8 _ _ _ _) dX2_copyFrom_61 (fun H locs hP hS => ?_)
  rw [← e9] at hP
  refine lv_aload_n hx hb dX2_copyFrom_64 rfl (lv_at hl 0 rfl) ?_
  refine lv_aload_n hx hb dX2_copyFrom_65 rfl (lv_at hl 1 rfl) ?_
  refine x_get C0 hP inu2 (k := a1) (id2_0 hi1) (by decide) rfl 9 (by decide) q1_170 rfl (v := .int (μ9 a1 9)) rfl dX2_copyFrom_66 ?_
  obtain ⟨z10, h⟩ := gd_some h
  obtain ⟨μ11, e11, h⟩ := lt_some h
  refine x_put C0 hP hS inu2 tyX2 tyX2_ok nmX2 (k := a0) (id2_0 hi0) (by decide) rfl 9 (by decide) q1_170 rfl rfl (v := .int (μ9 a1 9)) (x := (μ9 a1 9)) (x_bool z10).1 (x_bool z10).2 (Nat.le_of_ble_eq_true rfl) (os_2_9 _ _ _ _) dX2_copyFrom_69 (fun H locs hP hS => ?_)
  rw [← e11] at hP
  refine lv_aload_n hx hb dX2_copyFrom_72 rfl (lv_at hl 0 rfl) ?_
  refine lv_aload_n hx hb dX2_copyFrom_73 rfl (lv_at hl 1 rfl) ?_
  refine x_get C0 hP inu2 (k := a1) (id2_0 hi1) (by decide) rfl 10 (by decide) q1_173 rfl (v := .int (μ11 a1 10)) rfl dX2_copyFrom_74 ?_
  obtain ⟨μ12, e12, h⟩ := lt_some h
  refine x_put C0 hP hS inu2 tyX2 tyX2_ok nmX2 (k := a0) (id2_0 hi0) (by decide) rfl 10 (by decide) q1_173 rfl rfl (v := .int (μ11 a1 10)) (x := (μ11 a1 10)) rfl rfl (Nat.le_of_ble_eq_true rfl) (os_2_10 _ _ _ _) dX2_copyFrom_77 (fun H locs hP hS => ?_)
  rw [← e12] at hP
  refine lv_aload_n hx hb dX2_copyFrom_80 rfl (lv_at hl 0 rfl) ?_
  refine lv_aload_n hx hb dX2_copyFrom_81 rfl (lv_at hl 1 rfl) ?_
  refine x_get C0 hP inu2 (k := a1) (id2_0 hi1) (by decide) rfl 11 (by decide) q1_176 rfl (v := .int (μ12 a1 11)) rfl dX2_copyFrom_82 ?_
  obtain ⟨μ13, e13, h⟩ := lt_some h
  refine x_put C0 hP hS inu2 tyX2 tyX2_ok nmX2 (k := a0) (id2_0 hi0) (by decide) rfl 11 (by decide) q1_176 rfl rfl (v := .int (μ12 a1 11)) (x := (μ12 a1 11)) rfl rfl (Nat.le_of_ble_eq_true rfl) (os_2_11 _ _ _ _) dX2_copyFrom_85 (fun H locs hP hS => ?_)
  rw [← e13] at hP
  refine lv_aload_n hx hb dX2_copyFrom_88 rfl (lv_at hl 0 rfl) ?_
  refine lv_aload_n hx hb dX2_copyFrom_89 rfl (lv_at hl 1 rfl) ?_
  refine x_get C0 hP inu2 (k := a1) (id2_0 hi1) (by decide) rfl 12 (by decide) q1_180 rfl (v := .int (μ13 a1 12)) rfl dX2_copyFrom_90 ?_
  obtain ⟨μ14, e14, h⟩ := lt_some h
  refine x_put C0 hP hS inu2 tyX2 tyX2_ok nmX2 (k := a0) (id2_0 hi0) (by decide) rfl 12 (by decide) q1_180 rfl rfl (v := .int (μ13 a1 12)) (x := (μ13 a1 12)) rfl rfl (Nat.le_of_ble_eq_true rfl) (os_2_12 _ _ _ _) dX2_copyFrom_93 (fun H locs hP hS => ?_)
  rw [← e14] at hP
  refine lv_aload_n hx hb dX2_copyFrom_96 rfl (lv_at hl 0 rfl) ?_
  refine lv_aload_n hx hb dX2_copyFrom_97 rfl (lv_at hl 1 rfl) ?_
  refine x_get C0 hP inu2 (k := a1) (id2_0 hi1) (by decide) rfl 13 (by decide) q1_183 rfl (v := .int (μ14 a1 13)) rfl dX2_copyFrom_98 ?_
  obtain ⟨μ15, e15, h⟩ := lt_some h
  refine x_put C0 hP hS inu2 tyX2 tyX2_ok nmX2 (k := a0) (id2_0 hi0) (by decide) rfl 13 (by decide) q1_183 rfl rfl (v := .int (μ14 a1 13)) (x := (μ14 a1 13)) rfl rfl (Nat.le_of_ble_eq_true rfl) (os_2_13 _ _ _ _) dX2_copyFrom_101 (fun H locs hP hS => ?_)
  rw [← e15] at hP
  refine lv_aload_n hx hb dX2_copyFrom_104 rfl (lv_at hl 0 rfl) ?_
  refine lv_aload_n hx hb dX2_copyFrom_105 rfl (lv_at hl 1 rfl) ?_
  refine x_get C0 hP inu2 (k := a1) (id2_0 hi1) (by decide) rfl 14 (by decide) q1_186 rfl (v := .int (μ15 a1 14)) rfl dX2_copyFrom_106 ?_
  obtain ⟨μ16, e16, h⟩ := lt_some h
  refine x_put C0 hP hS inu2 tyX2 tyX2_ok nmX2 (k := a0) (id2_0 hi0) (by decide) rfl 14 (by decide) q1_186 rfl rfl (v := .int (μ15 a1 14)) (x := (μ15 a1 14)) rfl rfl (Nat.le_of_ble_eq_true rfl) (os_2_14 _ _ _ _) dX2_copyFrom_109 (fun H locs hP hS => ?_)
  rw [← e16] at hP
  refine lv_aload_n hx hb dX2_copyFrom_112 rfl (lv_at hl 1 rfl) ?_
  refine x_get C0 hP inu2 (k := a1) (id2_0 hi1) (by decide) rfl 0 (by decide) q1_139 rfl (v := .ref (g.2.2.1 + (a1 + 1))) rfl dX2_copyFrom_113 ?_
  refine lv_iconst (v := (0 : Int32)) hx hb dX2_copyFrom_116 rfl ?_
  refine lv_aload_n hx hb dX2_copyFrom_117 rfl (lv_at hl 0 rfl) ?_
  refine x_get C0 hP inu2 (k := a0) (id2_0 hi0) (by decide) rfl 0 (by decide) q1_139 rfl (v := .ref (g.2.2.1 + (a0 + 1))) rfl dX2_copyFrom_118 ?_
  refine lv_iconst (v := (0 : Int32)) hx hb dX2_copyFrom_121 rfl ?_
  refine lv_aload_n hx hb dX2_copyFrom_122 rfl (lv_at hl 0 rfl) ?_
  refine x_get C0 hP inu2 (k := a0) (id2_0 hi0) (by decide) rfl 0 (by decide) q1_139 rfl (v := .ref (g.2.2.1 + (a0 + 1))) rfl dX2_copyFrom_123 ?_
  refine x_alen C0 hP (k := (a0 + 1)) (Or.inl (id2_1 hi0)) (v := (24 : Int32)) rfl dX2_copyFrom_126 ?_
  obtain ⟨μ17, e17, h⟩ := lt_some h
  refine x_copyi C0 hP hS hl.1 (k0 := (a1 + 1)) (k1 := (a0 + 1)) (id2_1 hi1) (id2_1 hi0) q3_223 q3_124 q3_123 q1_13 (by decide) (sp2 := 0) (dp2 := 0) (n2 := 24) rfl rfl rfl (Nat.le_of_ble_eq_true rfl) (Nat.le_of_ble_eq_true rfl) dX2_copyFrom_127 (fun H locs hP hS => ?_)
  rw [← e17] at hP
  obtain rfl := some1 h
  exact x_vret C0 hP hS dX2_copyFrom_130
def X9_isKind (x0 : Int32) (μ : Mem) : Option (Int32 × Mem) :=
  (if x0 < (0 : Int32) then some ((0 : Int32), μ) else (if (6 : Int32) ≤ x0 then some ((0 : Int32), μ) else some ((1 : Int32), μ)))
set_option maxRecDepth 100000 in
set_option maxHeartbeats 4000000 in
theorem c_X9_isKind (l : Launch) (g : Gx) (x0 : Int32) (μ : Mem) {r : Int32} {ν : Mem} (h : X9_isKind x0 μ = some (r, ν)) : Ct Lx g l yX9_isKind cX9_isKind 1 (some .boolean) { frames := 0, cells := 0, slots := 0, locals := 0 } [.int x0] μ (some (.int r)) ν := by
  refine x_met (lv := [(0, .int x0)]) rfl (Nat.le_of_ble_eq_true rfl) rfl ?_
  intro p e s m below meth c C0 hP ls hl
  generalize ([.int x0] : List Value).toArray = args at C0 ⊢
  have C0 : Cx Lx g p s m args meth c cX9_isKind 1 (some .boolean) RX9 := C0
  have hS : va_S (Ax Lx g) s.heap s.heap [] := va_S.rf
  obtain ⟨hx, hb, hr, hml, hown, hts, hlocks, hK⟩ := id C0
  unfold X9_isKind at h
  skip
  refine lv_iload_n hx hb dX9_isKind_0 rfl (lv_at hl 0 rfl) ?_
  refine lv_if_lt (tgt := 14) hx hb dX9_isKind_1 (by decide) (fun c1 => ?_) (fun c1 => ?_)
  · rw [if_pos c1] at h
    refine lv_iconst (v := (0 : Int32)) hx hb dX9_isKind_14 rfl ?_
    obtain ⟨rfl, rfl⟩ := some2 h
    exact x_zret C0 hP hS (by decide) dX9_isKind_15
  · rw [if_neg c1] at h
    refine lv_iload_n hx hb dX9_isKind_4 rfl (lv_at hl 0 rfl) ?_
    refine lv_bipush (v := (6 : Int32)) hx hb dX9_isKind_5 (by decide +kernel) ?_
    refine lv_icmp_ge (tgt := 14) hx hb dX9_isKind_7 (by decide) (fun c2 => ?_) (fun c2 => ?_)
    · rw [if_pos c2] at h
      refine lv_iconst (v := (0 : Int32)) hx hb dX9_isKind_14 rfl ?_
      obtain ⟨rfl, rfl⟩ := some2 h
      exact x_zret C0 hP hS (by decide) dX9_isKind_15
    · rw [if_neg c2] at h
      refine lv_iconst (v := (1 : Int32)) hx hb dX9_isKind_10 rfl ?_
      refine lv_goto (tgt := 15) hx hb dX9_isKind_11 (by decide) ?_
      obtain ⟨rfl, rfl⟩ := some2 h
      exact x_zret C0 hP hS (by decide) dX9_isKind_15
def X2_isOf_7  : Nat → Int32 → Int32 → Int32 → Mem → Option (Int32 × Mem)
  | 0, _, _, _, _ => none
  | n + 1, x1, x2, x3, μ => (if (6 : Int32) ≤ x3 then some ((0 : Int32), μ) else ob2 (X9_isKind x2 μ) fun r2 μ2 => (if r2 = (0 : Int32) then some ((0 : Int32), μ2) else (if x2 = x1 then some ((1 : Int32), μ2) else gd (inB x2 6) ((X2_isOf_7 n) x1 (KA x2.toNatClampNeg) (x3 + (1 : Int32)) μ2))))
set_option maxRecDepth 100000 in
set_option maxHeartbeats 4000000 in
theorem w_X2_isOf_7 {g : Gx} {p : Program} {l : Launch} {e : Env} {s : State} {m : MethodId} {args : Array Value} {below : List Frame} {meth : Method} {c : Code} (C0 : Cx Lx g p s m args meth c cX2_isOf 4 (some .boolean) RX2) {r : Int32} {ν : Mem}  (n : Nat) : ∀ (x1 : Int32) (x2 : Int32) (x3 : Int32) (μ : Mem) (H : Heap) (locs : List Loc) (ls : Array Slot), Px Lx g μ H → va_S (Ax Lx g) s.heap H locs → lv_has ls 4 [(1, .int x1), (2, .int x2), (3, .int x3)] → X2_isOf_7  n x1 x2 x3 μ = some (r, ν) → W p l e { frames := 1, cells := 0, slots := 0, locals := 20 } s m args below meth c H locs 0 0 (MQ below (Qx Lx g (some (.int r)) ν) args s 0 0 (Ax Lx g)) (F0 m 7 ls []) := by
  obtain ⟨hx, hb, hr, hml, hown, hts, hlocks, hK⟩ := id C0
  induction n with
  | zero =>
    intro x1 x2 x3 μ H locs ls hP hS hl h
    have h : (none : Option (Int32 × Mem)) = some (r, ν) := h
    cases h
  | succ n ih =>
    intro x1 x2 x3 μ H locs ls hP hS hl h
    rw [X2_isOf_7.eq_2] at h
    refine lv_iload_n hx hb dX2_isOf_7 rfl (lv_at hl 2 rfl) ?_
    refine lv_bipush (v := (6 : Int32)) hx hb dX2_isOf_8 (by decide +kernel) ?_
    refine lv_icmp_ge (tgt := 39) hx hb dX2_isOf_10 (by decide) (fun c1 => ?_) (fun c1 => ?_)
    · rw [if_pos c1] at h
      refine lv_iconst (v := (0 : Int32)) hx hb dX2_isOf_39 rfl ?_
      obtain ⟨rfl, rfl⟩ := some2 h
      exact x_zret C0 hP hS (by decide) dX2_isOf_40
    · rw [if_neg c1] at h
      refine lv_iload_n hx hb dX2_isOf_13 rfl (lv_at hl 1 rfl) ?_
      obtain ⟨r2, μ2, h1, h⟩ := ob2_some h
      refine x_callSN C0 (rest := []) (c_X9_isKind l g x2 μ h1) q2_115 (by decide +kernel) q2_114 q1_1 hd_X9_isKind ⟨rfl, rfl⟩ ⟨Nat.le_of_ble_eq_true rfl, Nat.le_of_ble_eq_true rfl⟩ hP hS hl.1 rfl rfl (Nat.le_of_ble_eq_true rfl) dX2_isOf_14 (fun H locs hP hS => ?_)
      refine W.eq (g2 := F0 m 17 ls [.int r2]) rfl ?_
      refine lv_if_eq (tgt := 39) hx hb dX2_isOf_17 (by decide) (fun c3 => ?_) (fun c3 => ?_)
      · rw [if_pos c3] at h
        refine lv_iconst (v := (0 : Int32)) hx hb dX2_isOf_39 rfl ?_
        obtain ⟨rfl, rfl⟩ := some2 h
        exact x_zret C0 hP hS (by decide) dX2_isOf_40
      · rw [if_neg c3] at h
        refine lv_iload_n hx hb dX2_isOf_20 rfl (lv_at hl 1 rfl) ?_
        refine lv_iload_n hx hb dX2_isOf_21 rfl (lv_at hl 0 rfl) ?_
        refine lv_icmp_ne (tgt := 27) hx hb dX2_isOf_22 (by decide) (fun c4 => ?_) (fun c4 => ?_)
        · rw [if_neg c4] at h
          refine x_kaN C0 hS (index := 69) (by decide +kernel) dX2_isOf_27 ?_
          refine lv_iload_n hx hb dX2_isOf_30 rfl (lv_at hl 1 rfl) ?_
          obtain ⟨z5, h⟩ := gd_some h
          refine x_tald (f := KA) C0 hS hK.2.2.2.1.2 (j := x2.toNatClampNeg) z5 rfl dX2_isOf_31 ?_
          refine lv_istore_n (lv' := [(2, .int (KA x2.toNatClampNeg)), (1, .int x1), (3, .int x3)]) hx hb dX2_isOf_32 rfl hl (by decide) rfl (fun ls hl => ?_)
          refine lv_iinc (v := (x3 + (1 : Int32))) (lv' := [(3, .int (x3 + (1 : Int32))), (2, .int (KA x2.toNatClampNeg)), (1, .int x1)]) hx hb dX2_isOf_33 hl (k := 2) rfl rfl (by decide) rfl (fun ls hl => ?_)
          refine lv_goto (tgt := 7) hx hb dX2_isOf_36 (by decide) ?_
          exact ih x1 (KA x2.toNatClampNeg) (x3 + (1 : Int32)) μ2 _ _ _ hP hS (lv_sub hl [2, 1, 0] rfl) h
        · rw [if_pos c4] at h
          refine lv_iconst (v := (1 : Int32)) hx hb dX2_isOf_25 rfl ?_
          obtain ⟨rfl, rfl⟩ := some2 h
          exact x_zret C0 hP hS (by decide) dX2_isOf_26
def X2_isOf (a0 : Nat) (x1 : Int32) (μ : Mem) : Option (Int32 × Mem) :=
  X2_isOf_7 FU x1 (μ a0 2) (0 : Int32) μ
set_option maxRecDepth 100000 in
set_option maxHeartbeats 4000000 in
theorem c_X2_isOf (l : Launch) (g : Gx) (a0 : Nat) (hi0 : Id2 a0) (x1 : Int32) (μ : Mem) {r : Int32} {ν : Mem} (h : X2_isOf a0 x1 μ = some (r, ν)) : Ct Lx g l yX2_isOf cX2_isOf 4 (some .boolean) { frames := 1, cells := 0, slots := 0, locals := 20 } [.ref (g.2.2.1 + a0), .int x1] μ (some (.int r)) ν := by
  refine x_met (lv := [(0, .ref (g.2.2.1 + a0)), (1, .int x1)]) rfl (Nat.le_of_ble_eq_true rfl) rfl ?_
  intro p e s m below meth c C0 hP ls hl
  generalize ([.ref (g.2.2.1 + a0), .int x1] : List Value).toArray = args at C0 ⊢
  have C0 : Cx Lx g p s m args meth c cX2_isOf 4 (some .boolean) RX2 := C0
  have hS : va_S (Ax Lx g) s.heap s.heap [] := va_S.rf
  obtain ⟨hx, hb, hr, hml, hown, hts, hlocks, hK⟩ := id C0
  unfold X2_isOf at h
  skip
  refine lv_aload_n hx hb dX2_isOf_0 rfl (lv_at hl 0 rfl) ?_
  refine x_get C0 hP inu2 (k := a0) (id2_0 hi0) (by decide) rfl 2 (by decide) q1_145 rfl (v := .int (μ a0 2)) rfl dX2_isOf_1 ?_
  refine lv_istore_n (lv' := [(2, .int (μ a0 2)), (0, .ref (g.2.2.1 + a0)), (1, .int x1)]) hx hb dX2_isOf_4 rfl hl (by decide) rfl (fun ls hl => ?_)
  refine lv_iconst (v := (0 : Int32)) hx hb dX2_isOf_5 rfl ?_
  refine lv_istore_n (lv' := [(3, .int (0 : Int32)), (2, .int (μ a0 2)), (0, .ref (g.2.2.1 + a0)), (1, .int x1)]) hx hb dX2_isOf_6 rfl hl (by decide) rfl (fun ls hl => ?_)
  exact w_X2_isOf_7 C0  FU x1 (μ a0 2) (0 : Int32) μ _ _ _ hP hS (lv_sub hl [3, 1, 0] rfl) h
def X2_isSmart (a0 : Nat) (μ : Mem) : Option (Int32 × Mem) :=
  (if (μ a0 2) = (2 : Int32) then some ((1 : Int32), μ) else (if (μ a0 2) = (4 : Int32) then some ((1 : Int32), μ) else some ((0 : Int32), μ)))
set_option maxRecDepth 100000 in
set_option maxHeartbeats 4000000 in
theorem c_X2_isSmart (l : Launch) (g : Gx) (a0 : Nat) (hi0 : Id2 a0) (μ : Mem) {r : Int32} {ν : Mem} (h : X2_isSmart a0 μ = some (r, ν)) : Ct Lx g l yX2_isSmart cX2_isSmart 1 (some .boolean) { frames := 0, cells := 0, slots := 0, locals := 0 } [.ref (g.2.2.1 + a0)] μ (some (.int r)) ν := by
  refine x_met (lv := [(0, .ref (g.2.2.1 + a0))]) rfl (Nat.le_of_ble_eq_true rfl) rfl ?_
  intro p e s m below meth c C0 hP ls hl
  generalize ([.ref (g.2.2.1 + a0)] : List Value).toArray = args at C0 ⊢
  have C0 : Cx Lx g p s m args meth c cX2_isSmart 1 (some .boolean) RX2 := C0
  have hS : va_S (Ax Lx g) s.heap s.heap [] := va_S.rf
  obtain ⟨hx, hb, hr, hml, hown, hts, hlocks, hK⟩ := id C0
  unfold X2_isSmart at h
  skip
  refine lv_aload_n hx hb dX2_isSmart_0 rfl (lv_at hl 0 rfl) ?_
  refine x_get C0 hP inu2 (k := a0) (id2_0 hi0) (by decide) rfl 2 (by decide) q1_145 rfl (v := .int (μ a0 2)) rfl dX2_isSmart_1 ?_
  refine lv_iconst (v := (2 : Int32)) hx hb dX2_isSmart_4 rfl ?_
  refine lv_icmp_eq (tgt := 16) hx hb dX2_isSmart_5 (by decide) (fun c1 => ?_) (fun c1 => ?_)
  · rw [if_pos c1] at h
    refine lv_iconst (v := (1 : Int32)) hx hb dX2_isSmart_16 rfl ?_
    refine lv_goto (tgt := 21) hx hb dX2_isSmart_17 (by decide) ?_
    obtain ⟨rfl, rfl⟩ := some2 h
    exact x_zret C0 hP hS (by decide) dX2_isSmart_21
  · rw [if_neg c1] at h
    refine lv_aload_n hx hb dX2_isSmart_8 rfl (lv_at hl 0 rfl) ?_
    refine x_get C0 hP inu2 (k := a0) (id2_0 hi0) (by decide) rfl 2 (by decide) q1_145 rfl (v := .int (μ a0 2)) rfl dX2_isSmart_9 ?_
    refine lv_iconst (v := (4 : Int32)) hx hb dX2_isSmart_12 rfl ?_
    refine lv_icmp_ne (tgt := 20) hx hb dX2_isSmart_13 (by decide) (fun c2 => ?_) (fun c2 => ?_)
    · rw [if_neg c2] at h
      refine lv_iconst (v := (0 : Int32)) hx hb dX2_isSmart_20 rfl ?_
      obtain ⟨rfl, rfl⟩ := some2 h
      exact x_zret C0 hP hS (by decide) dX2_isSmart_21
    · rw [if_pos c2] at h
      refine lv_iconst (v := (1 : Int32)) hx hb dX2_isSmart_16 rfl ?_
      refine lv_goto (tgt := 21) hx hb dX2_isSmart_17 (by decide) ?_
      obtain ⟨rfl, rfl⟩ := some2 h
      exact x_zret C0 hP hS (by decide) dX2_isSmart_21
def X2_loadedUnder (a0 : Nat) (x1 : Int32) (μ : Mem) : Option (Int32 × Mem) :=
  ob2 (X2_isSmart a0 μ) fun r1 μ1 => (if r1 = (0 : Int32) then some ((μ1 a0 14), μ1) else some (x1, μ1))
set_option maxRecDepth 100000 in
set_option maxHeartbeats 4000000 in
theorem c_X2_loadedUnder (l : Launch) (g : Gx) (a0 : Nat) (hi0 : Id2 a0) (x1 : Int32) (μ : Mem) {r : Int32} {ν : Mem} (h : X2_loadedUnder a0 x1 μ = some (r, ν)) : Ct Lx g l yX2_loadedUnder cX2_loadedUnder 2 (some .int) { frames := 1, cells := 0, slots := 0, locals := 20 } [.ref (g.2.2.1 + a0), .int x1] μ (some (.int r)) ν := by
  refine x_met (lv := [(0, .ref (g.2.2.1 + a0)), (1, .int x1)]) rfl (Nat.le_of_ble_eq_true rfl) rfl ?_
  intro p e s m below meth c C0 hP ls hl
  generalize ([.ref (g.2.2.1 + a0), .int x1] : List Value).toArray = args at C0 ⊢
  have C0 : Cx Lx g p s m args meth c cX2_loadedUnder 2 (some .int) RX2 := C0
  have hS : va_S (Ax Lx g) s.heap s.heap [] := va_S.rf
  obtain ⟨hx, hb, hr, hml, hown, hts, hlocks, hK⟩ := id C0
  unfold X2_loadedUnder at h
  skip
  refine lv_aload_n hx hb dX2_loadedUnder_0 rfl (lv_at hl 0 rfl) ?_
  obtain ⟨r1, μ1, h1, h⟩ := ob2_some h
  refine x_callV C0 (rest := []) (q := (RX2, TX2, 15)) (c_X2_isSmart l g a0 hi0 μ h1) q2_163 q2_160 q2_161 q2_162 q1_7 hd_X2_isSmart ⟨rfl, rfl⟩ ⟨Nat.le_of_ble_eq_true rfl, Nat.le_of_ble_eq_true rfl⟩ (id2_0 hi0) (by decide) rfl hP hS hl.1 rfl rfl (Nat.le_of_ble_eq_true rfl) dX2_loadedUnder_1 (fun H locs hP hS => ?_)
  refine W.eq (g2 := F0 m 4 ls [.int r1]) rfl ?_
  refine lv_if_eq (tgt := 11) hx hb dX2_loadedUnder_4 (by decide) (fun c2 => ?_) (fun c2 => ?_)
  · rw [if_pos c2] at h
    refine lv_aload_n hx hb dX2_loadedUnder_11 rfl (lv_at hl 0 rfl) ?_
    refine x_get C0 hP inu2 (k := a0) (id2_0 hi0) (by decide) rfl 14 (by decide) q1_186 rfl (v := .int (μ1 a0 14)) rfl dX2_loadedUnder_12 ?_
    obtain ⟨rfl, rfl⟩ := some2 h
    exact x_iret C0 hP hS dX2_loadedUnder_15
  · rw [if_neg c2] at h
    refine lv_iload_n hx hb dX2_loadedUnder_7 rfl (lv_at hl 1 rfl) ?_
    refine lv_goto (tgt := 15) hx hb dX2_loadedUnder_8 (by decide) ?_
    obtain ⟨rfl, rfl⟩ := some2 h
    exact x_iret C0 hP hS dX2_loadedUnder_15
def X2_limit_29  (t0 : Int32) (t1 : Int32) (μ : Mem) : Option (Int32 × Mem) :=
  some ((t0 - t1), μ)
set_option maxRecDepth 100000 in
set_option maxHeartbeats 4000000 in
theorem w_X2_limit_29 {g : Gx} {p : Program} {l : Launch} {e : Env} {s : State} {m : MethodId} {args : Array Value} {below : List Frame} {meth : Method} {c : Code} (C0 : Cx Lx g p s m args meth c cX2_limit 1 (some .int) RX2) {r : Int32} {ν : Mem}  (t0 : Int32) (t1 : Int32) (μ : Mem) (H : Heap) (locs : List Loc) (ls : Array Slot) (hP : Px Lx g μ H) (hS : va_S (Ax Lx g) s.heap H locs) (hl : lv_has ls 1 []) (h : X2_limit_29  t0 t1 μ = some (r, ν)) : W p l e { frames := 0, cells := 0, slots := 0, locals := 0 } s m args below meth c H locs 0 0 (MQ below (Qx Lx g (some (.int r)) ν) args s 0 0 (Ax Lx g)) (F0 m 29 ls [.int t1, .int t0]) := by
  obtain ⟨hx, hb, hr, hml, hown, hts, hlocks, hK⟩ := id C0
  unfold X2_limit_29 at h
  refine lv_isub hx hb dX2_limit_29 ?_
  obtain ⟨rfl, rfl⟩ := some2 h
  exact x_iret C0 hP hS dX2_limit_30
def X2_limit_14  (a0 : Nat) (t0 : Int32) (μ : Mem) : Option (Int32 × Mem) :=
  (if (μ a0 2) = (5 : Int32) then X2_limit_29 t0 (200 : Int32) μ else X2_limit_29 t0 (0 : Int32) μ)
set_option maxRecDepth 100000 in
set_option maxHeartbeats 4000000 in
theorem w_X2_limit_14 {g : Gx} {p : Program} {l : Launch} {e : Env} {s : State} {m : MethodId} {args : Array Value} {below : List Frame} {meth : Method} {c : Code} (C0 : Cx Lx g p s m args meth c cX2_limit 1 (some .int) RX2) {r : Int32} {ν : Mem}  (a0 : Nat) (ha0 : Id2 a0) (t0 : Int32) (μ : Mem) (H : Heap) (locs : List Loc) (ls : Array Slot) (hP : Px Lx g μ H) (hS : va_S (Ax Lx g) s.heap H locs) (hl : lv_has ls 1 [(0, .ref (g.2.2.1 + a0))]) (h : X2_limit_14  a0 t0 μ = some (r, ν)) : W p l e { frames := 0, cells := 0, slots := 0, locals := 0 } s m args below meth c H locs 0 0 (MQ below (Qx Lx g (some (.int r)) ν) args s 0 0 (Ax Lx g)) (F0 m 14 ls [.int t0]) := by
  obtain ⟨hx, hb, hr, hml, hown, hts, hlocks, hK⟩ := id C0
  unfold X2_limit_14 at h
  refine lv_aload_n hx hb dX2_limit_14 rfl (lv_at hl 0 rfl) ?_
  refine x_get C0 hP inu2 (k := a0) (id2_0 ha0) (by decide) rfl 2 (by decide) q1_145 rfl (v := .int (μ a0 2)) rfl dX2_limit_15 ?_
  refine lv_iconst (v := (5 : Int32)) hx hb dX2_limit_18 rfl ?_
  refine lv_icmp_ne (tgt := 28) hx hb dX2_limit_19 (by decide) (fun c2 => ?_) (fun c2 => ?_)
  · rw [if_neg c2] at h
    refine lv_iconst (v := (0 : Int32)) hx hb dX2_limit_28 rfl ?_
    exact w_X2_limit_29 C0  t0 (0 : Int32) μ _ _ _ hP hS (lv_sub hl [] rfl) h
  · rw [if_pos c2] at h
    refine lv_sipush (v := (200 : Int32)) hx hb dX2_limit_22 (by decide +kernel) ?_
    refine lv_goto (tgt := 29) hx hb dX2_limit_25 (by decide) ?_
    exact w_X2_limit_29 C0  t0 (200 : Int32) μ _ _ _ hP hS (lv_sub hl [] rfl) h
def X2_limit (a0 : Nat) (μ : Mem) : Option (Int32 × Mem) :=
  (if (μ a0 9) = (0 : Int32) then X2_limit_14 a0 (0 : Int32) μ else X2_limit_14 a0 (-500 : Int32) μ)
set_option maxRecDepth 100000 in
set_option maxHeartbeats 4000000 in
theorem c_X2_limit (l : Launch) (g : Gx) (a0 : Nat) (hi0 : Id2 a0) (μ : Mem) {r : Int32} {ν : Mem} (h : X2_limit a0 μ = some (r, ν)) : Ct Lx g l yX2_limit cX2_limit 1 (some .int) { frames := 0, cells := 0, slots := 0, locals := 0 } [.ref (g.2.2.1 + a0)] μ (some (.int r)) ν := by
  refine x_met (lv := [(0, .ref (g.2.2.1 + a0))]) rfl (Nat.le_of_ble_eq_true rfl) rfl ?_
  intro p e s m below meth c C0 hP ls hl
  generalize ([.ref (g.2.2.1 + a0)] : List Value).toArray = args at C0 ⊢
  have C0 : Cx Lx g p s m args meth c cX2_limit 1 (some .int) RX2 := C0
  have hS : va_S (Ax Lx g) s.heap s.heap [] := va_S.rf
  obtain ⟨hx, hb, hr, hml, hown, hts, hlocks, hK⟩ := id C0
  unfold X2_limit at h
  skip
  refine lv_aload_n hx hb dX2_limit_0 rfl (lv_at hl 0 rfl) ?_
  refine x_get C0 hP inu2 (k := a0) (id2_0 hi0) (by decide) rfl 9 (by decide) q1_170 rfl (v := .int (μ a0 9)) rfl dX2_limit_1 ?_
  refine lv_if_eq (tgt := 13) hx hb dX2_limit_4 (by decide) (fun c1 => ?_) (fun c1 => ?_)
  · rw [if_pos c1] at h
    refine lv_iconst (v := (0 : Int32)) hx hb dX2_limit_13 rfl ?_
    exact w_X2_limit_14 C0  a0 hi0 (0 : Int32) μ _ _ _ hP hS (lv_sub hl [0] rfl) h
  · rw [if_neg c1] at h
    refine lv_sipush (v := (-500 : Int32)) hx hb dX2_limit_7 (by decide +kernel) ?_
    refine lv_goto (tgt := 14) hx hb dX2_limit_10 (by decide) ?_
    exact w_X2_limit_14 C0  a0 hi0 (-500 : Int32) μ _ _ _ hP hS (lv_sub hl [0] rfl) h
def X2_connectAboveLimit (a0 : Nat) (μ : Mem) : Option Mem :=
  ob2 (X2_limit a0 μ) fun r1 μ1 => (if (μ a0 5) < r1 then some μ1 else lt (st μ1 a0 8 (1 : Int32)) fun μ3 => some μ3)
set_option maxRecDepth 100000 in
set_option maxHeartbeats 4000000 in
theorem c_X2_connectAboveLimit (l : Launch) (g : Gx) (a0 : Nat) (hi0 : Id2 a0) (μ : Mem) {ν : Mem} (h : X2_connectAboveLimit a0 μ = some ν) : Ct Lx g l yX2_connectAboveLimit cX2_connectAboveLimit 1 none { frames := 1, cells := 0, slots := 0, locals := 20 } [.ref (g.2.2.1 + a0)] μ none ν := by
  refine x_met (lv := [(0, .ref (g.2.2.1 + a0))]) rfl (Nat.le_of_ble_eq_true rfl) rfl ?_
  intro p e s m below meth c C0 hP ls hl
  generalize ([.ref (g.2.2.1 + a0)] : List Value).toArray = args at C0 ⊢
  have C0 : Cx Lx g p s m args meth c cX2_connectAboveLimit 1 none RX2 := C0
  have hS : va_S (Ax Lx g) s.heap s.heap [] := va_S.rf
  obtain ⟨hx, hb, hr, hml, hown, hts, hlocks, hK⟩ := id C0
  unfold X2_connectAboveLimit at h
  skip
  refine lv_aload_n hx hb dX2_connectAboveLimit_0 rfl (lv_at hl 0 rfl) ?_
  refine x_get C0 hP inu2 (k := a0) (id2_0 hi0) (by decide) rfl 5 (by decide) q1_156 rfl (v := .int (μ a0 5)) rfl dX2_connectAboveLimit_1 ?_
  refine lv_aload_n hx hb dX2_connectAboveLimit_4 rfl (lv_at hl 0 rfl) ?_
  obtain ⟨r1, μ1, h1, h⟩ := ob2_some h
  refine x_callV C0 (rest := [.int (μ a0 5)]) (q := (RX2, TX2, 15)) (c_X2_limit l g a0 hi0 μ h1) q2_167 q2_228 q2_165 q2_166 q1_7 hd_X2_limit ⟨rfl, rfl⟩ ⟨Nat.le_of_ble_eq_true rfl, Nat.le_of_ble_eq_true rfl⟩ (id2_0 hi0) (by decide) rfl hP hS hl.1 rfl rfl (Nat.le_of_ble_eq_true rfl) dX2_connectAboveLimit_5 (fun H locs hP hS => ?_)
  refine W.eq (g2 := F0 m 8 ls [.int r1, .int (μ a0 5)]) rfl ?_
  refine lv_icmp_lt (tgt := 16) hx hb dX2_connectAboveLimit_8 (by decide) (fun c2 => ?_) (fun c2 => ?_)
  · rw [if_pos c2] at h
    obtain rfl := some1 h
    exact x_vret C0 hP hS dX2_connectAboveLimit_16
  · rw [if_neg c2] at h
    refine lv_aload_n hx hb dX2_connectAboveLimit_11 rfl (lv_at hl 0 rfl) ?_
    refine lv_iconst (v := (1 : Int32)) hx hb dX2_connectAboveLimit_12 rfl ?_
    obtain ⟨μ3, e3, h⟩ := lt_some h
    refine x_put C0 hP hS inu2 tyX2 tyX2_ok nmX2 (k := a0) (id2_0 hi0) (by decide) rfl 8 (by decide) q1_167 rfl rfl (v := .int (1 : Int32)) (x := (1 : Int32)) rfl rfl (Nat.le_of_ble_eq_true rfl) (os_2_8 _ _ _ _) dX2_connectAboveLimit_13 (fun H locs hP hS => ?_)
    rw [← e3] at hP
    obtain rfl := some1 h
    exact x_vret C0 hP hS dX2_connectAboveLimit_16
def X3_has (x1 : Int32) (μ : Mem) : Option (Int32 × Mem) :=
  (if x1 < (0 : Int32) then some ((0 : Int32), μ) else (if (μ 14 4) ≤ x1 then some ((0 : Int32), μ) else some ((1 : Int32), μ)))
set_option maxRecDepth 100000 in
set_option maxHeartbeats 4000000 in
theorem c_X3_has (l : Launch) (g : Gx) (x1 : Int32) (μ : Mem) {r : Int32} {ν : Mem} (h : X3_has x1 μ = some (r, ν)) : Ct Lx g l yX3_has cX3_has 2 (some .boolean) { frames := 0, cells := 0, slots := 0, locals := 0 } [.ref (g.2.2.1 + 14), .int x1] μ (some (.int r)) ν := by
  refine x_met (lv := [(0, .ref (g.2.2.1 + 14)), (1, .int x1)]) rfl (Nat.le_of_ble_eq_true rfl) rfl ?_
  intro p e s m below meth c C0 hP ls hl
  generalize ([.ref (g.2.2.1 + 14), .int x1] : List Value).toArray = args at C0 ⊢
  have C0 : Cx Lx g p s m args meth c cX3_has 2 (some .boolean) RX3 := C0
  have hS : va_S (Ax Lx g) s.heap s.heap [] := va_S.rf
  obtain ⟨hx, hb, hr, hml, hown, hts, hlocks, hK⟩ := id C0
  unfold X3_has at h
  skip
  refine lv_iload_n hx hb dX3_has_0 rfl (lv_at hl 1 rfl) ?_
  refine lv_if_lt (tgt := 16) hx hb dX3_has_1 (by decide) (fun c1 => ?_) (fun c1 => ?_)
  · rw [if_pos c1] at h
    refine lv_iconst (v := (0 : Int32)) hx hb dX3_has_16 rfl ?_
    obtain ⟨rfl, rfl⟩ := some2 h
    exact x_zret C0 hP hS (by decide) dX3_has_17
  · rw [if_neg c1] at h
    refine lv_iload_n hx hb dX3_has_4 rfl (lv_at hl 1 rfl) ?_
    refine lv_aload_n hx hb dX3_has_5 rfl (lv_at hl 0 rfl) ?_
    refine x_get C0 hP inu3 (k := 14) cx_14 (by decide) rfl 4 (by decide) q1_93 rfl (v := .int (μ 14 4)) rfl dX3_has_6 ?_
    refine lv_icmp_ge (tgt := 16) hx hb dX3_has_9 (by decide) (fun c2 => ?_) (fun c2 => ?_)
    · rw [if_pos c2] at h
      refine lv_iconst (v := (0 : Int32)) hx hb dX3_has_16 rfl ?_
      obtain ⟨rfl, rfl⟩ := some2 h
      exact x_zret C0 hP hS (by decide) dX3_has_17
    · rw [if_neg c2] at h
      refine lv_iconst (v := (1 : Int32)) hx hb dX3_has_12 rfl ?_
      refine lv_goto (tgt := 17) hx hb dX3_has_13 (by decide) ?_
      obtain ⟨rfl, rfl⟩ := some2 h
      exact x_zret C0 hP hS (by decide) dX3_has_17
def X3_add (x1 : Int32) (x2 : Int32) (x3 : Int32) (x4 : Int32) (μ : Mem) : Option (Int32 × Mem) :=
  (if (μ 14 4) < (40 : Int32) then gd (inB (μ 14 4) 40) (lt (st μ 15 (μ 14 4).toNatClampNeg x1) fun μ3 => gd (inB (μ3 14 4) 40) (lt (st μ3 16 (μ3 14 4).toNatClampNeg x2) fun μ5 => gd (inB (μ5 14 4) 40) (lt (st μ5 17 (μ5 14 4).toNatClampNeg x3) fun μ7 => gd (inB (μ7 14 4) 40) (lt (st μ7 18 (μ7 14 4).toNatClampNeg x4) fun μ9 => lt (st μ9 14 4 ((μ9 14 4) + (1 : Int32))) fun μ10 => some (((μ10 14 4) - (1 : Int32)), μ10))))) else some ((-1 : Int32), μ))
set_option maxRecDepth 100000 in
set_option maxHeartbeats 4000000 in
theorem c_X3_add (l : Launch) (g : Gx) (x1 : Int32) (x2 : Int32) (x3 : Int32) (x4 : Int32) (μ : Mem) {r : Int32} {ν : Mem} (h : X3_add x1 x2 x3 x4 μ = some (r, ν)) : Ct Lx g l yX3_add cX3_add 5 (some .int) { frames := 0, cells := 0, slots := 0, locals := 0 } [.ref (g.2.2.1 + 14), .int x1, .int x2, .int x3, .int x4] μ (some (.int r)) ν := by
  refine x_met (lv := [(0, .ref (g.2.2.1 + 14)), (1, .int x1), (2, .int x2), (3, .int x3), (4, .int x4)]) rfl (Nat.le_of_ble_eq_true rfl) rfl ?_
  intro p e s m below meth c C0 hP ls hl
  generalize ([.ref (g.2.2.1 + 14), .int x1, .int x2, .int x3, .int x4] : List Value).toArray = args at C0 ⊢
  have C0 : Cx Lx g p s m args meth c cX3_add 5 (some .int) RX3 := C0
  have hS : va_S (Ax Lx g) s.heap s.heap [] := va_S.rf
  obtain ⟨hx, hb, hr, hml, hown, hts, hlocks, hK⟩ := id C0
  unfold X3_add at h
  skip
  refine lv_aload_n hx hb dX3_add_0 rfl (lv_at hl 0 rfl) ?_
  refine x_get C0 hP inu3 (k := 14) cx_14 (by decide) rfl 4 (by decide) q1_93 rfl (v := .int (μ 14 4)) rfl dX3_add_1 ?_
  refine lv_bipush (v := (40 : Int32)) hx hb dX3_add_4 (by decide +kernel) ?_
  refine lv_icmp_lt (tgt := 11) hx hb dX3_add_6 (by decide) (fun c1 => ?_) (fun c1 => ?_)
  · rw [if_pos c1] at h
    refine lv_aload_n hx hb dX3_add_11 rfl (lv_at hl 0 rfl) ?_
    refine x_get C0 hP inu3 (k := 14) cx_14 (by decide) rfl 0 (by decide) q1_87 rfl (v := .ref (g.2.2.1 + 15)) rfl dX3_add_12 ?_
    refine lv_aload_n hx hb dX3_add_15 rfl (lv_at hl 0 rfl) ?_
    refine x_get C0 hP inu3 (k := 14) cx_14 (by decide) rfl 4 (by decide) q1_93 rfl (v := .int (μ 14 4)) rfl dX3_add_16 ?_
    refine lv_iload_n hx hb dX3_add_19 rfl (lv_at hl 1 rfl) ?_
    obtain ⟨z2, h⟩ := gd_some h
    obtain ⟨μ3, e3, h⟩ := lt_some h
    refine x_iast C0 hP hS (k := 15) cx_15 (j := (μ 14 4).toNatClampNeg) z2 rfl dX3_add_20 (fun H locs hP hS => ?_)
    rw [← e3] at hP
    refine lv_aload_n hx hb dX3_add_21 rfl (lv_at hl 0 rfl) ?_
    refine x_get C0 hP inu3 (k := 14) cx_14 (by decide) rfl 1 (by decide) q1_88 rfl (v := .ref (g.2.2.1 + 16)) rfl dX3_add_22 ?_
    refine lv_aload_n hx hb dX3_add_25 rfl (lv_at hl 0 rfl) ?_
    refine x_get C0 hP inu3 (k := 14) cx_14 (by decide) rfl 4 (by decide) q1_93 rfl (v := .int (μ3 14 4)) rfl dX3_add_26 ?_
    refine lv_iload_n hx hb dX3_add_29 rfl (lv_at hl 2 rfl) ?_
    obtain ⟨z4, h⟩ := gd_some h
    obtain ⟨μ5, e5, h⟩ := lt_some h
    refine x_iast C0 hP hS (k := 16) cx_16 (j := (μ3 14 4).toNatClampNeg) z4 rfl dX3_add_30 (fun H locs hP hS => ?_)
    rw [← e5] at hP
    refine lv_aload_n hx hb dX3_add_31 rfl (lv_at hl 0 rfl) ?_
    refine x_get C0 hP inu3 (k := 14) cx_14 (by decide) rfl 2 (by decide) q1_90 rfl (v := .ref (g.2.2.1 + 17)) rfl dX3_add_32 ?_
    refine lv_aload_n hx hb dX3_add_35 rfl (lv_at hl 0 rfl) ?_
    refine x_get C0 hP inu3 (k := 14) cx_14 (by decide) rfl 4 (by decide) q1_93 rfl (v := .int (μ5 14 4)) rfl dX3_add_36 ?_
    refine lv_iload_n hx hb dX3_add_39 rfl (lv_at hl 3 rfl) ?_
    obtain ⟨z6, h⟩ := gd_some h
    obtain ⟨μ7, e7, h⟩ := lt_some h
    refine x_iast C0 hP hS (k := 17) cx_17 (j := (μ5 14 4).toNatClampNeg) z6 rfl dX3_add_40 (fun H locs hP hS => ?_)
    rw [← e7] at hP
    refine lv_aload_n hx hb dX3_add_41 rfl (lv_at hl 0 rfl) ?_
    refine x_get C0 hP inu3 (k := 14) cx_14 (by decide) rfl 3 (by decide) q1_92 rfl (v := .ref (g.2.2.1 + 18)) rfl dX3_add_42 ?_
    refine lv_aload_n hx hb dX3_add_45 rfl (lv_at hl 0 rfl) ?_
    refine x_get C0 hP inu3 (k := 14) cx_14 (by decide) rfl 4 (by decide) q1_93 rfl (v := .int (μ7 14 4)) rfl dX3_add_46 ?_
    refine lv_iload hx hb dX3_add_49 (lv_at hl 4 rfl) ?_
    obtain ⟨z8, h⟩ := gd_some h
    obtain ⟨μ9, e9, h⟩ := lt_some h
    refine x_iast C0 hP hS (k := 18) cx_18 (j := (μ7 14 4).toNatClampNeg) z8 rfl dX3_add_51 (fun H locs hP hS => ?_)
    rw [← e9] at hP
    refine lv_aload_n hx hb dX3_add_52 rfl (lv_at hl 0 rfl) ?_
    refine lv_dup hx hb dX3_add_53 rfl ?_
    refine x_get C0 hP inu3 (k := 14) cx_14 (by decide) rfl 4 (by decide) q1_93 rfl (v := .int (μ9 14 4)) rfl dX3_add_54 ?_
    refine lv_iconst (v := (1 : Int32)) hx hb dX3_add_57 rfl ?_
    refine lv_iadd hx hb dX3_add_58 ?_
    obtain ⟨μ10, e10, h⟩ := lt_some h
    refine x_put C0 hP hS inu3 tyX3 tyX3_ok nmX3 (k := 14) cx_14 (by decide) rfl 4 (by decide) q1_93 rfl rfl (v := .int ((μ9 14 4) + (1 : Int32))) (x := ((μ9 14 4) + (1 : Int32))) rfl rfl (Nat.le_of_ble_eq_true rfl) (os_3_4 _ _ _ _) dX3_add_59 (fun H locs hP hS => ?_)
    rw [← e10] at hP
    refine lv_aload_n hx hb dX3_add_62 rfl (lv_at hl 0 rfl) ?_
    refine x_get C0 hP inu3 (k := 14) cx_14 (by decide) rfl 4 (by decide) q1_93 rfl (v := .int (μ10 14 4)) rfl dX3_add_63 ?_
    refine lv_iconst (v := (1 : Int32)) hx hb dX3_add_66 rfl ?_
    refine lv_isub hx hb dX3_add_67 ?_
    obtain ⟨rfl, rfl⟩ := some2 h
    exact x_iret C0 hP hS dX3_add_68
  · rw [if_neg c1] at h
    refine lv_iconst (v := (-1 : Int32)) hx hb dX3_add_9 rfl ?_
    obtain ⟨rfl, rfl⟩ := some2 h
    exact x_iret C0 hP hS dX3_add_10
def X3_latest_86 (K6 : Int32 → Int32 → Int32 → Int32 → Int32 → Mem → Option (Int32 × Mem)) (x1 : Int32) (x2 : Int32) (x3 : Int32) (x4 : Int32) (x5 : Int32) (μ : Mem) : Option (Int32 × Mem) :=
  K6 x1 x2 x3 x4 (x5 + (1 : Int32)) μ
set_option maxRecDepth 100000 in
set_option maxHeartbeats 4000000 in
theorem w_X3_latest_86 {g : Gx} {p : Program} {l : Launch} {e : Env} {s : State} {m : MethodId} {args : Array Value} {below : List Frame} {meth : Method} {c : Code} (C0 : Cx Lx g p s m args meth c cX3_latest 7 (some .int) RX3) {r : Int32} {ν : Mem} (K6 : Int32 → Int32 → Int32 → Int32 → Int32 → Mem → Option (Int32 × Mem)) (hK6 : ∀ (x1 : Int32) (x2 : Int32) (x3 : Int32) (x4 : Int32) (x5 : Int32) (μ : Mem) (H : Heap) (locs : List Loc) (ls : Array Slot), Px Lx g μ H → va_S (Ax Lx g) s.heap H locs → lv_has ls 7 [(0, .ref (g.2.2.1 + 14)), (1, .int x1), (2, .int x2), (3, .int x3), (4, .int x4), (5, .int x5)] → K6 x1 x2 x3 x4 x5 μ = some (r, ν) → W p l e { frames := 0, cells := 0, slots := 0, locals := 0 } s m args below meth c H locs 0 0 (MQ below (Qx Lx g (some (.int r)) ν) args s 0 0 (Ax Lx g)) (F0 m 6 ls [])) (x1 : Int32) (x2 : Int32) (x3 : Int32) (x4 : Int32) (x5 : Int32) (μ : Mem) (H : Heap) (locs : List Loc) (ls : Array Slot) (hP : Px Lx g μ H) (hS : va_S (Ax Lx g) s.heap H locs) (hl : lv_has ls 7 [(0, .ref (g.2.2.1 + 14)), (1, .int x1), (2, .int x2), (3, .int x3), (4, .int x4), (5, .int x5)]) (h : X3_latest_86 K6 x1 x2 x3 x4 x5 μ = some (r, ν)) : W p l e { frames := 0, cells := 0, slots := 0, locals := 0 } s m args below meth c H locs 0 0 (MQ below (Qx Lx g (some (.int r)) ν) args s 0 0 (Ax Lx g)) (F0 m 86 ls []) := by
  obtain ⟨hx, hb, hr, hml, hown, hts, hlocks, hK⟩ := id C0
  unfold X3_latest_86 at h
  refine lv_iinc (v := (x5 + (1 : Int32))) (lv' := [(5, .int (x5 + (1 : Int32))), (0, .ref (g.2.2.1 + 14)), (1, .int x1), (2, .int x2), (3, .int x3), (4, .int x4)]) hx hb dX3_latest_86 hl (k := 5) rfl rfl (by decide) rfl (fun ls hl => ?_)
  refine lv_goto (tgt := 6) hx hb dX3_latest_89 (by decide) ?_
  exact hK6 x1 x2 x3 x4 (x5 + (1 : Int32)) μ _ _ _ hP hS (lv_sub hl [1, 2, 3, 4, 5, 0] rfl) h
def X3_latest_82 (K6 : Int32 → Int32 → Int32 → Int32 → Int32 → Mem → Option (Int32 × Mem)) (x1 : Int32) (x2 : Int32) (x3 : Int32) (x5 : Int32) (μ : Mem) : Option (Int32 × Mem) :=
  X3_latest_86 K6 x1 x2 x3 x5 x5 μ
set_option maxRecDepth 100000 in
set_option maxHeartbeats 4000000 in
theorem w_X3_latest_82 {g : Gx} {p : Program} {l : Launch} {e : Env} {s : State} {m : MethodId} {args : Array Value} {below : List Frame} {meth : Method} {c : Code} (C0 : Cx Lx g p s m args meth c cX3_latest 7 (some .int) RX3) {r : Int32} {ν : Mem} (K6 : Int32 → Int32 → Int32 → Int32 → Int32 → Mem → Option (Int32 × Mem)) (hK6 : ∀ (x1 : Int32) (x2 : Int32) (x3 : Int32) (x4 : Int32) (x5 : Int32) (μ : Mem) (H : Heap) (locs : List Loc) (ls : Array Slot), Px Lx g μ H → va_S (Ax Lx g) s.heap H locs → lv_has ls 7 [(0, .ref (g.2.2.1 + 14)), (1, .int x1), (2, .int x2), (3, .int x3), (4, .int x4), (5, .int x5)] → K6 x1 x2 x3 x4 x5 μ = some (r, ν) → W p l e { frames := 0, cells := 0, slots := 0, locals := 0 } s m args below meth c H locs 0 0 (MQ below (Qx Lx g (some (.int r)) ν) args s 0 0 (Ax Lx g)) (F0 m 6 ls [])) (x1 : Int32) (x2 : Int32) (x3 : Int32) (x5 : Int32) (μ : Mem) (H : Heap) (locs : List Loc) (ls : Array Slot) (hP : Px Lx g μ H) (hS : va_S (Ax Lx g) s.heap H locs) (hl : lv_has ls 7 [(0, .ref (g.2.2.1 + 14)), (1, .int x1), (2, .int x2), (3, .int x3), (5, .int x5)]) (h : X3_latest_82 K6 x1 x2 x3 x5 μ = some (r, ν)) : W p l e { frames := 0, cells := 0, slots := 0, locals := 0 } s m args below meth c H locs 0 0 (MQ below (Qx Lx g (some (.int r)) ν) args s 0 0 (Ax Lx g)) (F0 m 82 ls []) := by
  obtain ⟨hx, hb, hr, hml, hown, hts, hlocks, hK⟩ := id C0
  unfold X3_latest_82 at h
  refine lv_iload hx hb dX3_latest_82 (lv_at hl 4 rfl) ?_
  refine lv_istore (lv' := [(4, .int x5), (0, .ref (g.2.2.1 + 14)), (1, .int x1), (2, .int x2), (3, .int x3), (5, .int x5)]) hx hb dX3_latest_84 hl (by decide) rfl (fun ls hl => ?_)
  exact w_X3_latest_86 C0 K6 hK6 x1 x2 x3 x5 x5 μ _ _ _ hP hS (lv_sub hl [1, 2, 3, 4, 0, 5] rfl) h
def X3_latest_53 (K6 : Int32 → Int32 → Int32 → Int32 → Int32 → Mem → Option (Int32 × Mem)) (x1 : Int32) (x2 : Int32) (x3 : Int32) (x4 : Int32) (x5 : Int32) (t0 : Int32) (μ : Mem) : Option (Int32 × Mem) :=
  (if t0 = (0 : Int32) then X3_latest_86 K6 x1 x2 x3 x4 x5 μ else (if x4 < (0 : Int32) then X3_latest_82 K6 x1 x2 x3 x5 μ else gd (inB x5 40) (gd (inB x4 40) ((if (μ 16 x5.toNatClampNeg) < (μ 16 x4.toNatClampNeg) then X3_latest_86 K6 x1 x2 x3 x4 x5 μ else X3_latest_82 K6 x1 x2 x3 x5 μ)))))
set_option maxRecDepth 100000 in
set_option maxHeartbeats 4000000 in
theorem w_X3_latest_53 {g : Gx} {p : Program} {l : Launch} {e : Env} {s : State} {m : MethodId} {args : Array Value} {below : List Frame} {meth : Method} {c : Code} (C0 : Cx Lx g p s m args meth c cX3_latest 7 (some .int) RX3) {r : Int32} {ν : Mem} (K6 : Int32 → Int32 → Int32 → Int32 → Int32 → Mem → Option (Int32 × Mem)) (hK6 : ∀ (x1 : Int32) (x2 : Int32) (x3 : Int32) (x4 : Int32) (x5 : Int32) (μ : Mem) (H : Heap) (locs : List Loc) (ls : Array Slot), Px Lx g μ H → va_S (Ax Lx g) s.heap H locs → lv_has ls 7 [(0, .ref (g.2.2.1 + 14)), (1, .int x1), (2, .int x2), (3, .int x3), (4, .int x4), (5, .int x5)] → K6 x1 x2 x3 x4 x5 μ = some (r, ν) → W p l e { frames := 0, cells := 0, slots := 0, locals := 0 } s m args below meth c H locs 0 0 (MQ below (Qx Lx g (some (.int r)) ν) args s 0 0 (Ax Lx g)) (F0 m 6 ls [])) (x1 : Int32) (x2 : Int32) (x3 : Int32) (x4 : Int32) (x5 : Int32) (t0 : Int32) (μ : Mem) (H : Heap) (locs : List Loc) (ls : Array Slot) (hP : Px Lx g μ H) (hS : va_S (Ax Lx g) s.heap H locs) (hl : lv_has ls 7 [(0, .ref (g.2.2.1 + 14)), (1, .int x1), (2, .int x2), (3, .int x3), (4, .int x4), (5, .int x5)]) (h : X3_latest_53 K6 x1 x2 x3 x4 x5 t0 μ = some (r, ν)) : W p l e { frames := 0, cells := 0, slots := 0, locals := 0 } s m args below meth c H locs 0 0 (MQ below (Qx Lx g (some (.int r)) ν) args s 0 0 (Ax Lx g)) (F0 m 53 ls [.int t0]) := by
  obtain ⟨hx, hb, hr, hml, hown, hts, hlocks, hK⟩ := id C0
  unfold X3_latest_53 at h
  refine lv_istore (lv' := [(6, .int t0), (0, .ref (g.2.2.1 + 14)), (1, .int x1), (2, .int x2), (3, .int x3), (4, .int x4), (5, .int x5)]) hx hb dX3_latest_53 hl (by decide) rfl (fun ls hl => ?_)
  refine lv_iload hx hb dX3_latest_55 (lv_at hl 0 rfl) ?_
  refine lv_if_eq (tgt := 86) hx hb dX3_latest_57 (by decide) (fun c4 => ?_) (fun c4 => ?_)
  · rw [if_pos c4] at h
    exact w_X3_latest_86 C0 K6 hK6 x1 x2 x3 x4 x5 μ _ _ _ hP hS (lv_sub hl [1, 2, 3, 4, 5, 6] rfl) h
  · rw [if_neg c4] at h
    refine lv_iload hx hb dX3_latest_60 (lv_at hl 5 rfl) ?_
    refine lv_if_lt (tgt := 82) hx hb dX3_latest_62 (by decide) (fun c5 => ?_) (fun c5 => ?_)
    · rw [if_pos c5] at h
      exact w_X3_latest_82 C0 K6 hK6 x1 x2 x3 x5 μ _ _ _ hP hS (lv_sub hl [1, 2, 3, 4, 6] rfl) h
    · rw [if_neg c5] at h
      refine lv_aload_n hx hb dX3_latest_65 rfl (lv_at hl 1 rfl) ?_
      refine x_get C0 hP inu3 (k := 14) cx_14 (by decide) rfl 1 (by decide) q1_88 rfl (v := .ref (g.2.2.1 + 16)) rfl dX3_latest_66 ?_
      refine lv_iload hx hb dX3_latest_69 (lv_at hl 6 rfl) ?_
      obtain ⟨z6, h⟩ := gd_some h
      refine x_iald C0 hP (k := 16) cx_16 (j := x5.toNatClampNeg) z6 rfl dX3_latest_71 ?_
      refine lv_aload_n hx hb dX3_latest_72 rfl (lv_at hl 1 rfl) ?_
      refine x_get C0 hP inu3 (k := 14) cx_14 (by decide) rfl 1 (by decide) q1_88 rfl (v := .ref (g.2.2.1 + 16)) rfl dX3_latest_73 ?_
      refine lv_iload hx hb dX3_latest_76 (lv_at hl 5 rfl) ?_
      obtain ⟨z7, h⟩ := gd_some h
      refine x_iald C0 hP (k := 16) cx_16 (j := x4.toNatClampNeg) z7 rfl dX3_latest_78 ?_
      refine lv_icmp_lt (tgt := 86) hx hb dX3_latest_79 (by decide) (fun c8 => ?_) (fun c8 => ?_)
      · rw [if_pos c8] at h
        exact w_X3_latest_86 C0 K6 hK6 x1 x2 x3 x4 x5 μ _ _ _ hP hS (lv_sub hl [1, 2, 3, 4, 5, 6] rfl) h
      · rw [if_neg c8] at h
        exact w_X3_latest_82 C0 K6 hK6 x1 x2 x3 x5 μ _ _ _ hP hS (lv_sub hl [1, 2, 3, 4, 6] rfl) h
def X3_latest_52 (K6 : Int32 → Int32 → Int32 → Int32 → Int32 → Mem → Option (Int32 × Mem)) (x1 : Int32) (x2 : Int32) (x3 : Int32) (x4 : Int32) (x5 : Int32) (μ : Mem) : Option (Int32 × Mem) :=
  X3_latest_53 K6 x1 x2 x3 x4 x5 (0 : Int32) μ
set_option maxRecDepth 100000 in
set_option maxHeartbeats 4000000 in
theorem w_X3_latest_52 {g : Gx} {p : Program} {l : Launch} {e : Env} {s : State} {m : MethodId} {args : Array Value} {below : List Frame} {meth : Method} {c : Code} (C0 : Cx Lx g p s m args meth c cX3_latest 7 (some .int) RX3) {r : Int32} {ν : Mem} (K6 : Int32 → Int32 → Int32 → Int32 → Int32 → Mem → Option (Int32 × Mem)) (hK6 : ∀ (x1 : Int32) (x2 : Int32) (x3 : Int32) (x4 : Int32) (x5 : Int32) (μ : Mem) (H : Heap) (locs : List Loc) (ls : Array Slot), Px Lx g μ H → va_S (Ax Lx g) s.heap H locs → lv_has ls 7 [(0, .ref (g.2.2.1 + 14)), (1, .int x1), (2, .int x2), (3, .int x3), (4, .int x4), (5, .int x5)] → K6 x1 x2 x3 x4 x5 μ = some (r, ν) → W p l e { frames := 0, cells := 0, slots := 0, locals := 0 } s m args below meth c H locs 0 0 (MQ below (Qx Lx g (some (.int r)) ν) args s 0 0 (Ax Lx g)) (F0 m 6 ls [])) (x1 : Int32) (x2 : Int32) (x3 : Int32) (x4 : Int32) (x5 : Int32) (μ : Mem) (H : Heap) (locs : List Loc) (ls : Array Slot) (hP : Px Lx g μ H) (hS : va_S (Ax Lx g) s.heap H locs) (hl : lv_has ls 7 [(0, .ref (g.2.2.1 + 14)), (1, .int x1), (2, .int x2), (3, .int x3), (4, .int x4), (5, .int x5)]) (h : X3_latest_52 K6 x1 x2 x3 x4 x5 μ = some (r, ν)) : W p l e { frames := 0, cells := 0, slots := 0, locals := 0 } s m args below meth c H locs 0 0 (MQ below (Qx Lx g (some (.int r)) ν) args s 0 0 (Ax Lx g)) (F0 m 52 ls []) := by
  obtain ⟨hx, hb, hr, hml, hown, hts, hlocks, hK⟩ := id C0
  unfold X3_latest_52 at h
  refine lv_iconst (v := (0 : Int32)) hx hb dX3_latest_52 rfl ?_
  exact w_X3_latest_53 C0 K6 hK6 x1 x2 x3 x4 x5 (0 : Int32) μ _ _ _ hP hS (lv_sub hl [0, 1, 2, 3, 4, 5] rfl) h
def X3_latest_6  : Nat → Int32 → Int32 → Int32 → Int32 → Int32 → Mem → Option (Int32 × Mem)
  | 0, _, _, _, _, _, _ => none
  | n + 1, x1, x2, x3, x4, x5, μ => (if (μ 14 4) ≤ x5 then some (x4, μ) else gd (inB x5 40) ((if (μ 15 x5.toNatClampNeg) = x1 then gd (inB x5 40) ((if x2 < (μ 16 x5.toNatClampNeg) then X3_latest_52 (X3_latest_6 n) x1 x2 x3 x4 x5 μ else gd (inB x5 40) ((if x3 < (μ 18 x5.toNatClampNeg) then X3_latest_52 (X3_latest_6 n) x1 x2 x3 x4 x5 μ else X3_latest_53 (X3_latest_6 n) x1 x2 x3 x4 x5 (1 : Int32) μ)))) else X3_latest_52 (X3_latest_6 n) x1 x2 x3 x4 x5 μ)))
set_option maxRecDepth 100000 in
set_option maxHeartbeats 4000000 in
theorem w_X3_latest_6 {g : Gx} {p : Program} {l : Launch} {e : Env} {s : State} {m : MethodId} {args : Array Value} {below : List Frame} {meth : Method} {c : Code} (C0 : Cx Lx g p s m args meth c cX3_latest 7 (some .int) RX3) {r : Int32} {ν : Mem}  (n : Nat) : ∀ (x1 : Int32) (x2 : Int32) (x3 : Int32) (x4 : Int32) (x5 : Int32) (μ : Mem) (H : Heap) (locs : List Loc) (ls : Array Slot), Px Lx g μ H → va_S (Ax Lx g) s.heap H locs → lv_has ls 7 [(0, .ref (g.2.2.1 + 14)), (1, .int x1), (2, .int x2), (3, .int x3), (4, .int x4), (5, .int x5)] → X3_latest_6  n x1 x2 x3 x4 x5 μ = some (r, ν) → W p l e { frames := 0, cells := 0, slots := 0, locals := 0 } s m args below meth c H locs 0 0 (MQ below (Qx Lx g (some (.int r)) ν) args s 0 0 (Ax Lx g)) (F0 m 6 ls []) := by
  obtain ⟨hx, hb, hr, hml, hown, hts, hlocks, hK⟩ := id C0
  induction n with
  | zero =>
    intro x1 x2 x3 x4 x5 μ H locs ls hP hS hl h
    have h : (none : Option (Int32 × Mem)) = some (r, ν) := h
    cases h
  | succ n ih =>
    intro x1 x2 x3 x4 x5 μ H locs ls hP hS hl h
    rw [X3_latest_6.eq_2] at h
    refine lv_iload hx hb dX3_latest_6 (lv_at hl 5 rfl) ?_
    refine lv_aload_n hx hb dX3_latest_8 rfl (lv_at hl 0 rfl) ?_
    refine x_get C0 hP inu3 (k := 14) cx_14 (by decide) rfl 4 (by decide) q1_93 rfl (v := .int (μ 14 4)) rfl dX3_latest_9 ?_
    refine lv_icmp_ge (tgt := 92) hx hb dX3_latest_12 (by decide) (fun c1 => ?_) (fun c1 => ?_)
    · rw [if_pos c1] at h
      refine lv_iload hx hb dX3_latest_92 (lv_at hl 4 rfl) ?_
      obtain ⟨rfl, rfl⟩ := some2 h
      exact x_iret C0 hP hS dX3_latest_94
    · rw [if_neg c1] at h
      refine lv_aload_n hx hb dX3_latest_15 rfl (lv_at hl 0 rfl) ?_
      refine x_get C0 hP inu3 (k := 14) cx_14 (by decide) rfl 0 (by decide) q1_87 rfl (v := .ref (g.2.2.1 + 15)) rfl dX3_latest_16 ?_
      refine lv_iload hx hb dX3_latest_19 (lv_at hl 5 rfl) ?_
      obtain ⟨z2, h⟩ := gd_some h
      refine x_iald C0 hP (k := 15) cx_15 (j := x5.toNatClampNeg) z2 rfl dX3_latest_21 ?_
      refine lv_iload_n hx hb dX3_latest_22 rfl (lv_at hl 1 rfl) ?_
      refine lv_icmp_ne (tgt := 52) hx hb dX3_latest_23 (by decide) (fun c3 => ?_) (fun c3 => ?_)
      · rw [if_neg c3] at h
        exact w_X3_latest_52 C0 (X3_latest_6  n) ih x1 x2 x3 x4 x5 μ _ _ _ hP hS (lv_sub hl [0, 1, 2, 3, 4, 5] rfl) h
      · rw [if_pos c3] at h
        refine lv_aload_n hx hb dX3_latest_26 rfl (lv_at hl 0 rfl) ?_
        refine x_get C0 hP inu3 (k := 14) cx_14 (by decide) rfl 1 (by decide) q1_88 rfl (v := .ref (g.2.2.1 + 16)) rfl dX3_latest_27 ?_
        refine lv_iload hx hb dX3_latest_30 (lv_at hl 5 rfl) ?_
        obtain ⟨z9, h⟩ := gd_some h
        refine x_iald C0 hP (k := 16) cx_16 (j := x5.toNatClampNeg) z9 rfl dX3_latest_32 ?_
        refine lv_iload_n hx hb dX3_latest_33 rfl (lv_at hl 2 rfl) ?_
        refine lv_icmp_gt (tgt := 52) hx hb dX3_latest_34 (by decide) (fun c10 => ?_) (fun c10 => ?_)
        · rw [if_pos c10] at h
          exact w_X3_latest_52 C0 (X3_latest_6  n) ih x1 x2 x3 x4 x5 μ _ _ _ hP hS (lv_sub hl [0, 1, 2, 3, 4, 5] rfl) h
        · rw [if_neg c10] at h
          refine lv_aload_n hx hb dX3_latest_37 rfl (lv_at hl 0 rfl) ?_
          refine x_get C0 hP inu3 (k := 14) cx_14 (by decide) rfl 3 (by decide) q1_92 rfl (v := .ref (g.2.2.1 + 18)) rfl dX3_latest_38 ?_
          refine lv_iload hx hb dX3_latest_41 (lv_at hl 5 rfl) ?_
          obtain ⟨z11, h⟩ := gd_some h
          refine x_iald C0 hP (k := 18) cx_18 (j := x5.toNatClampNeg) z11 rfl dX3_latest_43 ?_
          refine lv_iload_n hx hb dX3_latest_44 rfl (lv_at hl 3 rfl) ?_
          refine lv_icmp_gt (tgt := 52) hx hb dX3_latest_45 (by decide) (fun c12 => ?_) (fun c12 => ?_)
          · rw [if_pos c12] at h
            exact w_X3_latest_52 C0 (X3_latest_6  n) ih x1 x2 x3 x4 x5 μ _ _ _ hP hS (lv_sub hl [0, 1, 2, 3, 4, 5] rfl) h
          · rw [if_neg c12] at h
            refine lv_iconst (v := (1 : Int32)) hx hb dX3_latest_48 rfl ?_
            refine lv_goto (tgt := 53) hx hb dX3_latest_49 (by decide) ?_
            exact w_X3_latest_53 C0 (X3_latest_6  n) ih x1 x2 x3 x4 x5 (1 : Int32) μ _ _ _ hP hS (lv_sub hl [0, 1, 2, 3, 4, 5] rfl) h
def X3_latest (x1 : Int32) (x2 : Int32) (x3 : Int32) (μ : Mem) : Option (Int32 × Mem) :=
  X3_latest_6 FU x1 x2 x3 (-1 : Int32) (0 : Int32) μ
set_option maxRecDepth 100000 in
set_option maxHeartbeats 4000000 in
theorem c_X3_latest (l : Launch) (g : Gx) (x1 : Int32) (x2 : Int32) (x3 : Int32) (μ : Mem) {r : Int32} {ν : Mem} (h : X3_latest x1 x2 x3 μ = some (r, ν)) : Ct Lx g l yX3_latest cX3_latest 7 (some .int) { frames := 0, cells := 0, slots := 0, locals := 0 } [.ref (g.2.2.1 + 14), .int x1, .int x2, .int x3] μ (some (.int r)) ν := by
  refine x_met (lv := [(0, .ref (g.2.2.1 + 14)), (1, .int x1), (2, .int x2), (3, .int x3)]) rfl (Nat.le_of_ble_eq_true rfl) rfl ?_
  intro p e s m below meth c C0 hP ls hl
  generalize ([.ref (g.2.2.1 + 14), .int x1, .int x2, .int x3] : List Value).toArray = args at C0 ⊢
  have C0 : Cx Lx g p s m args meth c cX3_latest 7 (some .int) RX3 := C0
  have hS : va_S (Ax Lx g) s.heap s.heap [] := va_S.rf
  obtain ⟨hx, hb, hr, hml, hown, hts, hlocks, hK⟩ := id C0
  unfold X3_latest at h
  skip
  refine lv_iconst (v := (-1 : Int32)) hx hb dX3_latest_0 rfl ?_
  refine lv_istore (lv' := [(4, .int (-1 : Int32)), (0, .ref (g.2.2.1 + 14)), (1, .int x1), (2, .int x2), (3, .int x3)]) hx hb dX3_latest_1 hl (by decide) rfl (fun ls hl => ?_)
  refine lv_iconst (v := (0 : Int32)) hx hb dX3_latest_3 rfl ?_
  refine lv_istore (lv' := [(5, .int (0 : Int32)), (4, .int (-1 : Int32)), (0, .ref (g.2.2.1 + 14)), (1, .int x1), (2, .int x2), (3, .int x3)]) hx hb dX3_latest_4 hl (by decide) rfl (fun ls hl => ?_)
  exact w_X3_latest_6 C0  FU x1 x2 x3 (-1 : Int32) (0 : Int32) μ _ _ _ hP hS (lv_sub hl [2, 3, 4, 5, 1, 0] rfl) h
def X3_copyFrom (a0 : Nat) (a1 : Nat) (μ : Mem) : Option Mem :=
  lt (st μ a0 4 (μ a1 4)) fun μ1 => lt (str μ1 (a0 + 1) (va_cpy (μ1 (a1 + 1)) (μ1 (a0 + 1)) 0 0 40)) fun μ2 => lt (str μ2 (a0 + 2) (va_cpy (μ2 (a1 + 2)) (μ2 (a0 + 2)) 0 0 40)) fun μ3 => lt (str μ3 (a0 + 3) (va_cpy (μ3 (a1 + 3)) (μ3 (a0 + 3)) 0 0 40)) fun μ4 => lt (str μ4 (a0 + 4) (va_cpy (μ4 (a1 + 4)) (μ4 (a0 + 4)) 0 0 40)) fun μ5 => some μ5
set_option maxRecDepth 100000 in
set_option maxHeartbeats 4000000 in
theorem c_X3_copyFrom (l : Launch) (g : Gx) (a0 : Nat) (hi0 : Id3 a0) (a1 : Nat) (hi1 : Id3 a1) (μ : Mem) {ν : Mem} (h : X3_copyFrom a0 a1 μ = some ν) : Ct Lx g l yX3_copyFrom cX3_copyFrom 2 none { frames := 1, cells := 0, slots := 0, locals := 18 } [.ref (g.2.2.1 + a0), .ref (g.2.2.1 + a1)] μ none ν := by
  refine x_met (lv := [(0, .ref (g.2.2.1 + a0)), (1, .ref (g.2.2.1 + a1))]) rfl (Nat.le_of_ble_eq_true rfl) rfl ?_
  intro p e s m below meth c C0 hP ls hl
  generalize ([.ref (g.2.2.1 + a0), .ref (g.2.2.1 + a1)] : List Value).toArray = args at C0 ⊢
  have C0 : Cx Lx g p s m args meth c cX3_copyFrom 2 none RX3 := C0
  have hS : va_S (Ax Lx g) s.heap s.heap [] := va_S.rf
  obtain ⟨hx, hb, hr, hml, hown, hts, hlocks, hK⟩ := id C0
  unfold X3_copyFrom at h
  skip
  refine lv_aload_n hx hb dX3_copyFrom_0 rfl (lv_at hl 0 rfl) ?_
  refine lv_aload_n hx hb dX3_copyFrom_1 rfl (lv_at hl 1 rfl) ?_
  refine x_get C0 hP inu3 (k := a1) (id3_0 hi1) (by decide) rfl 4 (by decide) q1_93 rfl (v := .int (μ a1 4)) rfl dX3_copyFrom_2 ?_
  obtain ⟨μ1, e1, h⟩ := lt_some h
  refine x_put C0 hP hS inu3 tyX3 tyX3_ok nmX3 (k := a0) (id3_0 hi0) (by decide) rfl 4 (by decide) q1_93 rfl rfl (v := .int (μ a1 4)) (x := (μ a1 4)) rfl rfl (Nat.le_of_ble_eq_true rfl) (os_3_4 _ _ _ _) dX3_copyFrom_5 (fun H locs hP hS => ?_)
  rw [← e1] at hP
  refine lv_aload_n hx hb dX3_copyFrom_8 rfl (lv_at hl 1 rfl) ?_
  refine x_get C0 hP inu3 (k := a1) (id3_0 hi1) (by decide) rfl 0 (by decide) q1_87 rfl (v := .ref (g.2.2.1 + (a1 + 1))) rfl dX3_copyFrom_9 ?_
  refine lv_iconst (v := (0 : Int32)) hx hb dX3_copyFrom_12 rfl ?_
  refine lv_aload_n hx hb dX3_copyFrom_13 rfl (lv_at hl 0 rfl) ?_
  refine x_get C0 hP inu3 (k := a0) (id3_0 hi0) (by decide) rfl 0 (by decide) q1_87 rfl (v := .ref (g.2.2.1 + (a0 + 1))) rfl dX3_copyFrom_14 ?_
  refine lv_iconst (v := (0 : Int32)) hx hb dX3_copyFrom_17 rfl ?_
  refine lv_bipush (v := (40 : Int32)) hx hb dX3_copyFrom_18 (by decide +kernel) ?_
  obtain ⟨μ2, e2, h⟩ := lt_some h
  refine x_copyi C0 hP hS hl.1 (k0 := (a1 + 1)) (k1 := (a0 + 1)) (id3_1 hi1) (id3_1 hi0) q4_101 q3_124 q3_123 q1_13 (by decide) (sp2 := 0) (dp2 := 0) (n2 := 40) rfl rfl rfl (Nat.le_of_ble_eq_true rfl) (Nat.le_of_ble_eq_true rfl) dX3_copyFrom_20 (fun H locs hP hS => ?_)
  rw [← e2] at hP
  refine lv_aload_n hx hb dX3_copyFrom_23 rfl (lv_at hl 1 rfl) ?_
  refine x_get C0 hP inu3 (k := a1) (id3_0 hi1) (by decide) rfl 1 (by decide) q1_88 rfl (v := .ref (g.2.2.1 + (a1 + 2))) rfl dX3_copyFrom_24 ?_
  refine lv_iconst (v := (0 : Int32)) hx hb dX3_copyFrom_27 rfl ?_
  refine lv_aload_n hx hb dX3_copyFrom_28 rfl (lv_at hl 0 rfl) ?_
  refine x_get C0 hP inu3 (k := a0) (id3_0 hi0) (by decide) rfl 1 (by decide) q1_88 rfl (v := .ref (g.2.2.1 + (a0 + 2))) rfl dX3_copyFrom_29 ?_
  refine lv_iconst (v := (0 : Int32)) hx hb dX3_copyFrom_32 rfl ?_
  refine lv_bipush (v := (40 : Int32)) hx hb dX3_copyFrom_33 (by decide +kernel) ?_
  obtain ⟨μ3, e3, h⟩ := lt_some h
  refine x_copyi C0 hP hS hl.1 (k0 := (a1 + 2)) (k1 := (a0 + 2)) (id3_2 hi1) (id3_2 hi0) q4_101 q3_124 q3_123 q1_13 (by decide) (sp2 := 0) (dp2 := 0) (n2 := 40) rfl rfl rfl (Nat.le_of_ble_eq_true rfl) (Nat.le_of_ble_eq_true rfl) dX3_copyFrom_35 (fun H locs hP hS => ?_)
  rw [← e3] at hP
  refine lv_aload_n hx hb dX3_copyFrom_38 rfl (lv_at hl 1 rfl) ?_
  refine x_get C0 hP inu3 (k := a1) (id3_0 hi1) (by decide) rfl 2 (by decide) q1_90 rfl (v := .ref (g.2.2.1 + (a1 + 3))) rfl dX3_copyFrom_39 ?_
  refine lv_iconst (v := (0 : Int32)) hx hb dX3_copyFrom_42 rfl ?_
  refine lv_aload_n hx hb dX3_copyFrom_43 rfl (lv_at hl 0 rfl) ?_
  refine x_get C0 hP inu3 (k := a0) (id3_0 hi0) (by decide) rfl 2 (by decide) q1_90 rfl (v := .ref (g.2.2.1 + (a0 + 3))) rfl dX3_copyFrom_44 ?_
  refine lv_iconst (v := (0 : Int32)) hx hb dX3_copyFrom_47 rfl ?_
  refine lv_bipush (v := (40 : Int32)) hx hb dX3_copyFrom_48 (by decide +kernel) ?_
  obtain ⟨μ4, e4, h⟩ := lt_some h
  refine x_copyi C0 hP hS hl.1 (k0 := (a1 + 3)) (k1 := (a0 + 3)) (id3_3 hi1) (id3_3 hi0) q4_101 q3_124 q3_123 q1_13 (by decide) (sp2 := 0) (dp2 := 0) (n2 := 40) rfl rfl rfl (Nat.le_of_ble_eq_true rfl) (Nat.le_of_ble_eq_true rfl) dX3_copyFrom_50 (fun H locs hP hS => ?_)
  rw [← e4] at hP
  refine lv_aload_n hx hb dX3_copyFrom_53 rfl (lv_at hl 1 rfl) ?_
  refine x_get C0 hP inu3 (k := a1) (id3_0 hi1) (by decide) rfl 3 (by decide) q1_92 rfl (v := .ref (g.2.2.1 + (a1 + 4))) rfl dX3_copyFrom_54 ?_
  refine lv_iconst (v := (0 : Int32)) hx hb dX3_copyFrom_57 rfl ?_
  refine lv_aload_n hx hb dX3_copyFrom_58 rfl (lv_at hl 0 rfl) ?_
  refine x_get C0 hP inu3 (k := a0) (id3_0 hi0) (by decide) rfl 3 (by decide) q1_92 rfl (v := .ref (g.2.2.1 + (a0 + 4))) rfl dX3_copyFrom_59 ?_
  refine lv_iconst (v := (0 : Int32)) hx hb dX3_copyFrom_62 rfl ?_
  refine lv_bipush (v := (40 : Int32)) hx hb dX3_copyFrom_63 (by decide +kernel) ?_
  obtain ⟨μ5, e5, h⟩ := lt_some h
  refine x_copyi C0 hP hS hl.1 (k0 := (a1 + 4)) (k1 := (a0 + 4)) (id3_4 hi1) (id3_4 hi0) q4_101 q3_124 q3_123 q1_13 (by decide) (sp2 := 0) (dp2 := 0) (n2 := 40) rfl rfl rfl (Nat.le_of_ble_eq_true rfl) (Nat.le_of_ble_eq_true rfl) dX3_copyFrom_65 (fun H locs hP hS => ?_)
  rw [← e5] at hP
  obtain rfl := some1 h
  exact x_vret C0 hP hS dX3_copyFrom_68
def X4_isMissing (a0 : Nat) (μ : Mem) : Option (Int32 × Mem) :=
  (if (μ a0 1) = (0 : Int32) then some ((1 : Int32), μ) else some ((0 : Int32), μ))
set_option maxRecDepth 100000 in
set_option maxHeartbeats 4000000 in
theorem c_X4_isMissing (l : Launch) (g : Gx) (a0 : Nat) (hi0 : Id4 a0) (μ : Mem) {r : Int32} {ν : Mem} (h : X4_isMissing a0 μ = some (r, ν)) : Ct Lx g l yX4_isMissing cX4_isMissing 1 (some .boolean) { frames := 0, cells := 0, slots := 0, locals := 0 } [.ref (g.2.2.1 + a0)] μ (some (.int r)) ν := by
  refine x_met (lv := [(0, .ref (g.2.2.1 + a0))]) rfl (Nat.le_of_ble_eq_true rfl) rfl ?_
  intro p e s m below meth c C0 hP ls hl
  generalize ([.ref (g.2.2.1 + a0)] : List Value).toArray = args at C0 ⊢
  have C0 : Cx Lx g p s m args meth c cX4_isMissing 1 (some .boolean) RX4 := C0
  have hS : va_S (Ax Lx g) s.heap s.heap [] := va_S.rf
  obtain ⟨hx, hb, hr, hml, hown, hts, hlocks, hK⟩ := id C0
  unfold X4_isMissing at h
  skip
  refine lv_aload_n hx hb dX4_isMissing_0 rfl (lv_at hl 0 rfl) ?_
  refine x_get C0 hP inu4 (k := a0) (id4_0 hi0) (by decide) rfl 1 (by decide) q2_70 rfl (v := .int (μ a0 1)) rfl dX4_isMissing_1 ?_
  refine lv_if_ne (tgt := 11) hx hb dX4_isMissing_4 (by decide) (fun c1 => ?_) (fun c1 => ?_)
  · rw [if_neg c1] at h
    refine lv_iconst (v := (0 : Int32)) hx hb dX4_isMissing_11 rfl ?_
    obtain ⟨rfl, rfl⟩ := some2 h
    exact x_zret C0 hP hS (by decide) dX4_isMissing_12
  · rw [if_pos c1] at h
    refine lv_iconst (v := (1 : Int32)) hx hb dX4_isMissing_7 rfl ?_
    refine lv_goto (tgt := 12) hx hb dX4_isMissing_8 (by decide) ?_
    obtain ⟨rfl, rfl⟩ := some2 h
    exact x_zret C0 hP hS (by decide) dX4_isMissing_12
