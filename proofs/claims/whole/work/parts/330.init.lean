def oj2 (g : Gx) (k : Nat) : List Value := [.ref (g.2.2.1 + (k + 1)), .int 0, .int 0, .int 0, .int 0, .int 0, .int 0, .int 0, .int 0, .int 0, .int 0, .int 0, .int 0, .int 0, .int 0]
def mk2 (g : Gx) (E : Nat → va_E) (k : Nat) : Nat → va_E := va_up (va_up (E) (k + 1) (.inl (g.2.1 1, 24, .inl (fun _ => 0)))) (k + 0) (.inr (2, [.ref (g.2.2.1 + (k + 1)), .int 0, .int 0, .int 0, .int 0, .int 0, .int 0, .int 0, .int 0, .int 0, .int 0, .int 0, .int 0, .int 0, .int 0]))
theorem mk2_lo (g : Gx) (E : Nat → va_E) {k j : Nat} (h : j < k) : mk2 g E k j = E j := by
  unfold mk2
  rw [va_up_ne _ _ (by omega)]
  rw [va_up_ne _ _ (by omega)]
theorem mk2_at (g : Gx) (E : Nat → va_E) (k : Nat) : mk2 g E k k = .inr (2, oj2 g k) := by
  unfold mk2
  rw [show k + 0 = k from rfl, va_up_self]
  rfl
set_option maxRecDepth 100000 in
set_option maxHeartbeats 4000000 in
theorem i_X2 (l : Launch) (g : Gx) (k : Nat) (E : Nat → va_E) (hE0 : E k = .inr (2, [.null, .int 0, .int 0, .int 0, .int 0, .int 0, .int 0, .int 0, .int 0, .int 0, .int 0, .int 0, .int 0, .int 0, .int 0])) : Ci g l yX2_init cX2_init 1 { frames := 1, cells := 1, slots := 24, locals := 12 } k E (k + 2) (mk2 g E k) 1 24 := by
  refine n_met rfl rfl (by decide) ?_
  intro p e s m below meth c args hx hb hin hml hown hts hK hP hend ls hl
  have hown : s.vm.findClass RX2 = some m.cls := hown
  have hS : va_S (An g) s.heap s.heap [] := va_S.rf
  have hl : lv_has ls 1 [(0, .ref (g.2.2.1 + (k + 0)))] := hl
  refine lv_aload_n hx hb dX2_init_0 rfl (lv_at hl 0 rfl) ?_
  refine W.objInit hx hb hown (hts _ q1_138) (hts _ q1_21) (hts _ q1_22) rfl (by rw [hml]; exact hl.1) rfl dX2_init_1 (Nat.le_of_ble_eq_true rfl) (Nat.le_of_ble_eq_true rfl) ?_
  refine W.eq (g2 := F0 m 4 ls []) rfl ?_
  refine lv_aload_n hx hb dX2_init_4 rfl (lv_at hl 0 rfl) ?_
  refine lv_bipush (v := (24 : Int32)) hx hb dX2_init_5 (by decide +kernel) ?_
  refine n_newi hx hb hts hK.1 hP hS q1_54 (by decide) (N := 24) rfl (Nat.le_of_ble_eq_true rfl) (Nat.le_of_ble_eq_true rfl) (Nat.le_of_ble_eq_true rfl) dX2_init_7 (fun H hP hS => ?_)
  refine W.widen (k := 1) (n := 24) (Nat.le_of_ble_eq_true rfl) (Nat.le_of_ble_eq_true rfl) ?_
  obtain ⟨E1, hE1⟩ : ∃ F, F = va_up E (k + 1) (.inl (g.2.1 1, 24, .inl (fun _ => 0))) := ⟨_, rfl⟩
  have hP : Pn g (k + 2) E1 H := by rw [hE1]; exact hP
  have f0_E1 : E1 (k + 0) = .inr (2, [.null, .int 0, .int 0, .int 0, .int 0, .int 0, .int 0, .int 0, .int 0, .int 0, .int 0, .int 0, .int 0, .int 0, .int 0]) := by rw [hE1, va_up_ne _ _ (by omega)]; exact hE0
  have f1_E1 : E1 (k + 1) = .inl (g.2.1 1, 24, .inl (fun _ => 0)) := by rw [hE1, va_up_self]
  refine n_putF hx hb hown hts hK.1 hP hS hin inu2 tyX2 tyX2_ok nmX2 (k := k + 0) (by omega) f0_E1 rfl 0 (by decide) q1_139 rfl rfl rfl rfl (Nat.le_of_ble_eq_true rfl) (fs2 := [.ref (g.2.2.1 + (k + 1)), .int 0, .int 0, .int 0, .int 0, .int 0, .int 0, .int 0, .int 0, .int 0, .int 0, .int 0, .int 0, .int 0, .int 0]) rfl dX2_init_9 (fun H locs hP hS => ?_)
  obtain ⟨E2, hE2⟩ : ∃ F, F = va_up E1 (k + 0) (.inr (2, [.ref (g.2.2.1 + (k + 1)), .int 0, .int 0, .int 0, .int 0, .int 0, .int 0, .int 0, .int 0, .int 0, .int 0, .int 0, .int 0, .int 0, .int 0])) := ⟨_, rfl⟩
  have hP : Pn g (k + 2) E2 H := by rw [hE2]; exact hP
  have f0_E2 : E2 (k + 0) = .inr (2, [.ref (g.2.2.1 + (k + 1)), .int 0, .int 0, .int 0, .int 0, .int 0, .int 0, .int 0, .int 0, .int 0, .int 0, .int 0, .int 0, .int 0, .int 0]) := by rw [hE2, va_up_self]
  refine hend H locs ls 12 ?_ hS dX2_init_12
  have hF : mk2 g E k = E2 := by
    unfold mk2
    rw [← hE1, ← hE2]
  rw [hF]
  exact hP
def oj5 (g : Gx) (k : Nat) : List Value := [.ref (g.2.2.1 + (k + 1)), .ref (g.2.2.1 + (k + 2)), .ref (g.2.2.1 + (k + 3)), .ref (g.2.2.1 + (k + 4)), .int 0]
def mk5 (g : Gx) (E : Nat → va_E) (k : Nat) : Nat → va_E := va_up (va_up (va_up (va_up (va_up (va_up (va_up (va_up (E) (k + 1) (.inl (g.2.1 1, 8, .inl (fun _ => 0)))) (k + 0) (.inr (5, [.ref (g.2.2.1 + (k + 1)), .null, .null, .null, .int 0]))) (k + 2) (.inl (g.2.1 1, 8, .inl (fun _ => 0)))) (k + 0) (.inr (5, [.ref (g.2.2.1 + (k + 1)), .ref (g.2.2.1 + (k + 2)), .null, .null, .int 0]))) (k + 3) (.inl (g.2.1 1, 8, .inl (fun _ => 0)))) (k + 0) (.inr (5, [.ref (g.2.2.1 + (k + 1)), .ref (g.2.2.1 + (k + 2)), .ref (g.2.2.1 + (k + 3)), .null, .int 0]))) (k + 4) (.inl (g.2.1 1, 8, .inl (fun _ => 0)))) (k + 0) (.inr (5, [.ref (g.2.2.1 + (k + 1)), .ref (g.2.2.1 + (k + 2)), .ref (g.2.2.1 + (k + 3)), .ref (g.2.2.1 + (k + 4)), .int 0]))
theorem mk5_lo (g : Gx) (E : Nat → va_E) {k j : Nat} (h : j < k) : mk5 g E k j = E j := by
  unfold mk5
  rw [va_up_ne _ _ (by omega)]
  rw [va_up_ne _ _ (by omega)]
  rw [va_up_ne _ _ (by omega)]
  rw [va_up_ne _ _ (by omega)]
  rw [va_up_ne _ _ (by omega)]
  rw [va_up_ne _ _ (by omega)]
  rw [va_up_ne _ _ (by omega)]
  rw [va_up_ne _ _ (by omega)]
theorem mk5_at (g : Gx) (E : Nat → va_E) (k : Nat) : mk5 g E k k = .inr (5, oj5 g k) := by
  unfold mk5
  rw [show k + 0 = k from rfl, va_up_self]
  rfl
set_option maxRecDepth 100000 in
set_option maxHeartbeats 4000000 in
theorem i_X5 (l : Launch) (g : Gx) (k : Nat) (E : Nat → va_E) (hE0 : E k = .inr (5, [.null, .null, .null, .null, .int 0])) : Ci g l yX5_init cX5_init 1 { frames := 1, cells := 4, slots := 32, locals := 12 } k E (k + 5) (mk5 g E k) 4 32 := by
  refine n_met rfl rfl (by decide) ?_
  intro p e s m below meth c args hx hb hin hml hown hts hK hP hend ls hl
  have hown : s.vm.findClass RX5 = some m.cls := hown
  have hS : va_S (An g) s.heap s.heap [] := va_S.rf
  have hl : lv_has ls 1 [(0, .ref (g.2.2.1 + (k + 0)))] := hl
  refine lv_aload_n hx hb dX5_init_0 rfl (lv_at hl 0 rfl) ?_
  refine W.objInit hx hb hown (hts _ q1_36) (hts _ q1_21) (hts _ q1_22) rfl (by rw [hml]; exact hl.1) rfl dX5_init_1 (Nat.le_of_ble_eq_true rfl) (Nat.le_of_ble_eq_true rfl) ?_
  refine W.eq (g2 := F0 m 4 ls []) rfl ?_
  refine lv_aload_n hx hb dX5_init_4 rfl (lv_at hl 0 rfl) ?_
  refine lv_bipush (v := (8 : Int32)) hx hb dX5_init_5 (by decide +kernel) ?_
  refine n_newi hx hb hts hK.1 hP hS q1_54 (by decide) (N := 8) rfl (Nat.le_of_ble_eq_true rfl) (Nat.le_of_ble_eq_true rfl) (Nat.le_of_ble_eq_true rfl) dX5_init_7 (fun H hP hS => ?_)
  refine W.widen (k := 1) (n := 8) (Nat.le_of_ble_eq_true rfl) (Nat.le_of_ble_eq_true rfl) ?_
  obtain ⟨E1, hE1⟩ : ∃ F, F = va_up E (k + 1) (.inl (g.2.1 1, 8, .inl (fun _ => 0))) := ⟨_, rfl⟩
  have hP : Pn g (k + 2) E1 H := by rw [hE1]; exact hP
  have f0_E1 : E1 (k + 0) = .inr (5, [.null, .null, .null, .null, .int 0]) := by rw [hE1, va_up_ne _ _ (by omega)]; exact hE0
  have f1_E1 : E1 (k + 1) = .inl (g.2.1 1, 8, .inl (fun _ => 0)) := by rw [hE1, va_up_self]
  refine n_putF hx hb hown hts hK.1 hP hS hin inu5 tyX5 tyX5_ok nmX5 (k := k + 0) (by omega) f0_E1 rfl 0 (by decide) q1_37 rfl rfl rfl rfl (Nat.le_of_ble_eq_true rfl) (fs2 := [.ref (g.2.2.1 + (k + 1)), .null, .null, .null, .int 0]) rfl dX5_init_9 (fun H locs hP hS => ?_)
  obtain ⟨E2, hE2⟩ : ∃ F, F = va_up E1 (k + 0) (.inr (5, [.ref (g.2.2.1 + (k + 1)), .null, .null, .null, .int 0])) := ⟨_, rfl⟩
  have hP : Pn g (k + 2) E2 H := by rw [hE2]; exact hP
  have f0_E2 : E2 (k + 0) = .inr (5, [.ref (g.2.2.1 + (k + 1)), .null, .null, .null, .int 0]) := by rw [hE2, va_up_self]
  refine lv_aload_n hx hb dX5_init_12 rfl (lv_at hl 0 rfl) ?_
  refine lv_bipush (v := (8 : Int32)) hx hb dX5_init_13 (by decide +kernel) ?_
  refine n_newi hx hb hts hK.1 hP hS q1_54 (by decide) (N := 8) rfl (Nat.le_of_ble_eq_true rfl) (Nat.le_of_ble_eq_true rfl) (Nat.le_of_ble_eq_true rfl) dX5_init_15 (fun H hP hS => ?_)
  refine W.widen (k := 2) (n := 16) (Nat.le_of_ble_eq_true rfl) (Nat.le_of_ble_eq_true rfl) ?_
  obtain ⟨E3, hE3⟩ : ∃ F, F = va_up E2 (k + 2) (.inl (g.2.1 1, 8, .inl (fun _ => 0))) := ⟨_, rfl⟩
  have hP : Pn g (k + 3) E3 H := by rw [hE3]; exact hP
  have f0_E3 : E3 (k + 0) = .inr (5, [.ref (g.2.2.1 + (k + 1)), .null, .null, .null, .int 0]) := by rw [hE3, va_up_ne _ _ (by omega)]; exact f0_E2
  have f2_E3 : E3 (k + 2) = .inl (g.2.1 1, 8, .inl (fun _ => 0)) := by rw [hE3, va_up_self]
  refine n_putF hx hb hown hts hK.1 hP hS hin inu5 tyX5 tyX5_ok nmX5 (k := k + 0) (by omega) f0_E3 rfl 1 (by decide) q1_38 rfl rfl rfl rfl (Nat.le_of_ble_eq_true rfl) (fs2 := [.ref (g.2.2.1 + (k + 1)), .ref (g.2.2.1 + (k + 2)), .null, .null, .int 0]) rfl dX5_init_17 (fun H locs hP hS => ?_)
  obtain ⟨E4, hE4⟩ : ∃ F, F = va_up E3 (k + 0) (.inr (5, [.ref (g.2.2.1 + (k + 1)), .ref (g.2.2.1 + (k + 2)), .null, .null, .int 0])) := ⟨_, rfl⟩
  have hP : Pn g (k + 3) E4 H := by rw [hE4]; exact hP
  have f0_E4 : E4 (k + 0) = .inr (5, [.ref (g.2.2.1 + (k + 1)), .ref (g.2.2.1 + (k + 2)), .null, .null, .int 0]) := by rw [hE4, va_up_self]
  refine lv_aload_n hx hb dX5_init_20 rfl (lv_at hl 0 rfl) ?_
  refine lv_bipush (v := (8 : Int32)) hx hb dX5_init_21 (by decide +kernel) ?_
  refine n_newi hx hb hts hK.1 hP hS q1_54 (by decide) (N := 8) rfl (Nat.le_of_ble_eq_true rfl) (Nat.le_of_ble_eq_true rfl) (Nat.le_of_ble_eq_true rfl) dX5_init_23 (fun H hP hS => ?_)
  refine W.widen (k := 3) (n := 24) (Nat.le_of_ble_eq_true rfl) (Nat.le_of_ble_eq_true rfl) ?_
  obtain ⟨E5, hE5⟩ : ∃ F, F = va_up E4 (k + 3) (.inl (g.2.1 1, 8, .inl (fun _ => 0))) := ⟨_, rfl⟩
  have hP : Pn g (k + 4) E5 H := by rw [hE5]; exact hP
  have f0_E5 : E5 (k + 0) = .inr (5, [.ref (g.2.2.1 + (k + 1)), .ref (g.2.2.1 + (k + 2)), .null, .null, .int 0]) := by rw [hE5, va_up_ne _ _ (by omega)]; exact f0_E4
  have f3_E5 : E5 (k + 3) = .inl (g.2.1 1, 8, .inl (fun _ => 0)) := by rw [hE5, va_up_self]
  refine n_putF hx hb hown hts hK.1 hP hS hin inu5 tyX5 tyX5_ok nmX5 (k := k + 0) (by omega) f0_E5 rfl 2 (by decide) q1_39 rfl rfl rfl rfl (Nat.le_of_ble_eq_true rfl) (fs2 := [.ref (g.2.2.1 + (k + 1)), .ref (g.2.2.1 + (k + 2)), .ref (g.2.2.1 + (k + 3)), .null, .int 0]) rfl dX5_init_25 (fun H locs hP hS => ?_)
  obtain ⟨E6, hE6⟩ : ∃ F, F = va_up E5 (k + 0) (.inr (5, [.ref (g.2.2.1 + (k + 1)), .ref (g.2.2.1 + (k + 2)), .ref (g.2.2.1 + (k + 3)), .null, .int 0])) := ⟨_, rfl⟩
  have hP : Pn g (k + 4) E6 H := by rw [hE6]; exact hP
  have f0_E6 : E6 (k + 0) = .inr (5, [.ref (g.2.2.1 + (k + 1)), .ref (g.2.2.1 + (k + 2)), .ref (g.2.2.1 + (k + 3)), .null, .int 0]) := by rw [hE6, va_up_self]
  refine lv_aload_n hx hb dX5_init_28 rfl (lv_at hl 0 rfl) ?_
  refine lv_bipush (v := (8 : Int32)) hx hb dX5_init_29 (by decide +kernel) ?_
  refine n_newi hx hb hts hK.1 hP hS q1_54 (by decide) (N := 8) rfl (Nat.le_of_ble_eq_true rfl) (Nat.le_of_ble_eq_true rfl) (Nat.le_of_ble_eq_true rfl) dX5_init_31 (fun H hP hS => ?_)
  refine W.widen (k := 4) (n := 32) (Nat.le_of_ble_eq_true rfl) (Nat.le_of_ble_eq_true rfl) ?_
  obtain ⟨E7, hE7⟩ : ∃ F, F = va_up E6 (k + 4) (.inl (g.2.1 1, 8, .inl (fun _ => 0))) := ⟨_, rfl⟩
  have hP : Pn g (k + 5) E7 H := by rw [hE7]; exact hP
  have f0_E7 : E7 (k + 0) = .inr (5, [.ref (g.2.2.1 + (k + 1)), .ref (g.2.2.1 + (k + 2)), .ref (g.2.2.1 + (k + 3)), .null, .int 0]) := by rw [hE7, va_up_ne _ _ (by omega)]; exact f0_E6
  have f4_E7 : E7 (k + 4) = .inl (g.2.1 1, 8, .inl (fun _ => 0)) := by rw [hE7, va_up_self]
  refine n_putF hx hb hown hts hK.1 hP hS hin inu5 tyX5 tyX5_ok nmX5 (k := k + 0) (by omega) f0_E7 rfl 3 (by decide) q1_40 rfl rfl rfl rfl (Nat.le_of_ble_eq_true rfl) (fs2 := [.ref (g.2.2.1 + (k + 1)), .ref (g.2.2.1 + (k + 2)), .ref (g.2.2.1 + (k + 3)), .ref (g.2.2.1 + (k + 4)), .int 0]) rfl dX5_init_33 (fun H locs hP hS => ?_)
  obtain ⟨E8, hE8⟩ : ∃ F, F = va_up E7 (k + 0) (.inr (5, [.ref (g.2.2.1 + (k + 1)), .ref (g.2.2.1 + (k + 2)), .ref (g.2.2.1 + (k + 3)), .ref (g.2.2.1 + (k + 4)), .int 0])) := ⟨_, rfl⟩
  have hP : Pn g (k + 5) E8 H := by rw [hE8]; exact hP
  have f0_E8 : E8 (k + 0) = .inr (5, [.ref (g.2.2.1 + (k + 1)), .ref (g.2.2.1 + (k + 2)), .ref (g.2.2.1 + (k + 3)), .ref (g.2.2.1 + (k + 4)), .int 0]) := by rw [hE8, va_up_self]
  refine hend H locs ls 36 ?_ hS dX5_init_36
  have hF : mk5 g E k = E8 := by
    unfold mk5
    rw [← hE1, ← hE2, ← hE3, ← hE4, ← hE5, ← hE6, ← hE7, ← hE8]
  rw [hF]
  exact hP
def oj1 (g : Gx) (k : Nat) : List Value := [.ref (g.2.2.1 + (k + 1)), .ref (g.2.2.1 + (k + 2)), .ref (g.2.2.1 + (k + 3)), .ref (g.2.2.1 + (k + 4)), .ref (g.2.2.1 + (k + 5)), .int 0]
def mk1 (g : Gx) (E : Nat → va_E) (k : Nat) : Nat → va_E := va_up (va_up (va_up (va_up (va_up (va_up (va_up (va_up (va_up (va_up (E) (k + 1) (.inl (g.2.1 1, 12, .inl (fun _ => 0)))) (k + 0) (.inr (1, [.ref (g.2.2.1 + (k + 1)), .null, .null, .null, .null, .int 0]))) (k + 2) (.inl (g.2.1 1, 12, .inl (fun _ => 0)))) (k + 0) (.inr (1, [.ref (g.2.2.1 + (k + 1)), .ref (g.2.2.1 + (k + 2)), .null, .null, .null, .int 0]))) (k + 3) (.inl (g.2.1 1, 12, .inl (fun _ => 0)))) (k + 0) (.inr (1, [.ref (g.2.2.1 + (k + 1)), .ref (g.2.2.1 + (k + 2)), .ref (g.2.2.1 + (k + 3)), .null, .null, .int 0]))) (k + 4) (.inl (g.2.1 1, 720, .inl (fun _ => 0)))) (k + 0) (.inr (1, [.ref (g.2.2.1 + (k + 1)), .ref (g.2.2.1 + (k + 2)), .ref (g.2.2.1 + (k + 3)), .ref (g.2.2.1 + (k + 4)), .null, .int 0]))) (k + 5) (.inl (g.2.1 1, 60, .inl (fun _ => 0)))) (k + 0) (.inr (1, [.ref (g.2.2.1 + (k + 1)), .ref (g.2.2.1 + (k + 2)), .ref (g.2.2.1 + (k + 3)), .ref (g.2.2.1 + (k + 4)), .ref (g.2.2.1 + (k + 5)), .int 0]))
theorem mk1_lo (g : Gx) (E : Nat → va_E) {k j : Nat} (h : j < k) : mk1 g E k j = E j := by
  unfold mk1
  rw [va_up_ne _ _ (by omega)]
  rw [va_up_ne _ _ (by omega)]
  rw [va_up_ne _ _ (by omega)]
  rw [va_up_ne _ _ (by omega)]
  rw [va_up_ne _ _ (by omega)]
  rw [va_up_ne _ _ (by omega)]
  rw [va_up_ne _ _ (by omega)]
  rw [va_up_ne _ _ (by omega)]
  rw [va_up_ne _ _ (by omega)]
  rw [va_up_ne _ _ (by omega)]
theorem mk1_at (g : Gx) (E : Nat → va_E) (k : Nat) : mk1 g E k k = .inr (1, oj1 g k) := by
  unfold mk1
  rw [show k + 0 = k from rfl, va_up_self]
  rfl
set_option maxRecDepth 100000 in
set_option maxHeartbeats 4000000 in
theorem i_X1 (l : Launch) (g : Gx) (k : Nat) (E : Nat → va_E) (hE0 : E k = .inr (1, [.null, .null, .null, .null, .null, .int 0])) : Ci g l yX1_init cX1_init 1 { frames := 1, cells := 5, slots := 816, locals := 12 } k E (k + 6) (mk1 g E k) 5 816 := by
  refine n_met rfl rfl (by decide) ?_
  intro p e s m below meth c args hx hb hin hml hown hts hK hP hend ls hl
  have hown : s.vm.findClass RX1 = some m.cls := hown
  have hS : va_S (An g) s.heap s.heap [] := va_S.rf
  have hl : lv_has ls 1 [(0, .ref (g.2.2.1 + (k + 0)))] := hl
  refine lv_aload_n hx hb dX1_init_0 rfl (lv_at hl 0 rfl) ?_
  refine W.objInit hx hb hown (hts _ q1_60) (hts _ q1_21) (hts _ q1_22) rfl (by rw [hml]; exact hl.1) rfl dX1_init_1 (Nat.le_of_ble_eq_true rfl) (Nat.le_of_ble_eq_true rfl) ?_
  refine W.eq (g2 := F0 m 4 ls []) rfl ?_
  refine lv_aload_n hx hb dX1_init_4 rfl (lv_at hl 0 rfl) ?_
  refine lv_bipush (v := (12 : Int32)) hx hb dX1_init_5 (by decide +kernel) ?_
  refine n_newi hx hb hts hK.1 hP hS q1_54 (by decide) (N := 12) rfl (Nat.le_of_ble_eq_true rfl) (Nat.le_of_ble_eq_true rfl) (Nat.le_of_ble_eq_true rfl) dX1_init_7 (fun H hP hS => ?_)
  refine W.widen (k := 1) (n := 12) (Nat.le_of_ble_eq_true rfl) (Nat.le_of_ble_eq_true rfl) ?_
  obtain ⟨E1, hE1⟩ : ∃ F, F = va_up E (k + 1) (.inl (g.2.1 1, 12, .inl (fun _ => 0))) := ⟨_, rfl⟩
  have hP : Pn g (k + 2) E1 H := by rw [hE1]; exact hP
  have f0_E1 : E1 (k + 0) = .inr (1, [.null, .null, .null, .null, .null, .int 0]) := by rw [hE1, va_up_ne _ _ (by omega)]; exact hE0
  have f1_E1 : E1 (k + 1) = .inl (g.2.1 1, 12, .inl (fun _ => 0)) := by rw [hE1, va_up_self]
  refine n_putF hx hb hown hts hK.1 hP hS hin inu1 tyX1 tyX1_ok nmX1 (k := k + 0) (by omega) f0_E1 rfl 0 (by decide) q1_61 rfl rfl rfl rfl (Nat.le_of_ble_eq_true rfl) (fs2 := [.ref (g.2.2.1 + (k + 1)), .null, .null, .null, .null, .int 0]) rfl dX1_init_9 (fun H locs hP hS => ?_)
  obtain ⟨E2, hE2⟩ : ∃ F, F = va_up E1 (k + 0) (.inr (1, [.ref (g.2.2.1 + (k + 1)), .null, .null, .null, .null, .int 0])) := ⟨_, rfl⟩
  have hP : Pn g (k + 2) E2 H := by rw [hE2]; exact hP
  have f0_E2 : E2 (k + 0) = .inr (1, [.ref (g.2.2.1 + (k + 1)), .null, .null, .null, .null, .int 0]) := by rw [hE2, va_up_self]
  refine lv_aload_n hx hb dX1_init_12 rfl (lv_at hl 0 rfl) ?_
  refine lv_bipush (v := (12 : Int32)) hx hb dX1_init_13 (by decide +kernel) ?_
  refine n_newi hx hb hts hK.1 hP hS q1_54 (by decide) (N := 12) rfl (Nat.le_of_ble_eq_true rfl) (Nat.le_of_ble_eq_true rfl) (Nat.le_of_ble_eq_true rfl) dX1_init_15 (fun H hP hS => ?_)
  refine W.widen (k := 2) (n := 24) (Nat.le_of_ble_eq_true rfl) (Nat.le_of_ble_eq_true rfl) ?_
  obtain ⟨E3, hE3⟩ : ∃ F, F = va_up E2 (k + 2) (.inl (g.2.1 1, 12, .inl (fun _ => 0))) := ⟨_, rfl⟩
  have hP : Pn g (k + 3) E3 H := by rw [hE3]; exact hP
  have f0_E3 : E3 (k + 0) = .inr (1, [.ref (g.2.2.1 + (k + 1)), .null, .null, .null, .null, .int 0]) := by rw [hE3, va_up_ne _ _ (by omega)]; exact f0_E2
  have f2_E3 : E3 (k + 2) = .inl (g.2.1 1, 12, .inl (fun _ => 0)) := by rw [hE3, va_up_self]
  refine n_putF hx hb hown hts hK.1 hP hS hin inu1 tyX1 tyX1_ok nmX1 (k := k + 0) (by omega) f0_E3 rfl 1 (by decide) q1_62 rfl rfl rfl rfl (Nat.le_of_ble_eq_true rfl) (fs2 := [.ref (g.2.2.1 + (k + 1)), .ref (g.2.2.1 + (k + 2)), .null, .null, .null, .int 0]) rfl dX1_init_17 (fun H locs hP hS => ?_)
  obtain ⟨E4, hE4⟩ : ∃ F, F = va_up E3 (k + 0) (.inr (1, [.ref (g.2.2.1 + (k + 1)), .ref (g.2.2.1 + (k + 2)), .null, .null, .null, .int 0])) := ⟨_, rfl⟩
  have hP : Pn g (k + 3) E4 H := by rw [hE4]; exact hP
  have f0_E4 : E4 (k + 0) = .inr (1, [.ref (g.2.2.1 + (k + 1)), .ref (g.2.2.1 + (k + 2)), .null, .null, .null, .int 0]) := by rw [hE4, va_up_self]
  refine lv_aload_n hx hb dX1_init_20 rfl (lv_at hl 0 rfl) ?_
  refine lv_bipush (v := (12 : Int32)) hx hb dX1_init_21 (by decide +kernel) ?_
  refine n_newi hx hb hts hK.1 hP hS q1_54 (by decide) (N := 12) rfl (Nat.le_of_ble_eq_true rfl) (Nat.le_of_ble_eq_true rfl) (Nat.le_of_ble_eq_true rfl) dX1_init_23 (fun H hP hS => ?_)
  refine W.widen (k := 3) (n := 36) (Nat.le_of_ble_eq_true rfl) (Nat.le_of_ble_eq_true rfl) ?_
  obtain ⟨E5, hE5⟩ : ∃ F, F = va_up E4 (k + 3) (.inl (g.2.1 1, 12, .inl (fun _ => 0))) := ⟨_, rfl⟩
  have hP : Pn g (k + 4) E5 H := by rw [hE5]; exact hP
  have f0_E5 : E5 (k + 0) = .inr (1, [.ref (g.2.2.1 + (k + 1)), .ref (g.2.2.1 + (k + 2)), .null, .null, .null, .int 0]) := by rw [hE5, va_up_ne _ _ (by omega)]; exact f0_E4
  have f3_E5 : E5 (k + 3) = .inl (g.2.1 1, 12, .inl (fun _ => 0)) := by rw [hE5, va_up_self]
  refine n_putF hx hb hown hts hK.1 hP hS hin inu1 tyX1 tyX1_ok nmX1 (k := k + 0) (by omega) f0_E5 rfl 2 (by decide) q1_63 rfl rfl rfl rfl (Nat.le_of_ble_eq_true rfl) (fs2 := [.ref (g.2.2.1 + (k + 1)), .ref (g.2.2.1 + (k + 2)), .ref (g.2.2.1 + (k + 3)), .null, .null, .int 0]) rfl dX1_init_25 (fun H locs hP hS => ?_)
  obtain ⟨E6, hE6⟩ : ∃ F, F = va_up E5 (k + 0) (.inr (1, [.ref (g.2.2.1 + (k + 1)), .ref (g.2.2.1 + (k + 2)), .ref (g.2.2.1 + (k + 3)), .null, .null, .int 0])) := ⟨_, rfl⟩
  have hP : Pn g (k + 4) E6 H := by rw [hE6]; exact hP
  have f0_E6 : E6 (k + 0) = .inr (1, [.ref (g.2.2.1 + (k + 1)), .ref (g.2.2.1 + (k + 2)), .ref (g.2.2.1 + (k + 3)), .null, .null, .int 0]) := by rw [hE6, va_up_self]
  refine lv_aload_n hx hb dX1_init_28 rfl (lv_at hl 0 rfl) ?_
  refine lv_sipush (v := (720 : Int32)) hx hb dX1_init_29 (by decide +kernel) ?_
  refine n_newi hx hb hts hK.1 hP hS q1_54 (by decide) (N := 720) rfl (Nat.le_of_ble_eq_true rfl) (Nat.le_of_ble_eq_true rfl) (Nat.le_of_ble_eq_true rfl) dX1_init_32 (fun H hP hS => ?_)
  refine W.widen (k := 4) (n := 756) (Nat.le_of_ble_eq_true rfl) (Nat.le_of_ble_eq_true rfl) ?_
  obtain ⟨E7, hE7⟩ : ∃ F, F = va_up E6 (k + 4) (.inl (g.2.1 1, 720, .inl (fun _ => 0))) := ⟨_, rfl⟩
  have hP : Pn g (k + 5) E7 H := by rw [hE7]; exact hP
  have f0_E7 : E7 (k + 0) = .inr (1, [.ref (g.2.2.1 + (k + 1)), .ref (g.2.2.1 + (k + 2)), .ref (g.2.2.1 + (k + 3)), .null, .null, .int 0]) := by rw [hE7, va_up_ne _ _ (by omega)]; exact f0_E6
  have f4_E7 : E7 (k + 4) = .inl (g.2.1 1, 720, .inl (fun _ => 0)) := by rw [hE7, va_up_self]
  refine n_putF hx hb hown hts hK.1 hP hS hin inu1 tyX1 tyX1_ok nmX1 (k := k + 0) (by omega) f0_E7 rfl 3 (by decide) q1_64 rfl rfl rfl rfl (Nat.le_of_ble_eq_true rfl) (fs2 := [.ref (g.2.2.1 + (k + 1)), .ref (g.2.2.1 + (k + 2)), .ref (g.2.2.1 + (k + 3)), .ref (g.2.2.1 + (k + 4)), .null, .int 0]) rfl dX1_init_34 (fun H locs hP hS => ?_)
  obtain ⟨E8, hE8⟩ : ∃ F, F = va_up E7 (k + 0) (.inr (1, [.ref (g.2.2.1 + (k + 1)), .ref (g.2.2.1 + (k + 2)), .ref (g.2.2.1 + (k + 3)), .ref (g.2.2.1 + (k + 4)), .null, .int 0])) := ⟨_, rfl⟩
  have hP : Pn g (k + 5) E8 H := by rw [hE8]; exact hP
  have f0_E8 : E8 (k + 0) = .inr (1, [.ref (g.2.2.1 + (k + 1)), .ref (g.2.2.1 + (k + 2)), .ref (g.2.2.1 + (k + 3)), .ref (g.2.2.1 + (k + 4)), .null, .int 0]) := by rw [hE8, va_up_self]
  refine lv_aload_n hx hb dX1_init_37 rfl (lv_at hl 0 rfl) ?_
  refine lv_bipush (v := (60 : Int32)) hx hb dX1_init_38 (by decide +kernel) ?_
  refine n_newi hx hb hts hK.1 hP hS q1_54 (by decide) (N := 60) rfl (Nat.le_of_ble_eq_true rfl) (Nat.le_of_ble_eq_true rfl) (Nat.le_of_ble_eq_true rfl) dX1_init_40 (fun H hP hS => ?_)
  refine W.widen (k := 5) (n := 816) (Nat.le_of_ble_eq_true rfl) (Nat.le_of_ble_eq_true rfl) ?_
  obtain ⟨E9, hE9⟩ : ∃ F, F = va_up E8 (k + 5) (.inl (g.2.1 1, 60, .inl (fun _ => 0))) := ⟨_, rfl⟩
  have hP : Pn g (k + 6) E9 H := by rw [hE9]; exact hP
  have f0_E9 : E9 (k + 0) = .inr (1, [.ref (g.2.2.1 + (k + 1)), .ref (g.2.2.1 + (k + 2)), .ref (g.2.2.1 + (k + 3)), .ref (g.2.2.1 + (k + 4)), .null, .int 0]) := by rw [hE9, va_up_ne _ _ (by omega)]; exact f0_E8
  have f5_E9 : E9 (k + 5) = .inl (g.2.1 1, 60, .inl (fun _ => 0)) := by rw [hE9, va_up_self]
  refine n_putF hx hb hown hts hK.1 hP hS hin inu1 tyX1 tyX1_ok nmX1 (k := k + 0) (by omega) f0_E9 rfl 4 (by decide) q1_65 rfl rfl rfl rfl (Nat.le_of_ble_eq_true rfl) (fs2 := [.ref (g.2.2.1 + (k + 1)), .ref (g.2.2.1 + (k + 2)), .ref (g.2.2.1 + (k + 3)), .ref (g.2.2.1 + (k + 4)), .ref (g.2.2.1 + (k + 5)), .int 0]) rfl dX1_init_42 (fun H locs hP hS => ?_)
  obtain ⟨E10, hE10⟩ : ∃ F, F = va_up E9 (k + 0) (.inr (1, [.ref (g.2.2.1 + (k + 1)), .ref (g.2.2.1 + (k + 2)), .ref (g.2.2.1 + (k + 3)), .ref (g.2.2.1 + (k + 4)), .ref (g.2.2.1 + (k + 5)), .int 0])) := ⟨_, rfl⟩
  have hP : Pn g (k + 6) E10 H := by rw [hE10]; exact hP
  have f0_E10 : E10 (k + 0) = .inr (1, [.ref (g.2.2.1 + (k + 1)), .ref (g.2.2.1 + (k + 2)), .ref (g.2.2.1 + (k + 3)), .ref (g.2.2.1 + (k + 4)), .ref (g.2.2.1 + (k + 5)), .int 0]) := by rw [hE10, va_up_self]
  refine hend H locs ls 45 ?_ hS dX1_init_45
  have hF : mk1 g E k = E10 := by
    unfold mk1
    rw [← hE1, ← hE2, ← hE3, ← hE4, ← hE5, ← hE6, ← hE7, ← hE8, ← hE9, ← hE10]
  rw [hF]
  exact hP
def oj3 (g : Gx) (k : Nat) : List Value := [.ref (g.2.2.1 + (k + 1)), .ref (g.2.2.1 + (k + 2)), .ref (g.2.2.1 + (k + 3)), .ref (g.2.2.1 + (k + 4)), .int 0]
def mk3 (g : Gx) (E : Nat → va_E) (k : Nat) : Nat → va_E := va_up (va_up (va_up (va_up (va_up (va_up (va_up (va_up (E) (k + 1) (.inl (g.2.1 1, 40, .inl (fun _ => 0)))) (k + 0) (.inr (3, [.ref (g.2.2.1 + (k + 1)), .null, .null, .null, .int 0]))) (k + 2) (.inl (g.2.1 1, 40, .inl (fun _ => 0)))) (k + 0) (.inr (3, [.ref (g.2.2.1 + (k + 1)), .ref (g.2.2.1 + (k + 2)), .null, .null, .int 0]))) (k + 3) (.inl (g.2.1 1, 40, .inl (fun _ => 0)))) (k + 0) (.inr (3, [.ref (g.2.2.1 + (k + 1)), .ref (g.2.2.1 + (k + 2)), .ref (g.2.2.1 + (k + 3)), .null, .int 0]))) (k + 4) (.inl (g.2.1 1, 40, .inl (fun _ => 0)))) (k + 0) (.inr (3, [.ref (g.2.2.1 + (k + 1)), .ref (g.2.2.1 + (k + 2)), .ref (g.2.2.1 + (k + 3)), .ref (g.2.2.1 + (k + 4)), .int 0]))
theorem mk3_lo (g : Gx) (E : Nat → va_E) {k j : Nat} (h : j < k) : mk3 g E k j = E j := by
  unfold mk3
  rw [va_up_ne _ _ (by omega)]
  rw [va_up_ne _ _ (by omega)]
  rw [va_up_ne _ _ (by omega)]
  rw [va_up_ne _ _ (by omega)]
  rw [va_up_ne _ _ (by omega)]
  rw [va_up_ne _ _ (by omega)]
  rw [va_up_ne _ _ (by omega)]
  rw [va_up_ne _ _ (by omega)]
theorem mk3_at (g : Gx) (E : Nat → va_E) (k : Nat) : mk3 g E k k = .inr (3, oj3 g k) := by
  unfold mk3
  rw [show k + 0 = k from rfl, va_up_self]
  rfl
set_option maxRecDepth 100000 in
set_option maxHeartbeats 4000000 in
theorem i_X3 (l : Launch) (g : Gx) (k : Nat) (E : Nat → va_E) (hE0 : E k = .inr (3, [.null, .null, .null, .null, .int 0])) : Ci g l yX3_init cX3_init 1 { frames := 1, cells := 4, slots := 160, locals := 12 } k E (k + 5) (mk3 g E k) 4 160 := by
  refine n_met rfl rfl (by decide) ?_
  intro p e s m below meth c args hx hb hin hml hown hts hK hP hend ls hl
  have hown : s.vm.findClass RX3 = some m.cls := hown
  have hS : va_S (An g) s.heap s.heap [] := va_S.rf
  have hl : lv_has ls 1 [(0, .ref (g.2.2.1 + (k + 0)))] := hl
  refine lv_aload_n hx hb dX3_init_0 rfl (lv_at hl 0 rfl) ?_
  refine W.objInit hx hb hown (hts _ q1_86) (hts _ q1_21) (hts _ q1_22) rfl (by rw [hml]; exact hl.1) rfl dX3_init_1 (Nat.le_of_ble_eq_true rfl) (Nat.le_of_ble_eq_true rfl) ?_
  refine W.eq (g2 := F0 m 4 ls []) rfl ?_
  refine lv_aload_n hx hb dX3_init_4 rfl (lv_at hl 0 rfl) ?_
  refine lv_bipush (v := (40 : Int32)) hx hb dX3_init_5 (by decide +kernel) ?_
  refine n_newi hx hb hts hK.1 hP hS q1_54 (by decide) (N := 40) rfl (Nat.le_of_ble_eq_true rfl) (Nat.le_of_ble_eq_true rfl) (Nat.le_of_ble_eq_true rfl) dX3_init_7 (fun H hP hS => ?_)
  refine W.widen (k := 1) (n := 40) (Nat.le_of_ble_eq_true rfl) (Nat.le_of_ble_eq_true rfl) ?_
  obtain ⟨E1, hE1⟩ : ∃ F, F = va_up E (k + 1) (.inl (g.2.1 1, 40, .inl (fun _ => 0))) := ⟨_, rfl⟩
  have hP : Pn g (k + 2) E1 H := by rw [hE1]; exact hP
  have f0_E1 : E1 (k + 0) = .inr (3, [.null, .null, .null, .null, .int 0]) := by rw [hE1, va_up_ne _ _ (by omega)]; exact hE0
  have f1_E1 : E1 (k + 1) = .inl (g.2.1 1, 40, .inl (fun _ => 0)) := by rw [hE1, va_up_self]
  refine n_putF hx hb hown hts hK.1 hP hS hin inu3 tyX3 tyX3_ok nmX3 (k := k + 0) (by omega) f0_E1 rfl 0 (by decide) q1_87 rfl rfl rfl rfl (Nat.le_of_ble_eq_true rfl) (fs2 := [.ref (g.2.2.1 + (k + 1)), .null, .null, .null, .int 0]) rfl dX3_init_9 (fun H locs hP hS => ?_)
  obtain ⟨E2, hE2⟩ : ∃ F, F = va_up E1 (k + 0) (.inr (3, [.ref (g.2.2.1 + (k + 1)), .null, .null, .null, .int 0])) := ⟨_, rfl⟩
  have hP : Pn g (k + 2) E2 H := by rw [hE2]; exact hP
  have f0_E2 : E2 (k + 0) = .inr (3, [.ref (g.2.2.1 + (k + 1)), .null, .null, .null, .int 0]) := by rw [hE2, va_up_self]
  refine lv_aload_n hx hb dX3_init_12 rfl (lv_at hl 0 rfl) ?_
  refine lv_bipush (v := (40 : Int32)) hx hb dX3_init_13 (by decide +kernel) ?_
  refine n_newi hx hb hts hK.1 hP hS q1_54 (by decide) (N := 40) rfl (Nat.le_of_ble_eq_true rfl) (Nat.le_of_ble_eq_true rfl) (Nat.le_of_ble_eq_true rfl) dX3_init_15 (fun H hP hS => ?_)
  refine W.widen (k := 2) (n := 80) (Nat.le_of_ble_eq_true rfl) (Nat.le_of_ble_eq_true rfl) ?_
  obtain ⟨E3, hE3⟩ : ∃ F, F = va_up E2 (k + 2) (.inl (g.2.1 1, 40, .inl (fun _ => 0))) := ⟨_, rfl⟩
  have hP : Pn g (k + 3) E3 H := by rw [hE3]; exact hP
  have f0_E3 : E3 (k + 0) = .inr (3, [.ref (g.2.2.1 + (k + 1)), .null, .null, .null, .int 0]) := by rw [hE3, va_up_ne _ _ (by omega)]; exact f0_E2
  have f2_E3 : E3 (k + 2) = .inl (g.2.1 1, 40, .inl (fun _ => 0)) := by rw [hE3, va_up_self]
  refine n_putF hx hb hown hts hK.1 hP hS hin inu3 tyX3 tyX3_ok nmX3 (k := k + 0) (by omega) f0_E3 rfl 1 (by decide) q1_88 rfl rfl rfl rfl (Nat.le_of_ble_eq_true rfl) (fs2 := [.ref (g.2.2.1 + (k + 1)), .ref (g.2.2.1 + (k + 2)), .null, .null, .int 0]) rfl dX3_init_17 (fun H locs hP hS => ?_)
  obtain ⟨E4, hE4⟩ : ∃ F, F = va_up E3 (k + 0) (.inr (3, [.ref (g.2.2.1 + (k + 1)), .ref (g.2.2.1 + (k + 2)), .null, .null, .int 0])) := ⟨_, rfl⟩
  have hP : Pn g (k + 3) E4 H := by rw [hE4]; exact hP
  have f0_E4 : E4 (k + 0) = .inr (3, [.ref (g.2.2.1 + (k + 1)), .ref (g.2.2.1 + (k + 2)), .null, .null, .int 0]) := by rw [hE4, va_up_self]
  refine lv_aload_n hx hb dX3_init_20 rfl (lv_at hl 0 rfl) ?_
  refine lv_bipush (v := (40 : Int32)) hx hb dX3_init_21 (by decide +kernel) ?_
  refine n_newi hx hb hts hK.1 hP hS q1_54 (by decide) (N := 40) rfl (Nat.le_of_ble_eq_true rfl) (Nat.le_of_ble_eq_true rfl) (Nat.le_of_ble_eq_true rfl) dX3_init_23 (fun H hP hS => ?_)
  refine W.widen (k := 3) (n := 120) (Nat.le_of_ble_eq_true rfl) (Nat.le_of_ble_eq_true rfl) ?_
  obtain ⟨E5, hE5⟩ : ∃ F, F = va_up E4 (k + 3) (.inl (g.2.1 1, 40, .inl (fun _ => 0))) := ⟨_, rfl⟩
  have hP : Pn g (k + 4) E5 H := by rw [hE5]; exact hP
  have f0_E5 : E5 (k + 0) = .inr (3, [.ref (g.2.2.1 + (k + 1)), .ref (g.2.2.1 + (k + 2)), .null, .null, .int 0]) := by rw [hE5, va_up_ne _ _ (by omega)]; exact f0_E4
  have f3_E5 : E5 (k + 3) = .inl (g.2.1 1, 40, .inl (fun _ => 0)) := by rw [hE5, va_up_self]
  refine n_putF hx hb hown hts hK.1 hP hS hin inu3 tyX3 tyX3_ok nmX3 (k := k + 0) (by omega) f0_E5 rfl 2 (by decide) q1_90 rfl rfl rfl rfl (Nat.le_of_ble_eq_true rfl) (fs2 := [.ref (g.2.2.1 + (k + 1)), .ref (g.2.2.1 + (k + 2)), .ref (g.2.2.1 + (k + 3)), .null, .int 0]) rfl dX3_init_25 (fun H locs hP hS => ?_)
  obtain ⟨E6, hE6⟩ : ∃ F, F = va_up E5 (k + 0) (.inr (3, [.ref (g.2.2.1 + (k + 1)), .ref (g.2.2.1 + (k + 2)), .ref (g.2.2.1 + (k + 3)), .null, .int 0])) := ⟨_, rfl⟩
  have hP : Pn g (k + 4) E6 H := by rw [hE6]; exact hP
  have f0_E6 : E6 (k + 0) = .inr (3, [.ref (g.2.2.1 + (k + 1)), .ref (g.2.2.1 + (k + 2)), .ref (g.2.2.1 + (k + 3)), .null, .int 0]) := by rw [hE6, va_up_self]
  refine lv_aload_n hx hb dX3_init_28 rfl (lv_at hl 0 rfl) ?_
  refine lv_bipush (v := (40 : Int32)) hx hb dX3_init_29 (by decide +kernel) ?_
  refine n_newi hx hb hts hK.1 hP hS q1_54 (by decide) (N := 40) rfl (Nat.le_of_ble_eq_true rfl) (Nat.le_of_ble_eq_true rfl) (Nat.le_of_ble_eq_true rfl) dX3_init_31 (fun H hP hS => ?_)
  refine W.widen (k := 4) (n := 160) (Nat.le_of_ble_eq_true rfl) (Nat.le_of_ble_eq_true rfl) ?_
  obtain ⟨E7, hE7⟩ : ∃ F, F = va_up E6 (k + 4) (.inl (g.2.1 1, 40, .inl (fun _ => 0))) := ⟨_, rfl⟩
  have hP : Pn g (k + 5) E7 H := by rw [hE7]; exact hP
  have f0_E7 : E7 (k + 0) = .inr (3, [.ref (g.2.2.1 + (k + 1)), .ref (g.2.2.1 + (k + 2)), .ref (g.2.2.1 + (k + 3)), .null, .int 0]) := by rw [hE7, va_up_ne _ _ (by omega)]; exact f0_E6
  have f4_E7 : E7 (k + 4) = .inl (g.2.1 1, 40, .inl (fun _ => 0)) := by rw [hE7, va_up_self]
  refine n_putF hx hb hown hts hK.1 hP hS hin inu3 tyX3 tyX3_ok nmX3 (k := k + 0) (by omega) f0_E7 rfl 3 (by decide) q1_92 rfl rfl rfl rfl (Nat.le_of_ble_eq_true rfl) (fs2 := [.ref (g.2.2.1 + (k + 1)), .ref (g.2.2.1 + (k + 2)), .ref (g.2.2.1 + (k + 3)), .ref (g.2.2.1 + (k + 4)), .int 0]) rfl dX3_init_33 (fun H locs hP hS => ?_)
  obtain ⟨E8, hE8⟩ : ∃ F, F = va_up E7 (k + 0) (.inr (3, [.ref (g.2.2.1 + (k + 1)), .ref (g.2.2.1 + (k + 2)), .ref (g.2.2.1 + (k + 3)), .ref (g.2.2.1 + (k + 4)), .int 0])) := ⟨_, rfl⟩
  have hP : Pn g (k + 5) E8 H := by rw [hE8]; exact hP
  have f0_E8 : E8 (k + 0) = .inr (3, [.ref (g.2.2.1 + (k + 1)), .ref (g.2.2.1 + (k + 2)), .ref (g.2.2.1 + (k + 3)), .ref (g.2.2.1 + (k + 4)), .int 0]) := by rw [hE8, va_up_self]
  refine hend H locs ls 36 ?_ hS dX3_init_36
  have hF : mk3 g E k = E8 := by
    unfold mk3
    rw [← hE1, ← hE2, ← hE3, ← hE4, ← hE5, ← hE6, ← hE7, ← hE8]
  rw [hF]
  exact hP
def oj6 (g : Gx) (k : Nat) : List Value := [.ref (g.2.2.1 + (k + 1)), .ref (g.2.2.1 + (k + 2)), .ref (g.2.2.1 + (k + 3)), .int 0, .int 0, .int 0]
def mk6 (g : Gx) (E : Nat → va_E) (k : Nat) : Nat → va_E := va_up (va_up (va_up (va_up (va_up (va_up (E) (k + 1) (.inl (g.2.1 1, 200, .inl (fun _ => 0)))) (k + 0) (.inr (6, [.ref (g.2.2.1 + (k + 1)), .null, .null, .int 0, .int 0, .int 0]))) (k + 2) (.inl (g.2.1 1, 200, .inl (fun _ => 0)))) (k + 0) (.inr (6, [.ref (g.2.2.1 + (k + 1)), .ref (g.2.2.1 + (k + 2)), .null, .int 0, .int 0, .int 0]))) (k + 3) (.inl (g.2.1 1, 200, .inl (fun _ => 0)))) (k + 0) (.inr (6, [.ref (g.2.2.1 + (k + 1)), .ref (g.2.2.1 + (k + 2)), .ref (g.2.2.1 + (k + 3)), .int 0, .int 0, .int 0]))
theorem mk6_lo (g : Gx) (E : Nat → va_E) {k j : Nat} (h : j < k) : mk6 g E k j = E j := by
  unfold mk6
  rw [va_up_ne _ _ (by omega)]
  rw [va_up_ne _ _ (by omega)]
  rw [va_up_ne _ _ (by omega)]
  rw [va_up_ne _ _ (by omega)]
  rw [va_up_ne _ _ (by omega)]
  rw [va_up_ne _ _ (by omega)]
theorem mk6_at (g : Gx) (E : Nat → va_E) (k : Nat) : mk6 g E k k = .inr (6, oj6 g k) := by
  unfold mk6
  rw [show k + 0 = k from rfl, va_up_self]
  rfl
set_option maxRecDepth 100000 in
set_option maxHeartbeats 4000000 in
theorem i_X6 (l : Launch) (g : Gx) (k : Nat) (E : Nat → va_E) (hE0 : E k = .inr (6, [.null, .null, .null, .int 0, .int 0, .int 0])) : Ci g l yX6_init cX6_init 1 { frames := 1, cells := 3, slots := 600, locals := 12 } k E (k + 4) (mk6 g E k) 3 600 := by
  refine n_met rfl rfl (by decide) ?_
  intro p e s m below meth c args hx hb hin hml hown hts hK hP hend ls hl
  have hown : s.vm.findClass RX6 = some m.cls := hown
  have hS : va_S (An g) s.heap s.heap [] := va_S.rf
  have hl : lv_has ls 1 [(0, .ref (g.2.2.1 + (k + 0)))] := hl
  refine lv_aload_n hx hb dX6_init_0 rfl (lv_at hl 0 rfl) ?_
  refine W.objInit hx hb hown (hts _ q1_111) (hts _ q1_21) (hts _ q1_22) rfl (by rw [hml]; exact hl.1) rfl dX6_init_1 (Nat.le_of_ble_eq_true rfl) (Nat.le_of_ble_eq_true rfl) ?_
  refine W.eq (g2 := F0 m 4 ls []) rfl ?_
  refine lv_aload_n hx hb dX6_init_4 rfl (lv_at hl 0 rfl) ?_
  refine lv_sipush (v := (200 : Int32)) hx hb dX6_init_5 (by decide +kernel) ?_
  refine n_newi hx hb hts hK.1 hP hS q1_54 (by decide) (N := 200) rfl (Nat.le_of_ble_eq_true rfl) (Nat.le_of_ble_eq_true rfl) (Nat.le_of_ble_eq_true rfl) dX6_init_8 (fun H hP hS => ?_)
  refine W.widen (k := 1) (n := 200) (Nat.le_of_ble_eq_true rfl) (Nat.le_of_ble_eq_true rfl) ?_
  obtain ⟨E1, hE1⟩ : ∃ F, F = va_up E (k + 1) (.inl (g.2.1 1, 200, .inl (fun _ => 0))) := ⟨_, rfl⟩
  have hP : Pn g (k + 2) E1 H := by rw [hE1]; exact hP
  have f0_E1 : E1 (k + 0) = .inr (6, [.null, .null, .null, .int 0, .int 0, .int 0]) := by rw [hE1, va_up_ne _ _ (by omega)]; exact hE0
  have f1_E1 : E1 (k + 1) = .inl (g.2.1 1, 200, .inl (fun _ => 0)) := by rw [hE1, va_up_self]
  refine n_putF hx hb hown hts hK.1 hP hS hin inu6 tyX6 tyX6_ok nmX6 (k := k + 0) (by omega) f0_E1 rfl 0 (by decide) q1_112 rfl rfl rfl rfl (Nat.le_of_ble_eq_true rfl) (fs2 := [.ref (g.2.2.1 + (k + 1)), .null, .null, .int 0, .int 0, .int 0]) rfl dX6_init_10 (fun H locs hP hS => ?_)
  obtain ⟨E2, hE2⟩ : ∃ F, F = va_up E1 (k + 0) (.inr (6, [.ref (g.2.2.1 + (k + 1)), .null, .null, .int 0, .int 0, .int 0])) := ⟨_, rfl⟩
  have hP : Pn g (k + 2) E2 H := by rw [hE2]; exact hP
  have f0_E2 : E2 (k + 0) = .inr (6, [.ref (g.2.2.1 + (k + 1)), .null, .null, .int 0, .int 0, .int 0]) := by rw [hE2, va_up_self]
  refine lv_aload_n hx hb dX6_init_13 rfl (lv_at hl 0 rfl) ?_
  refine lv_sipush (v := (200 : Int32)) hx hb dX6_init_14 (by decide +kernel) ?_
  refine n_newi hx hb hts hK.1 hP hS q1_54 (by decide) (N := 200) rfl (Nat.le_of_ble_eq_true rfl) (Nat.le_of_ble_eq_true rfl) (Nat.le_of_ble_eq_true rfl) dX6_init_17 (fun H hP hS => ?_)
  refine W.widen (k := 2) (n := 400) (Nat.le_of_ble_eq_true rfl) (Nat.le_of_ble_eq_true rfl) ?_
  obtain ⟨E3, hE3⟩ : ∃ F, F = va_up E2 (k + 2) (.inl (g.2.1 1, 200, .inl (fun _ => 0))) := ⟨_, rfl⟩
  have hP : Pn g (k + 3) E3 H := by rw [hE3]; exact hP
  have f0_E3 : E3 (k + 0) = .inr (6, [.ref (g.2.2.1 + (k + 1)), .null, .null, .int 0, .int 0, .int 0]) := by rw [hE3, va_up_ne _ _ (by omega)]; exact f0_E2
  have f2_E3 : E3 (k + 2) = .inl (g.2.1 1, 200, .inl (fun _ => 0)) := by rw [hE3, va_up_self]
  refine n_putF hx hb hown hts hK.1 hP hS hin inu6 tyX6 tyX6_ok nmX6 (k := k + 0) (by omega) f0_E3 rfl 1 (by decide) q1_113 rfl rfl rfl rfl (Nat.le_of_ble_eq_true rfl) (fs2 := [.ref (g.2.2.1 + (k + 1)), .ref (g.2.2.1 + (k + 2)), .null, .int 0, .int 0, .int 0]) rfl dX6_init_19 (fun H locs hP hS => ?_)
  obtain ⟨E4, hE4⟩ : ∃ F, F = va_up E3 (k + 0) (.inr (6, [.ref (g.2.2.1 + (k + 1)), .ref (g.2.2.1 + (k + 2)), .null, .int 0, .int 0, .int 0])) := ⟨_, rfl⟩
  have hP : Pn g (k + 3) E4 H := by rw [hE4]; exact hP
  have f0_E4 : E4 (k + 0) = .inr (6, [.ref (g.2.2.1 + (k + 1)), .ref (g.2.2.1 + (k + 2)), .null, .int 0, .int 0, .int 0]) := by rw [hE4, va_up_self]
  refine lv_aload_n hx hb dX6_init_22 rfl (lv_at hl 0 rfl) ?_
  refine lv_sipush (v := (200 : Int32)) hx hb dX6_init_23 (by decide +kernel) ?_
  refine n_newi hx hb hts hK.1 hP hS q1_54 (by decide) (N := 200) rfl (Nat.le_of_ble_eq_true rfl) (Nat.le_of_ble_eq_true rfl) (Nat.le_of_ble_eq_true rfl) dX6_init_26 (fun H hP hS => ?_)
  refine W.widen (k := 3) (n := 600) (Nat.le_of_ble_eq_true rfl) (Nat.le_of_ble_eq_true rfl) ?_
  obtain ⟨E5, hE5⟩ : ∃ F, F = va_up E4 (k + 3) (.inl (g.2.1 1, 200, .inl (fun _ => 0))) := ⟨_, rfl⟩
  have hP : Pn g (k + 4) E5 H := by rw [hE5]; exact hP
  have f0_E5 : E5 (k + 0) = .inr (6, [.ref (g.2.2.1 + (k + 1)), .ref (g.2.2.1 + (k + 2)), .null, .int 0, .int 0, .int 0]) := by rw [hE5, va_up_ne _ _ (by omega)]; exact f0_E4
  have f3_E5 : E5 (k + 3) = .inl (g.2.1 1, 200, .inl (fun _ => 0)) := by rw [hE5, va_up_self]
  refine n_putF hx hb hown hts hK.1 hP hS hin inu6 tyX6 tyX6_ok nmX6 (k := k + 0) (by omega) f0_E5 rfl 2 (by decide) q1_114 rfl rfl rfl rfl (Nat.le_of_ble_eq_true rfl) (fs2 := [.ref (g.2.2.1 + (k + 1)), .ref (g.2.2.1 + (k + 2)), .ref (g.2.2.1 + (k + 3)), .int 0, .int 0, .int 0]) rfl dX6_init_28 (fun H locs hP hS => ?_)
  obtain ⟨E6, hE6⟩ : ∃ F, F = va_up E5 (k + 0) (.inr (6, [.ref (g.2.2.1 + (k + 1)), .ref (g.2.2.1 + (k + 2)), .ref (g.2.2.1 + (k + 3)), .int 0, .int 0, .int 0])) := ⟨_, rfl⟩
  have hP : Pn g (k + 4) E6 H := by rw [hE6]; exact hP
  have f0_E6 : E6 (k + 0) = .inr (6, [.ref (g.2.2.1 + (k + 1)), .ref (g.2.2.1 + (k + 2)), .ref (g.2.2.1 + (k + 3)), .int 0, .int 0, .int 0]) := by rw [hE6, va_up_self]
  refine hend H locs ls 31 ?_ hS dX6_init_31
  have hF : mk6 g E k = E6 := by
    unfold mk6
    rw [← hE1, ← hE2, ← hE3, ← hE4, ← hE5, ← hE6]
  rw [hF]
  exact hP
def oj0 (g : Gx) (k : Nat) : List Value := [.ref (g.2.2.1 + (k + 1)), .int 0, .null, .int 0, .int 0, .int 0]
def mk0 (g : Gx) (E : Nat → va_E) (k : Nat) : Nat → va_E := va_up (va_up (E) (k + 1) (.inl (g.2.1 1, 60, .inl (fun _ => 0)))) (k + 0) (.inr (0, [.ref (g.2.2.1 + (k + 1)), .int 0, .null, .int 0, .int 0, .int 0]))
theorem mk0_lo (g : Gx) (E : Nat → va_E) {k j : Nat} (h : j < k) : mk0 g E k j = E j := by
  unfold mk0
  rw [va_up_ne _ _ (by omega)]
  rw [va_up_ne _ _ (by omega)]
theorem mk0_at (g : Gx) (E : Nat → va_E) (k : Nat) : mk0 g E k k = .inr (0, oj0 g k) := by
  unfold mk0
  rw [show k + 0 = k from rfl, va_up_self]
  rfl
set_option maxRecDepth 100000 in
set_option maxHeartbeats 4000000 in
theorem i_X0 (l : Launch) (g : Gx) (k : Nat) (E : Nat → va_E) (hE0 : E k = .inr (0, [.null, .int 0, .null, .int 0, .int 0, .int 0])) : Ci g l yX0_init cX0_init 1 { frames := 1, cells := 1, slots := 60, locals := 12 } k E (k + 2) (mk0 g E k) 1 60 := by
  refine n_met rfl rfl (by decide) ?_
  intro p e s m below meth c args hx hb hin hml hown hts hK hP hend ls hl
  have hown : s.vm.findClass RX0 = some m.cls := hown
  have hS : va_S (An g) s.heap s.heap [] := va_S.rf
  have hl : lv_has ls 1 [(0, .ref (g.2.2.1 + (k + 0)))] := hl
  refine lv_aload_n hx hb dX0_init_0 rfl (lv_at hl 0 rfl) ?_
  refine W.objInit hx hb hown (hts _ q2_24) (hts _ q1_21) (hts _ q1_22) rfl (by rw [hml]; exact hl.1) rfl dX0_init_1 (Nat.le_of_ble_eq_true rfl) (Nat.le_of_ble_eq_true rfl) ?_
  refine W.eq (g2 := F0 m 4 ls []) rfl ?_
  refine lv_aload_n hx hb dX0_init_4 rfl (lv_at hl 0 rfl) ?_
  refine lv_bipush (v := (60 : Int32)) hx hb dX0_init_5 (by decide +kernel) ?_
  refine n_newi hx hb hts hK.1 hP hS q1_54 (by decide) (N := 60) rfl (Nat.le_of_ble_eq_true rfl) (Nat.le_of_ble_eq_true rfl) (Nat.le_of_ble_eq_true rfl) dX0_init_7 (fun H hP hS => ?_)
  refine W.widen (k := 1) (n := 60) (Nat.le_of_ble_eq_true rfl) (Nat.le_of_ble_eq_true rfl) ?_
  obtain ⟨E1, hE1⟩ : ∃ F, F = va_up E (k + 1) (.inl (g.2.1 1, 60, .inl (fun _ => 0))) := ⟨_, rfl⟩
  have hP : Pn g (k + 2) E1 H := by rw [hE1]; exact hP
  have f0_E1 : E1 (k + 0) = .inr (0, [.null, .int 0, .null, .int 0, .int 0, .int 0]) := by rw [hE1, va_up_ne _ _ (by omega)]; exact hE0
  have f1_E1 : E1 (k + 1) = .inl (g.2.1 1, 60, .inl (fun _ => 0)) := by rw [hE1, va_up_self]
  refine n_putF hx hb hown hts hK.1 hP hS hin inu0 tyX0 tyX0_ok nmX0 (k := k + 0) (by omega) f0_E1 rfl 0 (by decide) q2_25 rfl rfl rfl rfl (Nat.le_of_ble_eq_true rfl) (fs2 := [.ref (g.2.2.1 + (k + 1)), .int 0, .null, .int 0, .int 0, .int 0]) rfl dX0_init_9 (fun H locs hP hS => ?_)
  obtain ⟨E2, hE2⟩ : ∃ F, F = va_up E1 (k + 0) (.inr (0, [.ref (g.2.2.1 + (k + 1)), .int 0, .null, .int 0, .int 0, .int 0])) := ⟨_, rfl⟩
  have hP : Pn g (k + 2) E2 H := by rw [hE2]; exact hP
  have f0_E2 : E2 (k + 0) = .inr (0, [.ref (g.2.2.1 + (k + 1)), .int 0, .null, .int 0, .int 0, .int 0]) := by rw [hE2, va_up_self]
  refine hend H locs ls 12 ?_ hS dX0_init_12
  have hF : mk0 g E k = E2 := by
    unfold mk0
    rw [← hE1, ← hE2]
  rw [hF]
  exact hP
def oj8 (g : Gx) (k : Nat) : List Value := [.ref (g.2.2.1 + (k + 1)), .int 0]
def mk8 (g : Gx) (E : Nat → va_E) (k : Nat) : Nat → va_E := va_up (va_up (E) (k + 1) (.inl (g.2.1 1, 40, .inl (fun _ => 0)))) (k + 0) (.inr (8, [.ref (g.2.2.1 + (k + 1)), .int 0]))
theorem mk8_lo (g : Gx) (E : Nat → va_E) {k j : Nat} (h : j < k) : mk8 g E k j = E j := by
  unfold mk8
  rw [va_up_ne _ _ (by omega)]
  rw [va_up_ne _ _ (by omega)]
theorem mk8_at (g : Gx) (E : Nat → va_E) (k : Nat) : mk8 g E k k = .inr (8, oj8 g k) := by
  unfold mk8
  rw [show k + 0 = k from rfl, va_up_self]
  rfl
set_option maxRecDepth 100000 in
set_option maxHeartbeats 4000000 in
theorem i_X8 (l : Launch) (g : Gx) (k : Nat) (E : Nat → va_E) (hE0 : E k = .inr (8, [.null, .int 0])) : Ci g l yX8_init cX8_init 1 { frames := 1, cells := 1, slots := 40, locals := 12 } k E (k + 2) (mk8 g E k) 1 40 := by
  refine n_met rfl rfl (by decide) ?_
  intro p e s m below meth c args hx hb hin hml hown hts hK hP hend ls hl
  have hown : s.vm.findClass RX8 = some m.cls := hown
  have hS : va_S (An g) s.heap s.heap [] := va_S.rf
  have hl : lv_has ls 1 [(0, .ref (g.2.2.1 + (k + 0)))] := hl
  refine lv_aload_n hx hb dX8_init_0 rfl (lv_at hl 0 rfl) ?_
  refine W.objInit hx hb hown (hts _ q2_51) (hts _ q1_21) (hts _ q1_22) rfl (by rw [hml]; exact hl.1) rfl dX8_init_1 (Nat.le_of_ble_eq_true rfl) (Nat.le_of_ble_eq_true rfl) ?_
  refine W.eq (g2 := F0 m 4 ls []) rfl ?_
  refine lv_aload_n hx hb dX8_init_4 rfl (lv_at hl 0 rfl) ?_
  refine lv_bipush (v := (40 : Int32)) hx hb dX8_init_5 (by decide +kernel) ?_
  refine n_newi hx hb hts hK.1 hP hS q1_54 (by decide) (N := 40) rfl (Nat.le_of_ble_eq_true rfl) (Nat.le_of_ble_eq_true rfl) (Nat.le_of_ble_eq_true rfl) dX8_init_7 (fun H hP hS => ?_)
  refine W.widen (k := 1) (n := 40) (Nat.le_of_ble_eq_true rfl) (Nat.le_of_ble_eq_true rfl) ?_
  obtain ⟨E1, hE1⟩ : ∃ F, F = va_up E (k + 1) (.inl (g.2.1 1, 40, .inl (fun _ => 0))) := ⟨_, rfl⟩
  have hP : Pn g (k + 2) E1 H := by rw [hE1]; exact hP
  have f0_E1 : E1 (k + 0) = .inr (8, [.null, .int 0]) := by rw [hE1, va_up_ne _ _ (by omega)]; exact hE0
  have f1_E1 : E1 (k + 1) = .inl (g.2.1 1, 40, .inl (fun _ => 0)) := by rw [hE1, va_up_self]
  refine n_putF hx hb hown hts hK.1 hP hS hin inu8 tyX8 tyX8_ok nmX8 (k := k + 0) (by omega) f0_E1 rfl 0 (by decide) q2_52 rfl rfl rfl rfl (Nat.le_of_ble_eq_true rfl) (fs2 := [.ref (g.2.2.1 + (k + 1)), .int 0]) rfl dX8_init_9 (fun H locs hP hS => ?_)
  obtain ⟨E2, hE2⟩ : ∃ F, F = va_up E1 (k + 0) (.inr (8, [.ref (g.2.2.1 + (k + 1)), .int 0])) := ⟨_, rfl⟩
  have hP : Pn g (k + 2) E2 H := by rw [hE2]; exact hP
  have f0_E2 : E2 (k + 0) = .inr (8, [.ref (g.2.2.1 + (k + 1)), .int 0]) := by rw [hE2, va_up_self]
  refine hend H locs ls 12 ?_ hS dX8_init_12
  have hF : mk8 g E k = E2 := by
    unfold mk8
    rw [← hE1, ← hE2]
  rw [hF]
  exact hP
def oj4 (g : Gx) (k : Nat) : List Value := [.ref (g.2.2.1 + (k + 1)), .int 0, .int 0]
def mk4 (g : Gx) (E : Nat → va_E) (k : Nat) : Nat → va_E := va_up (va_up (E) (k + 1) (.inl (g.2.1 1, 24, .inl (fun _ => 0)))) (k + 0) (.inr (4, [.ref (g.2.2.1 + (k + 1)), .int 0, .int 0]))
theorem mk4_lo (g : Gx) (E : Nat → va_E) {k j : Nat} (h : j < k) : mk4 g E k j = E j := by
  unfold mk4
  rw [va_up_ne _ _ (by omega)]
  rw [va_up_ne _ _ (by omega)]
theorem mk4_at (g : Gx) (E : Nat → va_E) (k : Nat) : mk4 g E k k = .inr (4, oj4 g k) := by
  unfold mk4
  rw [show k + 0 = k from rfl, va_up_self]
  rfl
set_option maxRecDepth 100000 in
set_option maxHeartbeats 4000000 in
theorem i_X4 (l : Launch) (g : Gx) (k : Nat) (E : Nat → va_E) (hE0 : E k = .inr (4, [.null, .int 0, .int 0])) : Ci g l yX4_init cX4_init 1 { frames := 1, cells := 1, slots := 24, locals := 12 } k E (k + 2) (mk4 g E k) 1 24 := by
  refine n_met rfl rfl (by decide) ?_
  intro p e s m below meth c args hx hb hin hml hown hts hK hP hend ls hl
  have hown : s.vm.findClass RX4 = some m.cls := hown
  have hS : va_S (An g) s.heap s.heap [] := va_S.rf
  have hl : lv_has ls 1 [(0, .ref (g.2.2.1 + (k + 0)))] := hl
  refine lv_aload_n hx hb dX4_init_0 rfl (lv_at hl 0 rfl) ?_
  refine W.objInit hx hb hown (hts _ q2_67) (hts _ q1_21) (hts _ q1_22) rfl (by rw [hml]; exact hl.1) rfl dX4_init_1 (Nat.le_of_ble_eq_true rfl) (Nat.le_of_ble_eq_true rfl) ?_
  refine W.eq (g2 := F0 m 4 ls []) rfl ?_
  refine lv_aload_n hx hb dX4_init_4 rfl (lv_at hl 0 rfl) ?_
  refine lv_bipush (v := (24 : Int32)) hx hb dX4_init_5 (by decide +kernel) ?_
  refine n_newi hx hb hts hK.1 hP hS q1_54 (by decide) (N := 24) rfl (Nat.le_of_ble_eq_true rfl) (Nat.le_of_ble_eq_true rfl) (Nat.le_of_ble_eq_true rfl) dX4_init_7 (fun H hP hS => ?_)
  refine W.widen (k := 1) (n := 24) (Nat.le_of_ble_eq_true rfl) (Nat.le_of_ble_eq_true rfl) ?_
  obtain ⟨E1, hE1⟩ : ∃ F, F = va_up E (k + 1) (.inl (g.2.1 1, 24, .inl (fun _ => 0))) := ⟨_, rfl⟩
  have hP : Pn g (k + 2) E1 H := by rw [hE1]; exact hP
  have f0_E1 : E1 (k + 0) = .inr (4, [.null, .int 0, .int 0]) := by rw [hE1, va_up_ne _ _ (by omega)]; exact hE0
  have f1_E1 : E1 (k + 1) = .inl (g.2.1 1, 24, .inl (fun _ => 0)) := by rw [hE1, va_up_self]
  refine n_putF hx hb hown hts hK.1 hP hS hin inu4 tyX4 tyX4_ok nmX4 (k := k + 0) (by omega) f0_E1 rfl 0 (by decide) q2_68 rfl rfl rfl rfl (Nat.le_of_ble_eq_true rfl) (fs2 := [.ref (g.2.2.1 + (k + 1)), .int 0, .int 0]) rfl dX4_init_9 (fun H locs hP hS => ?_)
  obtain ⟨E2, hE2⟩ : ∃ F, F = va_up E1 (k + 0) (.inr (4, [.ref (g.2.2.1 + (k + 1)), .int 0, .int 0])) := ⟨_, rfl⟩
  have hP : Pn g (k + 2) E2 H := by rw [hE2]; exact hP
  have f0_E2 : E2 (k + 0) = .inr (4, [.ref (g.2.2.1 + (k + 1)), .int 0, .int 0]) := by rw [hE2, va_up_self]
  refine hend H locs ls 12 ?_ hS dX4_init_12
  have hF : mk4 g E k = E2 := by
    unfold mk4
    rw [← hE1, ← hE2]
  rw [hF]
  exact hP
def oj7 (g : Gx) (k : Nat) : List Value := [.ref (g.2.2.1 + (k + 1)), .ref (g.2.2.1 + (k + 2)), .ref (g.2.2.1 + (k + 7)), .ref (g.2.2.1 + (k + 13)), .ref (g.2.2.1 + (k + 18)), .ref (g.2.2.1 + (k + 22)), .int 0, .int 0, .int 0]
def mk7 (g : Gx) (E : Nat → va_E) (k : Nat) : Nat → va_E := va_up (mk2 g (va_up (va_up (mk2 g (va_up (va_up (mk2 g (va_up (va_up (mk2 g (va_up (va_up (mk2 g (va_up (va_up (mk2 g (va_up (va_up (mk2 g (va_up (va_up (mk2 g (va_up (va_up (va_up (va_up (mk6 g (va_up (va_up (mk3 g (va_up (va_up (mk1 g (va_up (va_up (mk5 g (va_up (va_up (va_up (E) (k + 1) (.inl (g.2.1 2, 8, .inr (.inr (.inr (.inr (fun _ => none))))))) (k + 0) (.inr (7, [.ref (g.2.2.1 + (k + 1)), .null, .null, .null, .null, .null, .int 0, .int 0, .int 0]))) (k + 2) (.inr (5, [.null, .null, .null, .null, .int 0]))) (k + 2)) (k + 0) (.inr (7, [.ref (g.2.2.1 + (k + 1)), .ref (g.2.2.1 + (k + 2)), .null, .null, .null, .null, .int 0, .int 0, .int 0]))) (k + 7) (.inr (1, [.null, .null, .null, .null, .null, .int 0]))) (k + 7)) (k + 0) (.inr (7, [.ref (g.2.2.1 + (k + 1)), .ref (g.2.2.1 + (k + 2)), .ref (g.2.2.1 + (k + 7)), .null, .null, .null, .int 0, .int 0, .int 0]))) (k + 13) (.inr (3, [.null, .null, .null, .null, .int 0]))) (k + 13)) (k + 0) (.inr (7, [.ref (g.2.2.1 + (k + 1)), .ref (g.2.2.1 + (k + 2)), .ref (g.2.2.1 + (k + 7)), .ref (g.2.2.1 + (k + 13)), .null, .null, .int 0, .int 0, .int 0]))) (k + 18) (.inr (6, [.null, .null, .null, .int 0, .int 0, .int 0]))) (k + 18)) (k + 0) (.inr (7, [.ref (g.2.2.1 + (k + 1)), .ref (g.2.2.1 + (k + 2)), .ref (g.2.2.1 + (k + 7)), .ref (g.2.2.1 + (k + 13)), .ref (g.2.2.1 + (k + 18)), .null, .int 0, .int 0, .int 0]))) (k + 22) (.inl (g.2.1 0, 60, .inl (fun _ => 0)))) (k + 0) (.inr (7, [.ref (g.2.2.1 + (k + 1)), .ref (g.2.2.1 + (k + 2)), .ref (g.2.2.1 + (k + 7)), .ref (g.2.2.1 + (k + 13)), .ref (g.2.2.1 + (k + 18)), .ref (g.2.2.1 + (k + 22)), .int 0, .int 0, .int 0]))) (k + 23) (.inr (2, [.null, .int 0, .int 0, .int 0, .int 0, .int 0, .int 0, .int 0, .int 0, .int 0, .int 0, .int 0, .int 0, .int 0, .int 0]))) (k + 23)) (k + 1) (.inl (g.2.1 2, 8, .inr (.inr (.inr (.inr (va_up (fun _ => none) 0 (some (g.2.2.1 + (k + 23)))))))))) (k + 25) (.inr (2, [.null, .int 0, .int 0, .int 0, .int 0, .int 0, .int 0, .int 0, .int 0, .int 0, .int 0, .int 0, .int 0, .int 0, .int 0]))) (k + 25)) (k + 1) (.inl (g.2.1 2, 8, .inr (.inr (.inr (.inr (va_up (va_up (fun _ => none) 0 (some (g.2.2.1 + (k + 23)))) 1 (some (g.2.2.1 + (k + 25)))))))))) (k + 27) (.inr (2, [.null, .int 0, .int 0, .int 0, .int 0, .int 0, .int 0, .int 0, .int 0, .int 0, .int 0, .int 0, .int 0, .int 0, .int 0]))) (k + 27)) (k + 1) (.inl (g.2.1 2, 8, .inr (.inr (.inr (.inr (va_up (va_up (va_up (fun _ => none) 0 (some (g.2.2.1 + (k + 23)))) 1 (some (g.2.2.1 + (k + 25)))) 2 (some (g.2.2.1 + (k + 27)))))))))) (k + 29) (.inr (2, [.null, .int 0, .int 0, .int 0, .int 0, .int 0, .int 0, .int 0, .int 0, .int 0, .int 0, .int 0, .int 0, .int 0, .int 0]))) (k + 29)) (k + 1) (.inl (g.2.1 2, 8, .inr (.inr (.inr (.inr (va_up (va_up (va_up (va_up (fun _ => none) 0 (some (g.2.2.1 + (k + 23)))) 1 (some (g.2.2.1 + (k + 25)))) 2 (some (g.2.2.1 + (k + 27)))) 3 (some (g.2.2.1 + (k + 29)))))))))) (k + 31) (.inr (2, [.null, .int 0, .int 0, .int 0, .int 0, .int 0, .int 0, .int 0, .int 0, .int 0, .int 0, .int 0, .int 0, .int 0, .int 0]))) (k + 31)) (k + 1) (.inl (g.2.1 2, 8, .inr (.inr (.inr (.inr (va_up (va_up (va_up (va_up (va_up (fun _ => none) 0 (some (g.2.2.1 + (k + 23)))) 1 (some (g.2.2.1 + (k + 25)))) 2 (some (g.2.2.1 + (k + 27)))) 3 (some (g.2.2.1 + (k + 29)))) 4 (some (g.2.2.1 + (k + 31)))))))))) (k + 33) (.inr (2, [.null, .int 0, .int 0, .int 0, .int 0, .int 0, .int 0, .int 0, .int 0, .int 0, .int 0, .int 0, .int 0, .int 0, .int 0]))) (k + 33)) (k + 1) (.inl (g.2.1 2, 8, .inr (.inr (.inr (.inr (va_up (va_up (va_up (va_up (va_up (va_up (fun _ => none) 0 (some (g.2.2.1 + (k + 23)))) 1 (some (g.2.2.1 + (k + 25)))) 2 (some (g.2.2.1 + (k + 27)))) 3 (some (g.2.2.1 + (k + 29)))) 4 (some (g.2.2.1 + (k + 31)))) 5 (some (g.2.2.1 + (k + 33)))))))))) (k + 35) (.inr (2, [.null, .int 0, .int 0, .int 0, .int 0, .int 0, .int 0, .int 0, .int 0, .int 0, .int 0, .int 0, .int 0, .int 0, .int 0]))) (k + 35)) (k + 1) (.inl (g.2.1 2, 8, .inr (.inr (.inr (.inr (va_up (va_up (va_up (va_up (va_up (va_up (va_up (fun _ => none) 0 (some (g.2.2.1 + (k + 23)))) 1 (some (g.2.2.1 + (k + 25)))) 2 (some (g.2.2.1 + (k + 27)))) 3 (some (g.2.2.1 + (k + 29)))) 4 (some (g.2.2.1 + (k + 31)))) 5 (some (g.2.2.1 + (k + 33)))) 6 (some (g.2.2.1 + (k + 35)))))))))) (k + 37) (.inr (2, [.null, .int 0, .int 0, .int 0, .int 0, .int 0, .int 0, .int 0, .int 0, .int 0, .int 0, .int 0, .int 0, .int 0, .int 0]))) (k + 37)) (k + 1) (.inl (g.2.1 2, 8, .inr (.inr (.inr (.inr (va_up (va_up (va_up (va_up (va_up (va_up (va_up (va_up (fun _ => none) 0 (some (g.2.2.1 + (k + 23)))) 1 (some (g.2.2.1 + (k + 25)))) 2 (some (g.2.2.1 + (k + 27)))) 3 (some (g.2.2.1 + (k + 29)))) 4 (some (g.2.2.1 + (k + 31)))) 5 (some (g.2.2.1 + (k + 33)))) 6 (some (g.2.2.1 + (k + 35)))) 7 (some (g.2.2.1 + (k + 37)))))))))
theorem mk7_lo (g : Gx) (E : Nat → va_E) {k j : Nat} (h : j < k) : mk7 g E k j = E j := by
  unfold mk7
  rw [va_up_ne _ _ (by omega)]
  rw [mk2_lo _ _ (by omega)]
  rw [va_up_ne _ _ (by omega)]
  rw [va_up_ne _ _ (by omega)]
  rw [mk2_lo _ _ (by omega)]
  rw [va_up_ne _ _ (by omega)]
  rw [va_up_ne _ _ (by omega)]
  rw [mk2_lo _ _ (by omega)]
  rw [va_up_ne _ _ (by omega)]
  rw [va_up_ne _ _ (by omega)]
  rw [mk2_lo _ _ (by omega)]
  rw [va_up_ne _ _ (by omega)]
  rw [va_up_ne _ _ (by omega)]
  rw [mk2_lo _ _ (by omega)]
  rw [va_up_ne _ _ (by omega)]
  rw [va_up_ne _ _ (by omega)]
  rw [mk2_lo _ _ (by omega)]
  rw [va_up_ne _ _ (by omega)]
  rw [va_up_ne _ _ (by omega)]
  rw [mk2_lo _ _ (by omega)]
  rw [va_up_ne _ _ (by omega)]
  rw [va_up_ne _ _ (by omega)]
  rw [mk2_lo _ _ (by omega)]
  rw [va_up_ne _ _ (by omega)]
  rw [va_up_ne _ _ (by omega)]
  rw [va_up_ne _ _ (by omega)]
  rw [va_up_ne _ _ (by omega)]
  rw [mk6_lo _ _ (by omega)]
  rw [va_up_ne _ _ (by omega)]
  rw [va_up_ne _ _ (by omega)]
  rw [mk3_lo _ _ (by omega)]
  rw [va_up_ne _ _ (by omega)]
  rw [va_up_ne _ _ (by omega)]
  rw [mk1_lo _ _ (by omega)]
  rw [va_up_ne _ _ (by omega)]
  rw [va_up_ne _ _ (by omega)]
  rw [mk5_lo _ _ (by omega)]
  rw [va_up_ne _ _ (by omega)]
  rw [va_up_ne _ _ (by omega)]
  rw [va_up_ne _ _ (by omega)]
theorem mk7_at (g : Gx) (E : Nat → va_E) (k : Nat) : mk7 g E k k = .inr (7, oj7 g k) := by
  unfold mk7
  rw [va_up_ne _ _ (by omega)]
  rw [mk2_lo _ _ (by omega)]
  rw [va_up_ne _ _ (by omega)]
  rw [va_up_ne _ _ (by omega)]
  rw [mk2_lo _ _ (by omega)]
  rw [va_up_ne _ _ (by omega)]
  rw [va_up_ne _ _ (by omega)]
  rw [mk2_lo _ _ (by omega)]
  rw [va_up_ne _ _ (by omega)]
  rw [va_up_ne _ _ (by omega)]
  rw [mk2_lo _ _ (by omega)]
  rw [va_up_ne _ _ (by omega)]
  rw [va_up_ne _ _ (by omega)]
  rw [mk2_lo _ _ (by omega)]
  rw [va_up_ne _ _ (by omega)]
  rw [va_up_ne _ _ (by omega)]
  rw [mk2_lo _ _ (by omega)]
  rw [va_up_ne _ _ (by omega)]
  rw [va_up_ne _ _ (by omega)]
  rw [mk2_lo _ _ (by omega)]
  rw [va_up_ne _ _ (by omega)]
  rw [va_up_ne _ _ (by omega)]
  rw [mk2_lo _ _ (by omega)]
  rw [va_up_ne _ _ (by omega)]
  rw [show k + 0 = k from rfl, va_up_self]
  rfl
set_option maxRecDepth 100000 in
set_option maxHeartbeats 4000000 in
theorem i_X7 (l : Launch) (g : Gx) (k : Nat) (E : Nat → va_E) (hE0 : E k = .inr (7, [.null, .null, .null, .null, .null, .null, .int 0, .int 0, .int 0])) : Ci g l yX7_init cX7_init 2 { frames := 2, cells := 38, slots := 2010, locals := 32 } k E (k + 39) (mk7 g E k) 38 2010 := by
  refine n_met rfl rfl (by decide) ?_
  intro p e s m below meth c args hx hb hin hml hown hts hK hP hend ls hl
  have hown : s.vm.findClass RX7 = some m.cls := hown
  have hS : va_S (An g) s.heap s.heap [] := va_S.rf
  have hl : lv_has ls 2 [(0, .ref (g.2.2.1 + (k + 0)))] := hl
  refine lv_aload_n hx hb dX7_init_0 rfl (lv_at hl 0 rfl) ?_
  refine W.objInit hx hb hown (hts _ q1_28) (hts _ q1_21) (hts _ q1_22) rfl (by rw [hml]; exact hl.1) rfl dX7_init_1 (Nat.le_of_ble_eq_true rfl) (Nat.le_of_ble_eq_true rfl) ?_
  refine W.eq (g2 := F0 m 4 ls []) rfl ?_
  refine lv_aload_n hx hb dX7_init_4 rfl (lv_at hl 0 rfl) ?_
  refine lv_bipush (v := (8 : Int32)) hx hb dX7_init_5 (by decide +kernel) ?_
  refine n_newq hx hb hown hts hK.1 hP hS (t := 2) q1_29 hK.2.2.1 rfl (by decide) (N := 8) rfl (Nat.le_of_ble_eq_true rfl) (Nat.le_of_ble_eq_true rfl) (Nat.le_of_ble_eq_true rfl) dX7_init_7 (fun H hP hS => ?_)
  refine W.widen (k := 1) (n := 8) (Nat.le_of_ble_eq_true rfl) (Nat.le_of_ble_eq_true rfl) ?_
  obtain ⟨E1, hE1⟩ : ∃ F, F = va_up E (k + 1) (.inl (g.2.1 2, 8, .inr (.inr (.inr (.inr (fun _ => none)))))) := ⟨_, rfl⟩
  have hP : Pn g (k + 2) E1 H := by rw [hE1]; exact hP
  have f0_E1 : E1 (k + 0) = .inr (7, [.null, .null, .null, .null, .null, .null, .int 0, .int 0, .int 0]) := by rw [hE1, va_up_ne _ _ (by omega)]; exact hE0
  have f1_E1 : E1 (k + 1) = .inl (g.2.1 2, 8, .inr (.inr (.inr (.inr (fun _ => none))))) := by rw [hE1, va_up_self]
  refine n_putF hx hb hown hts hK.1 hP hS hin inu7 tyX7 tyX7_ok nmX7 (k := k + 0) (by omega) f0_E1 rfl 0 (by decide) q1_220 rfl rfl rfl rfl (Nat.le_of_ble_eq_true rfl) (fs2 := [.ref (g.2.2.1 + (k + 1)), .null, .null, .null, .null, .null, .int 0, .int 0, .int 0]) rfl dX7_init_10 (fun H locs hP hS => ?_)
  obtain ⟨E2, hE2⟩ : ∃ F, F = va_up E1 (k + 0) (.inr (7, [.ref (g.2.2.1 + (k + 1)), .null, .null, .null, .null, .null, .int 0, .int 0, .int 0])) := ⟨_, rfl⟩
  have hP : Pn g (k + 2) E2 H := by rw [hE2]; exact hP
  have f0_E2 : E2 (k + 0) = .inr (7, [.ref (g.2.2.1 + (k + 1)), .null, .null, .null, .null, .null, .int 0, .int 0, .int 0]) := by rw [hE2, va_up_self]
  have f1_E2 : E2 (k + 1) = .inl (g.2.1 2, 8, .inr (.inr (.inr (.inr (fun _ => none))))) := by rw [hE2, va_up_ne _ _ (by omega)]; exact f1_E1
  refine lv_aload_n hx hb dX7_init_13 rfl (lv_at hl 0 rfl) ?_
  refine n_new hx hb hown hts hK.1 hP hS (ci := 5) (fs := [.null, .null, .null, .null, .int 0]) inu5 tyX5 tyX5_ok q1_31 q1_32 q1_3 rfl (fun j hj => by rcases (show j = 0 ∨ j = 1 ∨ j = 2 ∨ j = 3 ∨ j = 4 by omega) with rfl | rfl | rfl | rfl | rfl <;> rfl) (Nat.le_of_ble_eq_true rfl) (Nat.le_of_ble_eq_true rfl) dX7_init_14 (fun H hP hS => ?_)
  refine W.widen (k := 2) (n := 13) (Nat.le_of_ble_eq_true rfl) (Nat.le_of_ble_eq_true rfl) ?_
  obtain ⟨E3, hE3⟩ : ∃ F, F = va_up E2 (k + 2) (.inr (5, [.null, .null, .null, .null, .int 0])) := ⟨_, rfl⟩
  have hP : Pn g (k + 3) E3 H := by rw [hE3]; exact hP
  have f0_E3 : E3 (k + 0) = .inr (7, [.ref (g.2.2.1 + (k + 1)), .null, .null, .null, .null, .null, .int 0, .int 0, .int 0]) := by rw [hE3, va_up_ne _ _ (by omega)]; exact f0_E2
  have f1_E3 : E3 (k + 1) = .inl (g.2.1 2, 8, .inr (.inr (.inr (.inr (fun _ => none))))) := by rw [hE3, va_up_ne _ _ (by omega)]; exact f1_E2
  have f2_E3 : E3 (k + 2) = .inr (5, [.null, .null, .null, .null, .int 0]) := by rw [hE3, va_up_self]
  refine lv_dup hx hb dX7_init_17 rfl ?_
  refine n_callIN hx hb hml hown hts hK (rest := [.ref (g.2.2.1 + (k + 2)), .ref (g.2.2.1 + (k + 0))]) (k := k + 2) (i_X5 l g (k + 2) E3 f2_E3) q1_35 (by decide +kernel) q1_34 q1_3 (by decide +kernel) (by decide +kernel) ⟨rfl, rfl⟩ ⟨(Nat.le_of_ble_eq_true rfl), (Nat.le_of_ble_eq_true rfl)⟩ hP hS hl.1 rfl (Nat.le_of_ble_eq_true rfl) dX7_init_18 ⟨(Nat.le_of_ble_eq_true rfl), (Nat.le_of_ble_eq_true rfl)⟩ (fun H locs hP hS => ?_)
  refine W.widen (k := 6) (n := 45) (Nat.le_of_ble_eq_true rfl) (Nat.le_of_ble_eq_true rfl) ?_
  obtain ⟨E4, hE4⟩ : ∃ F, F = mk5 g E3 (k + 2) := ⟨_, rfl⟩
  have hP : Pn g (k + 7) E4 H := by rw [hE4]; exact hP
  have f0_E4 : E4 (k + 0) = .inr (7, [.ref (g.2.2.1 + (k + 1)), .null, .null, .null, .null, .null, .int 0, .int 0, .int 0]) := by rw [hE4, mk5_lo g E3 (by omega)]; exact f0_E3
  have f1_E4 : E4 (k + 1) = .inl (g.2.1 2, 8, .inr (.inr (.inr (.inr (fun _ => none))))) := by rw [hE4, mk5_lo g E3 (by omega)]; exact f1_E3
  have f2_E4 : E4 (k + 2) = .inr (5, oj5 g (k + 2)) := by rw [hE4, mk5_at]
  refine n_putF hx hb hown hts hK.1 hP hS hin inu7 tyX7 tyX7_ok nmX7 (k := k + 0) (by omega) f0_E4 rfl 1 (by decide) q1_222 rfl rfl rfl rfl (Nat.le_of_ble_eq_true rfl) (fs2 := [.ref (g.2.2.1 + (k + 1)), .ref (g.2.2.1 + (k + 2)), .null, .null, .null, .null, .int 0, .int 0, .int 0]) rfl dX7_init_21 (fun H locs hP hS => ?_)
  obtain ⟨E5, hE5⟩ : ∃ F, F = va_up E4 (k + 0) (.inr (7, [.ref (g.2.2.1 + (k + 1)), .ref (g.2.2.1 + (k + 2)), .null, .null, .null, .null, .int 0, .int 0, .int 0])) := ⟨_, rfl⟩
  have hP : Pn g (k + 7) E5 H := by rw [hE5]; exact hP
  have f0_E5 : E5 (k + 0) = .inr (7, [.ref (g.2.2.1 + (k + 1)), .ref (g.2.2.1 + (k + 2)), .null, .null, .null, .null, .int 0, .int 0, .int 0]) := by rw [hE5, va_up_self]
  have f1_E5 : E5 (k + 1) = .inl (g.2.1 2, 8, .inr (.inr (.inr (.inr (fun _ => none))))) := by rw [hE5, va_up_ne _ _ (by omega)]; exact f1_E4
  have f2_E5 : E5 (k + 2) = .inr (5, oj5 g (k + 2)) := by rw [hE5, va_up_ne _ _ (by omega)]; exact f2_E4
  refine lv_aload_n hx hb dX7_init_24 rfl (lv_at hl 0 rfl) ?_
  refine n_new hx hb hown hts hK.1 hP hS (ci := 1) (fs := [.null, .null, .null, .null, .null, .int 0]) inu1 tyX1 tyX1_ok q1_55 q1_56 q1_4 rfl (fun j hj => by rcases (show j = 0 ∨ j = 1 ∨ j = 2 ∨ j = 3 ∨ j = 4 ∨ j = 5 by omega) with rfl | rfl | rfl | rfl | rfl | rfl <;> rfl) (Nat.le_of_ble_eq_true rfl) (Nat.le_of_ble_eq_true rfl) dX7_init_25 (fun H hP hS => ?_)
  refine W.widen (k := 7) (n := 51) (Nat.le_of_ble_eq_true rfl) (Nat.le_of_ble_eq_true rfl) ?_
  obtain ⟨E6, hE6⟩ : ∃ F, F = va_up E5 (k + 7) (.inr (1, [.null, .null, .null, .null, .null, .int 0])) := ⟨_, rfl⟩
  have hP : Pn g (k + 8) E6 H := by rw [hE6]; exact hP
  have f0_E6 : E6 (k + 0) = .inr (7, [.ref (g.2.2.1 + (k + 1)), .ref (g.2.2.1 + (k + 2)), .null, .null, .null, .null, .int 0, .int 0, .int 0]) := by rw [hE6, va_up_ne _ _ (by omega)]; exact f0_E5
  have f1_E6 : E6 (k + 1) = .inl (g.2.1 2, 8, .inr (.inr (.inr (.inr (fun _ => none))))) := by rw [hE6, va_up_ne _ _ (by omega)]; exact f1_E5
  have f2_E6 : E6 (k + 2) = .inr (5, oj5 g (k + 2)) := by rw [hE6, va_up_ne _ _ (by omega)]; exact f2_E5
  have f7_E6 : E6 (k + 7) = .inr (1, [.null, .null, .null, .null, .null, .int 0]) := by rw [hE6, va_up_self]
  refine lv_dup hx hb dX7_init_28 rfl ?_
  refine n_callIN hx hb hml hown hts hK (rest := [.ref (g.2.2.1 + (k + 7)), .ref (g.2.2.1 + (k + 0))]) (k := k + 7) (i_X1 l g (k + 7) E6 f7_E6) q1_59 (by decide +kernel) q1_58 q1_4 (by decide +kernel) (by decide +kernel) ⟨rfl, rfl⟩ ⟨(Nat.le_of_ble_eq_true rfl), (Nat.le_of_ble_eq_true rfl)⟩ hP hS hl.1 rfl (Nat.le_of_ble_eq_true rfl) dX7_init_29 ⟨(Nat.le_of_ble_eq_true rfl), (Nat.le_of_ble_eq_true rfl)⟩ (fun H locs hP hS => ?_)
  refine W.widen (k := 12) (n := 867) (Nat.le_of_ble_eq_true rfl) (Nat.le_of_ble_eq_true rfl) ?_
  obtain ⟨E7, hE7⟩ : ∃ F, F = mk1 g E6 (k + 7) := ⟨_, rfl⟩
  have hP : Pn g (k + 13) E7 H := by rw [hE7]; exact hP
  have f0_E7 : E7 (k + 0) = .inr (7, [.ref (g.2.2.1 + (k + 1)), .ref (g.2.2.1 + (k + 2)), .null, .null, .null, .null, .int 0, .int 0, .int 0]) := by rw [hE7, mk1_lo g E6 (by omega)]; exact f0_E6
  have f1_E7 : E7 (k + 1) = .inl (g.2.1 2, 8, .inr (.inr (.inr (.inr (fun _ => none))))) := by rw [hE7, mk1_lo g E6 (by omega)]; exact f1_E6
  have f2_E7 : E7 (k + 2) = .inr (5, oj5 g (k + 2)) := by rw [hE7, mk1_lo g E6 (by omega)]; exact f2_E6
  have f7_E7 : E7 (k + 7) = .inr (1, oj1 g (k + 7)) := by rw [hE7, mk1_at]
  refine n_putF hx hb hown hts hK.1 hP hS hin inu7 tyX7 tyX7_ok nmX7 (k := k + 0) (by omega) f0_E7 rfl 2 (by decide) q1_224 rfl rfl rfl rfl (Nat.le_of_ble_eq_true rfl) (fs2 := [.ref (g.2.2.1 + (k + 1)), .ref (g.2.2.1 + (k + 2)), .ref (g.2.2.1 + (k + 7)), .null, .null, .null, .int 0, .int 0, .int 0]) rfl dX7_init_32 (fun H locs hP hS => ?_)
  obtain ⟨E8, hE8⟩ : ∃ F, F = va_up E7 (k + 0) (.inr (7, [.ref (g.2.2.1 + (k + 1)), .ref (g.2.2.1 + (k + 2)), .ref (g.2.2.1 + (k + 7)), .null, .null, .null, .int 0, .int 0, .int 0])) := ⟨_, rfl⟩
  have hP : Pn g (k + 13) E8 H := by rw [hE8]; exact hP
  have f0_E8 : E8 (k + 0) = .inr (7, [.ref (g.2.2.1 + (k + 1)), .ref (g.2.2.1 + (k + 2)), .ref (g.2.2.1 + (k + 7)), .null, .null, .null, .int 0, .int 0, .int 0]) := by rw [hE8, va_up_self]
  have f1_E8 : E8 (k + 1) = .inl (g.2.1 2, 8, .inr (.inr (.inr (.inr (fun _ => none))))) := by rw [hE8, va_up_ne _ _ (by omega)]; exact f1_E7
  have f2_E8 : E8 (k + 2) = .inr (5, oj5 g (k + 2)) := by rw [hE8, va_up_ne _ _ (by omega)]; exact f2_E7
  have f7_E8 : E8 (k + 7) = .inr (1, oj1 g (k + 7)) := by rw [hE8, va_up_ne _ _ (by omega)]; exact f7_E7
  refine lv_aload_n hx hb dX7_init_35 rfl (lv_at hl 0 rfl) ?_
  refine n_new hx hb hown hts hK.1 hP hS (ci := 3) (fs := [.null, .null, .null, .null, .int 0]) inu3 tyX3 tyX3_ok q1_81 q1_82 q1_5 rfl (fun j hj => by rcases (show j = 0 ∨ j = 1 ∨ j = 2 ∨ j = 3 ∨ j = 4 by omega) with rfl | rfl | rfl | rfl | rfl <;> rfl) (Nat.le_of_ble_eq_true rfl) (Nat.le_of_ble_eq_true rfl) dX7_init_36 (fun H hP hS => ?_)
  refine W.widen (k := 13) (n := 872) (Nat.le_of_ble_eq_true rfl) (Nat.le_of_ble_eq_true rfl) ?_
  obtain ⟨E9, hE9⟩ : ∃ F, F = va_up E8 (k + 13) (.inr (3, [.null, .null, .null, .null, .int 0])) := ⟨_, rfl⟩
  have hP : Pn g (k + 14) E9 H := by rw [hE9]; exact hP
  have f0_E9 : E9 (k + 0) = .inr (7, [.ref (g.2.2.1 + (k + 1)), .ref (g.2.2.1 + (k + 2)), .ref (g.2.2.1 + (k + 7)), .null, .null, .null, .int 0, .int 0, .int 0]) := by rw [hE9, va_up_ne _ _ (by omega)]; exact f0_E8
  have f1_E9 : E9 (k + 1) = .inl (g.2.1 2, 8, .inr (.inr (.inr (.inr (fun _ => none))))) := by rw [hE9, va_up_ne _ _ (by omega)]; exact f1_E8
  have f2_E9 : E9 (k + 2) = .inr (5, oj5 g (k + 2)) := by rw [hE9, va_up_ne _ _ (by omega)]; exact f2_E8
  have f7_E9 : E9 (k + 7) = .inr (1, oj1 g (k + 7)) := by rw [hE9, va_up_ne _ _ (by omega)]; exact f7_E8
  have f13_E9 : E9 (k + 13) = .inr (3, [.null, .null, .null, .null, .int 0]) := by rw [hE9, va_up_self]
  refine lv_dup hx hb dX7_init_39 rfl ?_
  refine n_callIN hx hb hml hown hts hK (rest := [.ref (g.2.2.1 + (k + 13)), .ref (g.2.2.1 + (k + 0))]) (k := k + 13) (i_X3 l g (k + 13) E9 f13_E9) q1_85 (by decide +kernel) q1_84 q1_5 (by decide +kernel) (by decide +kernel) ⟨rfl, rfl⟩ ⟨(Nat.le_of_ble_eq_true rfl), (Nat.le_of_ble_eq_true rfl)⟩ hP hS hl.1 rfl (Nat.le_of_ble_eq_true rfl) dX7_init_40 ⟨(Nat.le_of_ble_eq_true rfl), (Nat.le_of_ble_eq_true rfl)⟩ (fun H locs hP hS => ?_)
  refine W.widen (k := 17) (n := 1032) (Nat.le_of_ble_eq_true rfl) (Nat.le_of_ble_eq_true rfl) ?_
  obtain ⟨E10, hE10⟩ : ∃ F, F = mk3 g E9 (k + 13) := ⟨_, rfl⟩
  have hP : Pn g (k + 18) E10 H := by rw [hE10]; exact hP
  have f0_E10 : E10 (k + 0) = .inr (7, [.ref (g.2.2.1 + (k + 1)), .ref (g.2.2.1 + (k + 2)), .ref (g.2.2.1 + (k + 7)), .null, .null, .null, .int 0, .int 0, .int 0]) := by rw [hE10, mk3_lo g E9 (by omega)]; exact f0_E9
  have f1_E10 : E10 (k + 1) = .inl (g.2.1 2, 8, .inr (.inr (.inr (.inr (fun _ => none))))) := by rw [hE10, mk3_lo g E9 (by omega)]; exact f1_E9
  have f2_E10 : E10 (k + 2) = .inr (5, oj5 g (k + 2)) := by rw [hE10, mk3_lo g E9 (by omega)]; exact f2_E9
  have f7_E10 : E10 (k + 7) = .inr (1, oj1 g (k + 7)) := by rw [hE10, mk3_lo g E9 (by omega)]; exact f7_E9
  have f13_E10 : E10 (k + 13) = .inr (3, oj3 g (k + 13)) := by rw [hE10, mk3_at]
  refine n_putF hx hb hown hts hK.1 hP hS hin inu7 tyX7 tyX7_ok nmX7 (k := k + 0) (by omega) f0_E10 rfl 3 (by decide) q1_226 rfl rfl rfl rfl (Nat.le_of_ble_eq_true rfl) (fs2 := [.ref (g.2.2.1 + (k + 1)), .ref (g.2.2.1 + (k + 2)), .ref (g.2.2.1 + (k + 7)), .ref (g.2.2.1 + (k + 13)), .null, .null, .int 0, .int 0, .int 0]) rfl dX7_init_43 (fun H locs hP hS => ?_)
  obtain ⟨E11, hE11⟩ : ∃ F, F = va_up E10 (k + 0) (.inr (7, [.ref (g.2.2.1 + (k + 1)), .ref (g.2.2.1 + (k + 2)), .ref (g.2.2.1 + (k + 7)), .ref (g.2.2.1 + (k + 13)), .null, .null, .int 0, .int 0, .int 0])) := ⟨_, rfl⟩
  have hP : Pn g (k + 18) E11 H := by rw [hE11]; exact hP
  have f0_E11 : E11 (k + 0) = .inr (7, [.ref (g.2.2.1 + (k + 1)), .ref (g.2.2.1 + (k + 2)), .ref (g.2.2.1 + (k + 7)), .ref (g.2.2.1 + (k + 13)), .null, .null, .int 0, .int 0, .int 0]) := by rw [hE11, va_up_self]
  have f1_E11 : E11 (k + 1) = .inl (g.2.1 2, 8, .inr (.inr (.inr (.inr (fun _ => none))))) := by rw [hE11, va_up_ne _ _ (by omega)]; exact f1_E10
  have f2_E11 : E11 (k + 2) = .inr (5, oj5 g (k + 2)) := by rw [hE11, va_up_ne _ _ (by omega)]; exact f2_E10
  have f7_E11 : E11 (k + 7) = .inr (1, oj1 g (k + 7)) := by rw [hE11, va_up_ne _ _ (by omega)]; exact f7_E10
  have f13_E11 : E11 (k + 13) = .inr (3, oj3 g (k + 13)) := by rw [hE11, va_up_ne _ _ (by omega)]; exact f13_E10
  refine lv_aload_n hx hb dX7_init_46 rfl (lv_at hl 0 rfl) ?_
  refine n_new hx hb hown hts hK.1 hP hS (ci := 6) (fs := [.null, .null, .null, .int 0, .int 0, .int 0]) inu6 tyX6 tyX6_ok q1_106 q1_107 q1_6 rfl (fun j hj => by rcases (show j = 0 ∨ j = 1 ∨ j = 2 ∨ j = 3 ∨ j = 4 ∨ j = 5 by omega) with rfl | rfl | rfl | rfl | rfl | rfl <;> rfl) (Nat.le_of_ble_eq_true rfl) (Nat.le_of_ble_eq_true rfl) dX7_init_47 (fun H hP hS => ?_)
  refine W.widen (k := 18) (n := 1038) (Nat.le_of_ble_eq_true rfl) (Nat.le_of_ble_eq_true rfl) ?_
  obtain ⟨E12, hE12⟩ : ∃ F, F = va_up E11 (k + 18) (.inr (6, [.null, .null, .null, .int 0, .int 0, .int 0])) := ⟨_, rfl⟩
  have hP : Pn g (k + 19) E12 H := by rw [hE12]; exact hP
  have f0_E12 : E12 (k + 0) = .inr (7, [.ref (g.2.2.1 + (k + 1)), .ref (g.2.2.1 + (k + 2)), .ref (g.2.2.1 + (k + 7)), .ref (g.2.2.1 + (k + 13)), .null, .null, .int 0, .int 0, .int 0]) := by rw [hE12, va_up_ne _ _ (by omega)]; exact f0_E11
  have f1_E12 : E12 (k + 1) = .inl (g.2.1 2, 8, .inr (.inr (.inr (.inr (fun _ => none))))) := by rw [hE12, va_up_ne _ _ (by omega)]; exact f1_E11
  have f2_E12 : E12 (k + 2) = .inr (5, oj5 g (k + 2)) := by rw [hE12, va_up_ne _ _ (by omega)]; exact f2_E11
  have f7_E12 : E12 (k + 7) = .inr (1, oj1 g (k + 7)) := by rw [hE12, va_up_ne _ _ (by omega)]; exact f7_E11
  have f13_E12 : E12 (k + 13) = .inr (3, oj3 g (k + 13)) := by rw [hE12, va_up_ne _ _ (by omega)]; exact f13_E11
  have f18_E12 : E12 (k + 18) = .inr (6, [.null, .null, .null, .int 0, .int 0, .int 0]) := by rw [hE12, va_up_self]
  refine lv_dup hx hb dX7_init_50 rfl ?_
  refine n_callIN hx hb hml hown hts hK (rest := [.ref (g.2.2.1 + (k + 18)), .ref (g.2.2.1 + (k + 0))]) (k := k + 18) (i_X6 l g (k + 18) E12 f18_E12) q1_110 (by decide +kernel) q1_109 q1_6 (by decide +kernel) (by decide +kernel) ⟨rfl, rfl⟩ ⟨(Nat.le_of_ble_eq_true rfl), (Nat.le_of_ble_eq_true rfl)⟩ hP hS hl.1 rfl (Nat.le_of_ble_eq_true rfl) dX7_init_51 ⟨(Nat.le_of_ble_eq_true rfl), (Nat.le_of_ble_eq_true rfl)⟩ (fun H locs hP hS => ?_)
  refine W.widen (k := 21) (n := 1638) (Nat.le_of_ble_eq_true rfl) (Nat.le_of_ble_eq_true rfl) ?_
  obtain ⟨E13, hE13⟩ : ∃ F, F = mk6 g E12 (k + 18) := ⟨_, rfl⟩
  have hP : Pn g (k + 22) E13 H := by rw [hE13]; exact hP
  have f0_E13 : E13 (k + 0) = .inr (7, [.ref (g.2.2.1 + (k + 1)), .ref (g.2.2.1 + (k + 2)), .ref (g.2.2.1 + (k + 7)), .ref (g.2.2.1 + (k + 13)), .null, .null, .int 0, .int 0, .int 0]) := by rw [hE13, mk6_lo g E12 (by omega)]; exact f0_E12
  have f1_E13 : E13 (k + 1) = .inl (g.2.1 2, 8, .inr (.inr (.inr (.inr (fun _ => none))))) := by rw [hE13, mk6_lo g E12 (by omega)]; exact f1_E12
  have f2_E13 : E13 (k + 2) = .inr (5, oj5 g (k + 2)) := by rw [hE13, mk6_lo g E12 (by omega)]; exact f2_E12
  have f7_E13 : E13 (k + 7) = .inr (1, oj1 g (k + 7)) := by rw [hE13, mk6_lo g E12 (by omega)]; exact f7_E12
  have f13_E13 : E13 (k + 13) = .inr (3, oj3 g (k + 13)) := by rw [hE13, mk6_lo g E12 (by omega)]; exact f13_E12
  have f18_E13 : E13 (k + 18) = .inr (6, oj6 g (k + 18)) := by rw [hE13, mk6_at]
  refine n_putF hx hb hown hts hK.1 hP hS hin inu7 tyX7 tyX7_ok nmX7 (k := k + 0) (by omega) f0_E13 rfl 4 (by decide) q1_228 rfl rfl rfl rfl (Nat.le_of_ble_eq_true rfl) (fs2 := [.ref (g.2.2.1 + (k + 1)), .ref (g.2.2.1 + (k + 2)), .ref (g.2.2.1 + (k + 7)), .ref (g.2.2.1 + (k + 13)), .ref (g.2.2.1 + (k + 18)), .null, .int 0, .int 0, .int 0]) rfl dX7_init_54 (fun H locs hP hS => ?_)
  obtain ⟨E14, hE14⟩ : ∃ F, F = va_up E13 (k + 0) (.inr (7, [.ref (g.2.2.1 + (k + 1)), .ref (g.2.2.1 + (k + 2)), .ref (g.2.2.1 + (k + 7)), .ref (g.2.2.1 + (k + 13)), .ref (g.2.2.1 + (k + 18)), .null, .int 0, .int 0, .int 0])) := ⟨_, rfl⟩
  have hP : Pn g (k + 22) E14 H := by rw [hE14]; exact hP
  have f0_E14 : E14 (k + 0) = .inr (7, [.ref (g.2.2.1 + (k + 1)), .ref (g.2.2.1 + (k + 2)), .ref (g.2.2.1 + (k + 7)), .ref (g.2.2.1 + (k + 13)), .ref (g.2.2.1 + (k + 18)), .null, .int 0, .int 0, .int 0]) := by rw [hE14, va_up_self]
  have f1_E14 : E14 (k + 1) = .inl (g.2.1 2, 8, .inr (.inr (.inr (.inr (fun _ => none))))) := by rw [hE14, va_up_ne _ _ (by omega)]; exact f1_E13
  have f2_E14 : E14 (k + 2) = .inr (5, oj5 g (k + 2)) := by rw [hE14, va_up_ne _ _ (by omega)]; exact f2_E13
  have f7_E14 : E14 (k + 7) = .inr (1, oj1 g (k + 7)) := by rw [hE14, va_up_ne _ _ (by omega)]; exact f7_E13
  have f13_E14 : E14 (k + 13) = .inr (3, oj3 g (k + 13)) := by rw [hE14, va_up_ne _ _ (by omega)]; exact f13_E13
  have f18_E14 : E14 (k + 18) = .inr (6, oj6 g (k + 18)) := by rw [hE14, va_up_ne _ _ (by omega)]; exact f18_E13
  refine lv_aload_n hx hb dX7_init_57 rfl (lv_at hl 0 rfl) ?_
  refine lv_bipush (v := (60 : Int32)) hx hb dX7_init_58 (by decide +kernel) ?_
  refine n_newb hx hb hts hK.1 hP hS q1_219 (by decide) (N := 60) rfl (Nat.le_of_ble_eq_true rfl) (Nat.le_of_ble_eq_true rfl) (Nat.le_of_ble_eq_true rfl) dX7_init_60 (fun H hP hS => ?_)
  refine W.widen (k := 22) (n := 1698) (Nat.le_of_ble_eq_true rfl) (Nat.le_of_ble_eq_true rfl) ?_
  obtain ⟨E15, hE15⟩ : ∃ F, F = va_up E14 (k + 22) (.inl (g.2.1 0, 60, .inl (fun _ => 0))) := ⟨_, rfl⟩
  have hP : Pn g (k + 23) E15 H := by rw [hE15]; exact hP
  have f0_E15 : E15 (k + 0) = .inr (7, [.ref (g.2.2.1 + (k + 1)), .ref (g.2.2.1 + (k + 2)), .ref (g.2.2.1 + (k + 7)), .ref (g.2.2.1 + (k + 13)), .ref (g.2.2.1 + (k + 18)), .null, .int 0, .int 0, .int 0]) := by rw [hE15, va_up_ne _ _ (by omega)]; exact f0_E14
  have f1_E15 : E15 (k + 1) = .inl (g.2.1 2, 8, .inr (.inr (.inr (.inr (fun _ => none))))) := by rw [hE15, va_up_ne _ _ (by omega)]; exact f1_E14
  have f2_E15 : E15 (k + 2) = .inr (5, oj5 g (k + 2)) := by rw [hE15, va_up_ne _ _ (by omega)]; exact f2_E14
  have f7_E15 : E15 (k + 7) = .inr (1, oj1 g (k + 7)) := by rw [hE15, va_up_ne _ _ (by omega)]; exact f7_E14
  have f13_E15 : E15 (k + 13) = .inr (3, oj3 g (k + 13)) := by rw [hE15, va_up_ne _ _ (by omega)]; exact f13_E14
  have f18_E15 : E15 (k + 18) = .inr (6, oj6 g (k + 18)) := by rw [hE15, va_up_ne _ _ (by omega)]; exact f18_E14
  have f22_E15 : E15 (k + 22) = .inl (g.2.1 0, 60, .inl (fun _ => 0)) := by rw [hE15, va_up_self]
  refine n_putF hx hb hown hts hK.1 hP hS hin inu7 tyX7 tyX7_ok nmX7 (k := k + 0) (by omega) f0_E15 rfl 5 (by decide) q1_230 rfl rfl rfl rfl (Nat.le_of_ble_eq_true rfl) (fs2 := [.ref (g.2.2.1 + (k + 1)), .ref (g.2.2.1 + (k + 2)), .ref (g.2.2.1 + (k + 7)), .ref (g.2.2.1 + (k + 13)), .ref (g.2.2.1 + (k + 18)), .ref (g.2.2.1 + (k + 22)), .int 0, .int 0, .int 0]) rfl dX7_init_62 (fun H locs hP hS => ?_)
  obtain ⟨E16, hE16⟩ : ∃ F, F = va_up E15 (k + 0) (.inr (7, [.ref (g.2.2.1 + (k + 1)), .ref (g.2.2.1 + (k + 2)), .ref (g.2.2.1 + (k + 7)), .ref (g.2.2.1 + (k + 13)), .ref (g.2.2.1 + (k + 18)), .ref (g.2.2.1 + (k + 22)), .int 0, .int 0, .int 0])) := ⟨_, rfl⟩
  have hP : Pn g (k + 23) E16 H := by rw [hE16]; exact hP
  have f0_E16 : E16 (k + 0) = .inr (7, [.ref (g.2.2.1 + (k + 1)), .ref (g.2.2.1 + (k + 2)), .ref (g.2.2.1 + (k + 7)), .ref (g.2.2.1 + (k + 13)), .ref (g.2.2.1 + (k + 18)), .ref (g.2.2.1 + (k + 22)), .int 0, .int 0, .int 0]) := by rw [hE16, va_up_self]
  have f1_E16 : E16 (k + 1) = .inl (g.2.1 2, 8, .inr (.inr (.inr (.inr (fun _ => none))))) := by rw [hE16, va_up_ne _ _ (by omega)]; exact f1_E15
  have f2_E16 : E16 (k + 2) = .inr (5, oj5 g (k + 2)) := by rw [hE16, va_up_ne _ _ (by omega)]; exact f2_E15
  have f7_E16 : E16 (k + 7) = .inr (1, oj1 g (k + 7)) := by rw [hE16, va_up_ne _ _ (by omega)]; exact f7_E15
  have f13_E16 : E16 (k + 13) = .inr (3, oj3 g (k + 13)) := by rw [hE16, va_up_ne _ _ (by omega)]; exact f13_E15
  have f18_E16 : E16 (k + 18) = .inr (6, oj6 g (k + 18)) := by rw [hE16, va_up_ne _ _ (by omega)]; exact f18_E15
  refine lv_iconst (v := (0 : Int32)) hx hb dX7_init_65 rfl ?_
  refine lv_istore_n (lv' := [(1, .int (0 : Int32)), (0, .ref (g.2.2.1 + (k + 0)))]) hx hb dX7_init_66 rfl hl (by decide) rfl (fun ls hl => ?_)
  refine lv_iload_n hx hb dX7_init_67 rfl (lv_at hl 0 rfl) ?_
  refine lv_bipush (v := (8 : Int32)) hx hb dX7_init_68 (by decide +kernel) ?_
  refine lv_icmp_ge (tgt := 92) hx hb dX7_init_70 (by decide) (fun c => absurd c (by decide)) (fun _ => ?_)
  refine lv_aload_n hx hb dX7_init_73 rfl (lv_at hl 1 rfl) ?_
  refine va_get hx hb hts inu7 hown hK.1 hP.1 (k + 0) ((Wn_get (by omega)).trans (by rw [f0_E16])) rfl 0 (by decide) (hts _ q1_220) (fun _ h9 => h9) (v := .ref (g.2.2.1 + (k + 1))) rfl dX7_init_74 ?_
  refine lv_iload_n hx hb dX7_init_77 rfl (lv_at hl 0 rfl) ?_
  refine n_new hx hb hown hts hK.1 hP hS (ci := 2) (fs := [.null, .int 0, .int 0, .int 0, .int 0, .int 0, .int 0, .int 0, .int 0, .int 0, .int 0, .int 0, .int 0, .int 0, .int 0]) inu2 tyX2 tyX2_ok q1_29 q1_134 q1_7 rfl (fun j hj => by rcases (show j = 0 ∨ j = 1 ∨ j = 2 ∨ j = 3 ∨ j = 4 ∨ j = 5 ∨ j = 6 ∨ j = 7 ∨ j = 8 ∨ j = 9 ∨ j = 10 ∨ j = 11 ∨ j = 12 ∨ j = 13 ∨ j = 14 by omega) with rfl | rfl | rfl | rfl | rfl | rfl | rfl | rfl | rfl | rfl | rfl | rfl | rfl | rfl | rfl <;> rfl) (Nat.le_of_ble_eq_true rfl) (Nat.le_of_ble_eq_true rfl) dX7_init_78 (fun H hP hS => ?_)
  refine W.widen (k := 23) (n := 1713) (Nat.le_of_ble_eq_true rfl) (Nat.le_of_ble_eq_true rfl) ?_
  obtain ⟨E17, hE17⟩ : ∃ F, F = va_up E16 (k + 23) (.inr (2, [.null, .int 0, .int 0, .int 0, .int 0, .int 0, .int 0, .int 0, .int 0, .int 0, .int 0, .int 0, .int 0, .int 0, .int 0])) := ⟨_, rfl⟩
  have hP : Pn g (k + 24) E17 H := by rw [hE17]; exact hP
  have f0_E17 : E17 (k + 0) = .inr (7, [.ref (g.2.2.1 + (k + 1)), .ref (g.2.2.1 + (k + 2)), .ref (g.2.2.1 + (k + 7)), .ref (g.2.2.1 + (k + 13)), .ref (g.2.2.1 + (k + 18)), .ref (g.2.2.1 + (k + 22)), .int 0, .int 0, .int 0]) := by rw [hE17, va_up_ne _ _ (by omega)]; exact f0_E16
  have f1_E17 : E17 (k + 1) = .inl (g.2.1 2, 8, .inr (.inr (.inr (.inr (fun _ => none))))) := by rw [hE17, va_up_ne _ _ (by omega)]; exact f1_E16
  have f2_E17 : E17 (k + 2) = .inr (5, oj5 g (k + 2)) := by rw [hE17, va_up_ne _ _ (by omega)]; exact f2_E16
  have f7_E17 : E17 (k + 7) = .inr (1, oj1 g (k + 7)) := by rw [hE17, va_up_ne _ _ (by omega)]; exact f7_E16
  have f13_E17 : E17 (k + 13) = .inr (3, oj3 g (k + 13)) := by rw [hE17, va_up_ne _ _ (by omega)]; exact f13_E16
  have f18_E17 : E17 (k + 18) = .inr (6, oj6 g (k + 18)) := by rw [hE17, va_up_ne _ _ (by omega)]; exact f18_E16
  have f23_E17 : E17 (k + 23) = .inr (2, [.null, .int 0, .int 0, .int 0, .int 0, .int 0, .int 0, .int 0, .int 0, .int 0, .int 0, .int 0, .int 0, .int 0, .int 0]) := by rw [hE17, va_up_self]
  refine lv_dup hx hb dX7_init_81 rfl ?_
  refine n_callIN hx hb hml hown hts hK (rest := [.ref (g.2.2.1 + (k + 23)), .int (0 : Int32), .ref (g.2.2.1 + (k + 1))]) (k := k + 23) (i_X2 l g (k + 23) E17 f23_E17) q1_137 (by decide +kernel) q1_136 q1_7 (by decide +kernel) (by decide +kernel) ⟨rfl, rfl⟩ ⟨(Nat.le_of_ble_eq_true rfl), (Nat.le_of_ble_eq_true rfl)⟩ hP hS hl.1 rfl (Nat.le_of_ble_eq_true rfl) dX7_init_82 ⟨(Nat.le_of_ble_eq_true rfl), (Nat.le_of_ble_eq_true rfl)⟩ (fun H locs hP hS => ?_)
  refine W.widen (k := 24) (n := 1737) (Nat.le_of_ble_eq_true rfl) (Nat.le_of_ble_eq_true rfl) ?_
  obtain ⟨E18, hE18⟩ : ∃ F, F = mk2 g E17 (k + 23) := ⟨_, rfl⟩
  have hP : Pn g (k + 25) E18 H := by rw [hE18]; exact hP
  have f0_E18 : E18 (k + 0) = .inr (7, [.ref (g.2.2.1 + (k + 1)), .ref (g.2.2.1 + (k + 2)), .ref (g.2.2.1 + (k + 7)), .ref (g.2.2.1 + (k + 13)), .ref (g.2.2.1 + (k + 18)), .ref (g.2.2.1 + (k + 22)), .int 0, .int 0, .int 0]) := by rw [hE18, mk2_lo g E17 (by omega)]; exact f0_E17
  have f1_E18 : E18 (k + 1) = .inl (g.2.1 2, 8, .inr (.inr (.inr (.inr (fun _ => none))))) := by rw [hE18, mk2_lo g E17 (by omega)]; exact f1_E17
  have f2_E18 : E18 (k + 2) = .inr (5, oj5 g (k + 2)) := by rw [hE18, mk2_lo g E17 (by omega)]; exact f2_E17
  have f7_E18 : E18 (k + 7) = .inr (1, oj1 g (k + 7)) := by rw [hE18, mk2_lo g E17 (by omega)]; exact f7_E17
  have f13_E18 : E18 (k + 13) = .inr (3, oj3 g (k + 13)) := by rw [hE18, mk2_lo g E17 (by omega)]; exact f13_E17
  have f18_E18 : E18 (k + 18) = .inr (6, oj6 g (k + 18)) := by rw [hE18, mk2_lo g E17 (by omega)]; exact f18_E17
  have f23_E18 : E18 (k + 23) = .inr (2, oj2 g (k + 23)) := by rw [hE18, mk2_at]
  refine n_aast hx hb hK.1 hP hS (k := k + 1) (kv := k + 23) (ci := 2) (t := 2) (by omega) f1_E18 (by omega) f23_E18 rfl rfl (j := 0) (by unfold vp_in; decide) rfl dX7_init_85 (fun H locs hP hS => ?_)
  obtain ⟨E19, hE19⟩ : ∃ F, F = va_up E18 (k + 1) (.inl (g.2.1 2, 8, .inr (.inr (.inr (.inr (va_up (fun _ => none) 0 (some (g.2.2.1 + (k + 23))))))))) := ⟨_, rfl⟩
  have hP : Pn g (k + 25) E19 H := by rw [hE19]; exact hP
  have f0_E19 : E19 (k + 0) = .inr (7, [.ref (g.2.2.1 + (k + 1)), .ref (g.2.2.1 + (k + 2)), .ref (g.2.2.1 + (k + 7)), .ref (g.2.2.1 + (k + 13)), .ref (g.2.2.1 + (k + 18)), .ref (g.2.2.1 + (k + 22)), .int 0, .int 0, .int 0]) := by rw [hE19, va_up_ne _ _ (by omega)]; exact f0_E18
  have f1_E19 : E19 (k + 1) = .inl (g.2.1 2, 8, .inr (.inr (.inr (.inr (va_up (fun _ => none) 0 (some (g.2.2.1 + (k + 23)))))))) := by rw [hE19, va_up_self]
  have f2_E19 : E19 (k + 2) = .inr (5, oj5 g (k + 2)) := by rw [hE19, va_up_ne _ _ (by omega)]; exact f2_E18
  have f7_E19 : E19 (k + 7) = .inr (1, oj1 g (k + 7)) := by rw [hE19, va_up_ne _ _ (by omega)]; exact f7_E18
  have f13_E19 : E19 (k + 13) = .inr (3, oj3 g (k + 13)) := by rw [hE19, va_up_ne _ _ (by omega)]; exact f13_E18
  have f18_E19 : E19 (k + 18) = .inr (6, oj6 g (k + 18)) := by rw [hE19, va_up_ne _ _ (by omega)]; exact f18_E18
  refine lv_iinc (v := (1 : Int32)) (lv' := [(1, .int (1 : Int32)), (0, .ref (g.2.2.1 + (k + 0)))]) hx hb dX7_init_86 hl (k := 0) rfl (by decide) (by decide) rfl (fun ls hl => ?_)
  refine lv_goto (tgt := 67) hx hb dX7_init_89 (by decide) ?_
  refine lv_iload_n hx hb dX7_init_67 rfl (lv_at hl 0 rfl) ?_
  refine lv_bipush (v := (8 : Int32)) hx hb dX7_init_68 (by decide +kernel) ?_
  refine lv_icmp_ge (tgt := 92) hx hb dX7_init_70 (by decide) (fun c => absurd c (by decide)) (fun _ => ?_)
  refine lv_aload_n hx hb dX7_init_73 rfl (lv_at hl 1 rfl) ?_
  refine va_get hx hb hts inu7 hown hK.1 hP.1 (k + 0) ((Wn_get (by omega)).trans (by rw [f0_E19])) rfl 0 (by decide) (hts _ q1_220) (fun _ h9 => h9) (v := .ref (g.2.2.1 + (k + 1))) rfl dX7_init_74 ?_
  refine lv_iload_n hx hb dX7_init_77 rfl (lv_at hl 0 rfl) ?_
  refine n_new hx hb hown hts hK.1 hP hS (ci := 2) (fs := [.null, .int 0, .int 0, .int 0, .int 0, .int 0, .int 0, .int 0, .int 0, .int 0, .int 0, .int 0, .int 0, .int 0, .int 0]) inu2 tyX2 tyX2_ok q1_29 q1_134 q1_7 rfl (fun j hj => by rcases (show j = 0 ∨ j = 1 ∨ j = 2 ∨ j = 3 ∨ j = 4 ∨ j = 5 ∨ j = 6 ∨ j = 7 ∨ j = 8 ∨ j = 9 ∨ j = 10 ∨ j = 11 ∨ j = 12 ∨ j = 13 ∨ j = 14 by omega) with rfl | rfl | rfl | rfl | rfl | rfl | rfl | rfl | rfl | rfl | rfl | rfl | rfl | rfl | rfl <;> rfl) (Nat.le_of_ble_eq_true rfl) (Nat.le_of_ble_eq_true rfl) dX7_init_78 (fun H hP hS => ?_)
  refine W.widen (k := 25) (n := 1752) (Nat.le_of_ble_eq_true rfl) (Nat.le_of_ble_eq_true rfl) ?_
  obtain ⟨E20, hE20⟩ : ∃ F, F = va_up E19 (k + 25) (.inr (2, [.null, .int 0, .int 0, .int 0, .int 0, .int 0, .int 0, .int 0, .int 0, .int 0, .int 0, .int 0, .int 0, .int 0, .int 0])) := ⟨_, rfl⟩
  have hP : Pn g (k + 26) E20 H := by rw [hE20]; exact hP
  have f0_E20 : E20 (k + 0) = .inr (7, [.ref (g.2.2.1 + (k + 1)), .ref (g.2.2.1 + (k + 2)), .ref (g.2.2.1 + (k + 7)), .ref (g.2.2.1 + (k + 13)), .ref (g.2.2.1 + (k + 18)), .ref (g.2.2.1 + (k + 22)), .int 0, .int 0, .int 0]) := by rw [hE20, va_up_ne _ _ (by omega)]; exact f0_E19
  have f1_E20 : E20 (k + 1) = .inl (g.2.1 2, 8, .inr (.inr (.inr (.inr (va_up (fun _ => none) 0 (some (g.2.2.1 + (k + 23)))))))) := by rw [hE20, va_up_ne _ _ (by omega)]; exact f1_E19
  have f2_E20 : E20 (k + 2) = .inr (5, oj5 g (k + 2)) := by rw [hE20, va_up_ne _ _ (by omega)]; exact f2_E19
  have f7_E20 : E20 (k + 7) = .inr (1, oj1 g (k + 7)) := by rw [hE20, va_up_ne _ _ (by omega)]; exact f7_E19
  have f13_E20 : E20 (k + 13) = .inr (3, oj3 g (k + 13)) := by rw [hE20, va_up_ne _ _ (by omega)]; exact f13_E19
  have f18_E20 : E20 (k + 18) = .inr (6, oj6 g (k + 18)) := by rw [hE20, va_up_ne _ _ (by omega)]; exact f18_E19
  have f25_E20 : E20 (k + 25) = .inr (2, [.null, .int 0, .int 0, .int 0, .int 0, .int 0, .int 0, .int 0, .int 0, .int 0, .int 0, .int 0, .int 0, .int 0, .int 0]) := by rw [hE20, va_up_self]
  refine lv_dup hx hb dX7_init_81 rfl ?_
  refine n_callIN hx hb hml hown hts hK (rest := [.ref (g.2.2.1 + (k + 25)), .int (1 : Int32), .ref (g.2.2.1 + (k + 1))]) (k := k + 25) (i_X2 l g (k + 25) E20 f25_E20) q1_137 (by decide +kernel) q1_136 q1_7 (by decide +kernel) (by decide +kernel) ⟨rfl, rfl⟩ ⟨(Nat.le_of_ble_eq_true rfl), (Nat.le_of_ble_eq_true rfl)⟩ hP hS hl.1 rfl (Nat.le_of_ble_eq_true rfl) dX7_init_82 ⟨(Nat.le_of_ble_eq_true rfl), (Nat.le_of_ble_eq_true rfl)⟩ (fun H locs hP hS => ?_)
  refine W.widen (k := 26) (n := 1776) (Nat.le_of_ble_eq_true rfl) (Nat.le_of_ble_eq_true rfl) ?_
  obtain ⟨E21, hE21⟩ : ∃ F, F = mk2 g E20 (k + 25) := ⟨_, rfl⟩
  have hP : Pn g (k + 27) E21 H := by rw [hE21]; exact hP
  have f0_E21 : E21 (k + 0) = .inr (7, [.ref (g.2.2.1 + (k + 1)), .ref (g.2.2.1 + (k + 2)), .ref (g.2.2.1 + (k + 7)), .ref (g.2.2.1 + (k + 13)), .ref (g.2.2.1 + (k + 18)), .ref (g.2.2.1 + (k + 22)), .int 0, .int 0, .int 0]) := by rw [hE21, mk2_lo g E20 (by omega)]; exact f0_E20
  have f1_E21 : E21 (k + 1) = .inl (g.2.1 2, 8, .inr (.inr (.inr (.inr (va_up (fun _ => none) 0 (some (g.2.2.1 + (k + 23)))))))) := by rw [hE21, mk2_lo g E20 (by omega)]; exact f1_E20
  have f2_E21 : E21 (k + 2) = .inr (5, oj5 g (k + 2)) := by rw [hE21, mk2_lo g E20 (by omega)]; exact f2_E20
  have f7_E21 : E21 (k + 7) = .inr (1, oj1 g (k + 7)) := by rw [hE21, mk2_lo g E20 (by omega)]; exact f7_E20
  have f13_E21 : E21 (k + 13) = .inr (3, oj3 g (k + 13)) := by rw [hE21, mk2_lo g E20 (by omega)]; exact f13_E20
  have f18_E21 : E21 (k + 18) = .inr (6, oj6 g (k + 18)) := by rw [hE21, mk2_lo g E20 (by omega)]; exact f18_E20
  have f25_E21 : E21 (k + 25) = .inr (2, oj2 g (k + 25)) := by rw [hE21, mk2_at]
  refine n_aast hx hb hK.1 hP hS (k := k + 1) (kv := k + 25) (ci := 2) (t := 2) (by omega) f1_E21 (by omega) f25_E21 rfl rfl (j := 1) (by unfold vp_in; decide) rfl dX7_init_85 (fun H locs hP hS => ?_)
  obtain ⟨E22, hE22⟩ : ∃ F, F = va_up E21 (k + 1) (.inl (g.2.1 2, 8, .inr (.inr (.inr (.inr (va_up (va_up (fun _ => none) 0 (some (g.2.2.1 + (k + 23)))) 1 (some (g.2.2.1 + (k + 25))))))))) := ⟨_, rfl⟩
  have hP : Pn g (k + 27) E22 H := by rw [hE22]; exact hP
  have f0_E22 : E22 (k + 0) = .inr (7, [.ref (g.2.2.1 + (k + 1)), .ref (g.2.2.1 + (k + 2)), .ref (g.2.2.1 + (k + 7)), .ref (g.2.2.1 + (k + 13)), .ref (g.2.2.1 + (k + 18)), .ref (g.2.2.1 + (k + 22)), .int 0, .int 0, .int 0]) := by rw [hE22, va_up_ne _ _ (by omega)]; exact f0_E21
  have f1_E22 : E22 (k + 1) = .inl (g.2.1 2, 8, .inr (.inr (.inr (.inr (va_up (va_up (fun _ => none) 0 (some (g.2.2.1 + (k + 23)))) 1 (some (g.2.2.1 + (k + 25)))))))) := by rw [hE22, va_up_self]
  have f2_E22 : E22 (k + 2) = .inr (5, oj5 g (k + 2)) := by rw [hE22, va_up_ne _ _ (by omega)]; exact f2_E21
  have f7_E22 : E22 (k + 7) = .inr (1, oj1 g (k + 7)) := by rw [hE22, va_up_ne _ _ (by omega)]; exact f7_E21
  have f13_E22 : E22 (k + 13) = .inr (3, oj3 g (k + 13)) := by rw [hE22, va_up_ne _ _ (by omega)]; exact f13_E21
  have f18_E22 : E22 (k + 18) = .inr (6, oj6 g (k + 18)) := by rw [hE22, va_up_ne _ _ (by omega)]; exact f18_E21
  refine lv_iinc (v := (2 : Int32)) (lv' := [(1, .int (2 : Int32)), (0, .ref (g.2.2.1 + (k + 0)))]) hx hb dX7_init_86 hl (k := 0) rfl (by decide) (by decide) rfl (fun ls hl => ?_)
  refine lv_goto (tgt := 67) hx hb dX7_init_89 (by decide) ?_
  refine lv_iload_n hx hb dX7_init_67 rfl (lv_at hl 0 rfl) ?_
  refine lv_bipush (v := (8 : Int32)) hx hb dX7_init_68 (by decide +kernel) ?_
  refine lv_icmp_ge (tgt := 92) hx hb dX7_init_70 (by decide) (fun c => absurd c (by decide)) (fun _ => ?_)
  refine lv_aload_n hx hb dX7_init_73 rfl (lv_at hl 1 rfl) ?_
  refine va_get hx hb hts inu7 hown hK.1 hP.1 (k + 0) ((Wn_get (by omega)).trans (by rw [f0_E22])) rfl 0 (by decide) (hts _ q1_220) (fun _ h9 => h9) (v := .ref (g.2.2.1 + (k + 1))) rfl dX7_init_74 ?_
  refine lv_iload_n hx hb dX7_init_77 rfl (lv_at hl 0 rfl) ?_
  refine n_new hx hb hown hts hK.1 hP hS (ci := 2) (fs := [.null, .int 0, .int 0, .int 0, .int 0, .int 0, .int 0, .int 0, .int 0, .int 0, .int 0, .int 0, .int 0, .int 0, .int 0]) inu2 tyX2 tyX2_ok q1_29 q1_134 q1_7 rfl (fun j hj => by rcases (show j = 0 ∨ j = 1 ∨ j = 2 ∨ j = 3 ∨ j = 4 ∨ j = 5 ∨ j = 6 ∨ j = 7 ∨ j = 8 ∨ j = 9 ∨ j = 10 ∨ j = 11 ∨ j = 12 ∨ j = 13 ∨ j = 14 by omega) with rfl | rfl | rfl | rfl | rfl | rfl | rfl | rfl | rfl | rfl | rfl | rfl | rfl | rfl | rfl <;> rfl) (Nat.le_of_ble_eq_true rfl) (Nat.le_of_ble_eq_true rfl) dX7_init_78 (fun H hP hS => ?_)
  refine W.widen (k := 27) (n := 1791) (Nat.le_of_ble_eq_true rfl) (Nat.le_of_ble_eq_true rfl) ?_
  obtain ⟨E23, hE23⟩ : ∃ F, F = va_up E22 (k + 27) (.inr (2, [.null, .int 0, .int 0, .int 0, .int 0, .int 0, .int 0, .int 0, .int 0, .int 0, .int 0, .int 0, .int 0, .int 0, .int 0])) := ⟨_, rfl⟩
  have hP : Pn g (k + 28) E23 H := by rw [hE23]; exact hP
  have f0_E23 : E23 (k + 0) = .inr (7, [.ref (g.2.2.1 + (k + 1)), .ref (g.2.2.1 + (k + 2)), .ref (g.2.2.1 + (k + 7)), .ref (g.2.2.1 + (k + 13)), .ref (g.2.2.1 + (k + 18)), .ref (g.2.2.1 + (k + 22)), .int 0, .int 0, .int 0]) := by rw [hE23, va_up_ne _ _ (by omega)]; exact f0_E22
  have f1_E23 : E23 (k + 1) = .inl (g.2.1 2, 8, .inr (.inr (.inr (.inr (va_up (va_up (fun _ => none) 0 (some (g.2.2.1 + (k + 23)))) 1 (some (g.2.2.1 + (k + 25)))))))) := by rw [hE23, va_up_ne _ _ (by omega)]; exact f1_E22
  have f2_E23 : E23 (k + 2) = .inr (5, oj5 g (k + 2)) := by rw [hE23, va_up_ne _ _ (by omega)]; exact f2_E22
  have f7_E23 : E23 (k + 7) = .inr (1, oj1 g (k + 7)) := by rw [hE23, va_up_ne _ _ (by omega)]; exact f7_E22
  have f13_E23 : E23 (k + 13) = .inr (3, oj3 g (k + 13)) := by rw [hE23, va_up_ne _ _ (by omega)]; exact f13_E22
  have f18_E23 : E23 (k + 18) = .inr (6, oj6 g (k + 18)) := by rw [hE23, va_up_ne _ _ (by omega)]; exact f18_E22
  have f27_E23 : E23 (k + 27) = .inr (2, [.null, .int 0, .int 0, .int 0, .int 0, .int 0, .int 0, .int 0, .int 0, .int 0, .int 0, .int 0, .int 0, .int 0, .int 0]) := by rw [hE23, va_up_self]
  refine lv_dup hx hb dX7_init_81 rfl ?_
  refine n_callIN hx hb hml hown hts hK (rest := [.ref (g.2.2.1 + (k + 27)), .int (2 : Int32), .ref (g.2.2.1 + (k + 1))]) (k := k + 27) (i_X2 l g (k + 27) E23 f27_E23) q1_137 (by decide +kernel) q1_136 q1_7 (by decide +kernel) (by decide +kernel) ⟨rfl, rfl⟩ ⟨(Nat.le_of_ble_eq_true rfl), (Nat.le_of_ble_eq_true rfl)⟩ hP hS hl.1 rfl (Nat.le_of_ble_eq_true rfl) dX7_init_82 ⟨(Nat.le_of_ble_eq_true rfl), (Nat.le_of_ble_eq_true rfl)⟩ (fun H locs hP hS => ?_)
  refine W.widen (k := 28) (n := 1815) (Nat.le_of_ble_eq_true rfl) (Nat.le_of_ble_eq_true rfl) ?_
  obtain ⟨E24, hE24⟩ : ∃ F, F = mk2 g E23 (k + 27) := ⟨_, rfl⟩
  have hP : Pn g (k + 29) E24 H := by rw [hE24]; exact hP
  have f0_E24 : E24 (k + 0) = .inr (7, [.ref (g.2.2.1 + (k + 1)), .ref (g.2.2.1 + (k + 2)), .ref (g.2.2.1 + (k + 7)), .ref (g.2.2.1 + (k + 13)), .ref (g.2.2.1 + (k + 18)), .ref (g.2.2.1 + (k + 22)), .int 0, .int 0, .int 0]) := by rw [hE24, mk2_lo g E23 (by omega)]; exact f0_E23
  have f1_E24 : E24 (k + 1) = .inl (g.2.1 2, 8, .inr (.inr (.inr (.inr (va_up (va_up (fun _ => none) 0 (some (g.2.2.1 + (k + 23)))) 1 (some (g.2.2.1 + (k + 25)))))))) := by rw [hE24, mk2_lo g E23 (by omega)]; exact f1_E23
  have f2_E24 : E24 (k + 2) = .inr (5, oj5 g (k + 2)) := by rw [hE24, mk2_lo g E23 (by omega)]; exact f2_E23
  have f7_E24 : E24 (k + 7) = .inr (1, oj1 g (k + 7)) := by rw [hE24, mk2_lo g E23 (by omega)]; exact f7_E23
  have f13_E24 : E24 (k + 13) = .inr (3, oj3 g (k + 13)) := by rw [hE24, mk2_lo g E23 (by omega)]; exact f13_E23
  have f18_E24 : E24 (k + 18) = .inr (6, oj6 g (k + 18)) := by rw [hE24, mk2_lo g E23 (by omega)]; exact f18_E23
  have f27_E24 : E24 (k + 27) = .inr (2, oj2 g (k + 27)) := by rw [hE24, mk2_at]
  refine n_aast hx hb hK.1 hP hS (k := k + 1) (kv := k + 27) (ci := 2) (t := 2) (by omega) f1_E24 (by omega) f27_E24 rfl rfl (j := 2) (by unfold vp_in; decide) rfl dX7_init_85 (fun H locs hP hS => ?_)
  obtain ⟨E25, hE25⟩ : ∃ F, F = va_up E24 (k + 1) (.inl (g.2.1 2, 8, .inr (.inr (.inr (.inr (va_up (va_up (va_up (fun _ => none) 0 (some (g.2.2.1 + (k + 23)))) 1 (some (g.2.2.1 + (k + 25)))) 2 (some (g.2.2.1 + (k + 27))))))))) := ⟨_, rfl⟩
  have hP : Pn g (k + 29) E25 H := by rw [hE25]; exact hP
  have f0_E25 : E25 (k + 0) = .inr (7, [.ref (g.2.2.1 + (k + 1)), .ref (g.2.2.1 + (k + 2)), .ref (g.2.2.1 + (k + 7)), .ref (g.2.2.1 + (k + 13)), .ref (g.2.2.1 + (k + 18)), .ref (g.2.2.1 + (k + 22)), .int 0, .int 0, .int 0]) := by rw [hE25, va_up_ne _ _ (by omega)]; exact f0_E24
  have f1_E25 : E25 (k + 1) = .inl (g.2.1 2, 8, .inr (.inr (.inr (.inr (va_up (va_up (va_up (fun _ => none) 0 (some (g.2.2.1 + (k + 23)))) 1 (some (g.2.2.1 + (k + 25)))) 2 (some (g.2.2.1 + (k + 27)))))))) := by rw [hE25, va_up_self]
  have f2_E25 : E25 (k + 2) = .inr (5, oj5 g (k + 2)) := by rw [hE25, va_up_ne _ _ (by omega)]; exact f2_E24
  have f7_E25 : E25 (k + 7) = .inr (1, oj1 g (k + 7)) := by rw [hE25, va_up_ne _ _ (by omega)]; exact f7_E24
  have f13_E25 : E25 (k + 13) = .inr (3, oj3 g (k + 13)) := by rw [hE25, va_up_ne _ _ (by omega)]; exact f13_E24
  have f18_E25 : E25 (k + 18) = .inr (6, oj6 g (k + 18)) := by rw [hE25, va_up_ne _ _ (by omega)]; exact f18_E24
  refine lv_iinc (v := (3 : Int32)) (lv' := [(1, .int (3 : Int32)), (0, .ref (g.2.2.1 + (k + 0)))]) hx hb dX7_init_86 hl (k := 0) rfl (by decide) (by decide) rfl (fun ls hl => ?_)
  refine lv_goto (tgt := 67) hx hb dX7_init_89 (by decide) ?_
  refine lv_iload_n hx hb dX7_init_67 rfl (lv_at hl 0 rfl) ?_
  refine lv_bipush (v := (8 : Int32)) hx hb dX7_init_68 (by decide +kernel) ?_
  refine lv_icmp_ge (tgt := 92) hx hb dX7_init_70 (by decide) (fun c => absurd c (by decide)) (fun _ => ?_)
  refine lv_aload_n hx hb dX7_init_73 rfl (lv_at hl 1 rfl) ?_
  refine va_get hx hb hts inu7 hown hK.1 hP.1 (k + 0) ((Wn_get (by omega)).trans (by rw [f0_E25])) rfl 0 (by decide) (hts _ q1_220) (fun _ h9 => h9) (v := .ref (g.2.2.1 + (k + 1))) rfl dX7_init_74 ?_
  refine lv_iload_n hx hb dX7_init_77 rfl (lv_at hl 0 rfl) ?_
  refine n_new hx hb hown hts hK.1 hP hS (ci := 2) (fs := [.null, .int 0, .int 0, .int 0, .int 0, .int 0, .int 0, .int 0, .int 0, .int 0, .int 0, .int 0, .int 0, .int 0, .int 0]) inu2 tyX2 tyX2_ok q1_29 q1_134 q1_7 rfl (fun j hj => by rcases (show j = 0 ∨ j = 1 ∨ j = 2 ∨ j = 3 ∨ j = 4 ∨ j = 5 ∨ j = 6 ∨ j = 7 ∨ j = 8 ∨ j = 9 ∨ j = 10 ∨ j = 11 ∨ j = 12 ∨ j = 13 ∨ j = 14 by omega) with rfl | rfl | rfl | rfl | rfl | rfl | rfl | rfl | rfl | rfl | rfl | rfl | rfl | rfl | rfl <;> rfl) (Nat.le_of_ble_eq_true rfl) (Nat.le_of_ble_eq_true rfl) dX7_init_78 (fun H hP hS => ?_)
  refine W.widen (k := 29) (n := 1830) (Nat.le_of_ble_eq_true rfl) (Nat.le_of_ble_eq_true rfl) ?_
  obtain ⟨E26, hE26⟩ : ∃ F, F = va_up E25 (k + 29) (.inr (2, [.null, .int 0, .int 0, .int 0, .int 0, .int 0, .int 0, .int 0, .int 0, .int 0, .int 0, .int 0, .int 0, .int 0, .int 0])) := ⟨_, rfl⟩
  have hP : Pn g (k + 30) E26 H := by rw [hE26]; exact hP
  have f0_E26 : E26 (k + 0) = .inr (7, [.ref (g.2.2.1 + (k + 1)), .ref (g.2.2.1 + (k + 2)), .ref (g.2.2.1 + (k + 7)), .ref (g.2.2.1 + (k + 13)), .ref (g.2.2.1 + (k + 18)), .ref (g.2.2.1 + (k + 22)), .int 0, .int 0, .int 0]) := by rw [hE26, va_up_ne _ _ (by omega)]; exact f0_E25
  have f1_E26 : E26 (k + 1) = .inl (g.2.1 2, 8, .inr (.inr (.inr (.inr (va_up (va_up (va_up (fun _ => none) 0 (some (g.2.2.1 + (k + 23)))) 1 (some (g.2.2.1 + (k + 25)))) 2 (some (g.2.2.1 + (k + 27)))))))) := by rw [hE26, va_up_ne _ _ (by omega)]; exact f1_E25
  have f2_E26 : E26 (k + 2) = .inr (5, oj5 g (k + 2)) := by rw [hE26, va_up_ne _ _ (by omega)]; exact f2_E25
  have f7_E26 : E26 (k + 7) = .inr (1, oj1 g (k + 7)) := by rw [hE26, va_up_ne _ _ (by omega)]; exact f7_E25
  have f13_E26 : E26 (k + 13) = .inr (3, oj3 g (k + 13)) := by rw [hE26, va_up_ne _ _ (by omega)]; exact f13_E25
  have f18_E26 : E26 (k + 18) = .inr (6, oj6 g (k + 18)) := by rw [hE26, va_up_ne _ _ (by omega)]; exact f18_E25
  have f29_E26 : E26 (k + 29) = .inr (2, [.null, .int 0, .int 0, .int 0, .int 0, .int 0, .int 0, .int 0, .int 0, .int 0, .int 0, .int 0, .int 0, .int 0, .int 0]) := by rw [hE26, va_up_self]
  refine lv_dup hx hb dX7_init_81 rfl ?_
  refine n_callIN hx hb hml hown hts hK (rest := [.ref (g.2.2.1 + (k + 29)), .int (3 : Int32), .ref (g.2.2.1 + (k + 1))]) (k := k + 29) (i_X2 l g (k + 29) E26 f29_E26) q1_137 (by decide +kernel) q1_136 q1_7 (by decide +kernel) (by decide +kernel) ⟨rfl, rfl⟩ ⟨(Nat.le_of_ble_eq_true rfl), (Nat.le_of_ble_eq_true rfl)⟩ hP hS hl.1 rfl (Nat.le_of_ble_eq_true rfl) dX7_init_82 ⟨(Nat.le_of_ble_eq_true rfl), (Nat.le_of_ble_eq_true rfl)⟩ (fun H locs hP hS => ?_)
  refine W.widen (k := 30) (n := 1854) (Nat.le_of_ble_eq_true rfl) (Nat.le_of_ble_eq_true rfl) ?_
  obtain ⟨E27, hE27⟩ : ∃ F, F = mk2 g E26 (k + 29) := ⟨_, rfl⟩
  have hP : Pn g (k + 31) E27 H := by rw [hE27]; exact hP
  have f0_E27 : E27 (k + 0) = .inr (7, [.ref (g.2.2.1 + (k + 1)), .ref (g.2.2.1 + (k + 2)), .ref (g.2.2.1 + (k + 7)), .ref (g.2.2.1 + (k + 13)), .ref (g.2.2.1 + (k + 18)), .ref (g.2.2.1 + (k + 22)), .int 0, .int 0, .int 0]) := by rw [hE27, mk2_lo g E26 (by omega)]; exact f0_E26
  have f1_E27 : E27 (k + 1) = .inl (g.2.1 2, 8, .inr (.inr (.inr (.inr (va_up (va_up (va_up (fun _ => none) 0 (some (g.2.2.1 + (k + 23)))) 1 (some (g.2.2.1 + (k + 25)))) 2 (some (g.2.2.1 + (k + 27)))))))) := by rw [hE27, mk2_lo g E26 (by omega)]; exact f1_E26
  have f2_E27 : E27 (k + 2) = .inr (5, oj5 g (k + 2)) := by rw [hE27, mk2_lo g E26 (by omega)]; exact f2_E26
  have f7_E27 : E27 (k + 7) = .inr (1, oj1 g (k + 7)) := by rw [hE27, mk2_lo g E26 (by omega)]; exact f7_E26
  have f13_E27 : E27 (k + 13) = .inr (3, oj3 g (k + 13)) := by rw [hE27, mk2_lo g E26 (by omega)]; exact f13_E26
  have f18_E27 : E27 (k + 18) = .inr (6, oj6 g (k + 18)) := by rw [hE27, mk2_lo g E26 (by omega)]; exact f18_E26
  have f29_E27 : E27 (k + 29) = .inr (2, oj2 g (k + 29)) := by rw [hE27, mk2_at]
  refine n_aast hx hb hK.1 hP hS (k := k + 1) (kv := k + 29) (ci := 2) (t := 2) (by omega) f1_E27 (by omega) f29_E27 rfl rfl (j := 3) (by unfold vp_in; decide) rfl dX7_init_85 (fun H locs hP hS => ?_)
  obtain ⟨E28, hE28⟩ : ∃ F, F = va_up E27 (k + 1) (.inl (g.2.1 2, 8, .inr (.inr (.inr (.inr (va_up (va_up (va_up (va_up (fun _ => none) 0 (some (g.2.2.1 + (k + 23)))) 1 (some (g.2.2.1 + (k + 25)))) 2 (some (g.2.2.1 + (k + 27)))) 3 (some (g.2.2.1 + (k + 29))))))))) := ⟨_, rfl⟩
  have hP : Pn g (k + 31) E28 H := by rw [hE28]; exact hP
  have f0_E28 : E28 (k + 0) = .inr (7, [.ref (g.2.2.1 + (k + 1)), .ref (g.2.2.1 + (k + 2)), .ref (g.2.2.1 + (k + 7)), .ref (g.2.2.1 + (k + 13)), .ref (g.2.2.1 + (k + 18)), .ref (g.2.2.1 + (k + 22)), .int 0, .int 0, .int 0]) := by rw [hE28, va_up_ne _ _ (by omega)]; exact f0_E27
  have f1_E28 : E28 (k + 1) = .inl (g.2.1 2, 8, .inr (.inr (.inr (.inr (va_up (va_up (va_up (va_up (fun _ => none) 0 (some (g.2.2.1 + (k + 23)))) 1 (some (g.2.2.1 + (k + 25)))) 2 (some (g.2.2.1 + (k + 27)))) 3 (some (g.2.2.1 + (k + 29)))))))) := by rw [hE28, va_up_self]
  have f2_E28 : E28 (k + 2) = .inr (5, oj5 g (k + 2)) := by rw [hE28, va_up_ne _ _ (by omega)]; exact f2_E27
  have f7_E28 : E28 (k + 7) = .inr (1, oj1 g (k + 7)) := by rw [hE28, va_up_ne _ _ (by omega)]; exact f7_E27
  have f13_E28 : E28 (k + 13) = .inr (3, oj3 g (k + 13)) := by rw [hE28, va_up_ne _ _ (by omega)]; exact f13_E27
  have f18_E28 : E28 (k + 18) = .inr (6, oj6 g (k + 18)) := by rw [hE28, va_up_ne _ _ (by omega)]; exact f18_E27
  refine lv_iinc (v := (4 : Int32)) (lv' := [(1, .int (4 : Int32)), (0, .ref (g.2.2.1 + (k + 0)))]) hx hb dX7_init_86 hl (k := 0) rfl (by decide) (by decide) rfl (fun ls hl => ?_)
  refine lv_goto (tgt := 67) hx hb dX7_init_89 (by decide) ?_
  refine lv_iload_n hx hb dX7_init_67 rfl (lv_at hl 0 rfl) ?_
  refine lv_bipush (v := (8 : Int32)) hx hb dX7_init_68 (by decide +kernel) ?_
  refine lv_icmp_ge (tgt := 92) hx hb dX7_init_70 (by decide) (fun c => absurd c (by decide)) (fun _ => ?_)
  refine lv_aload_n hx hb dX7_init_73 rfl (lv_at hl 1 rfl) ?_
  refine va_get hx hb hts inu7 hown hK.1 hP.1 (k + 0) ((Wn_get (by omega)).trans (by rw [f0_E28])) rfl 0 (by decide) (hts _ q1_220) (fun _ h9 => h9) (v := .ref (g.2.2.1 + (k + 1))) rfl dX7_init_74 ?_
  refine lv_iload_n hx hb dX7_init_77 rfl (lv_at hl 0 rfl) ?_
  refine n_new hx hb hown hts hK.1 hP hS (ci := 2) (fs := [.null, .int 0, .int 0, .int 0, .int 0, .int 0, .int 0, .int 0, .int 0, .int 0, .int 0, .int 0, .int 0, .int 0, .int 0]) inu2 tyX2 tyX2_ok q1_29 q1_134 q1_7 rfl (fun j hj => by rcases (show j = 0 ∨ j = 1 ∨ j = 2 ∨ j = 3 ∨ j = 4 ∨ j = 5 ∨ j = 6 ∨ j = 7 ∨ j = 8 ∨ j = 9 ∨ j = 10 ∨ j = 11 ∨ j = 12 ∨ j = 13 ∨ j = 14 by omega) with rfl | rfl | rfl | rfl | rfl | rfl | rfl | rfl | rfl | rfl | rfl | rfl | rfl | rfl | rfl <;> rfl) (Nat.le_of_ble_eq_true rfl) (Nat.le_of_ble_eq_true rfl) dX7_init_78 (fun H hP hS => ?_)
  refine W.widen (k := 31) (n := 1869) (Nat.le_of_ble_eq_true rfl) (Nat.le_of_ble_eq_true rfl) ?_
  obtain ⟨E29, hE29⟩ : ∃ F, F = va_up E28 (k + 31) (.inr (2, [.null, .int 0, .int 0, .int 0, .int 0, .int 0, .int 0, .int 0, .int 0, .int 0, .int 0, .int 0, .int 0, .int 0, .int 0])) := ⟨_, rfl⟩
  have hP : Pn g (k + 32) E29 H := by rw [hE29]; exact hP
  have f0_E29 : E29 (k + 0) = .inr (7, [.ref (g.2.2.1 + (k + 1)), .ref (g.2.2.1 + (k + 2)), .ref (g.2.2.1 + (k + 7)), .ref (g.2.2.1 + (k + 13)), .ref (g.2.2.1 + (k + 18)), .ref (g.2.2.1 + (k + 22)), .int 0, .int 0, .int 0]) := by rw [hE29, va_up_ne _ _ (by omega)]; exact f0_E28
  have f1_E29 : E29 (k + 1) = .inl (g.2.1 2, 8, .inr (.inr (.inr (.inr (va_up (va_up (va_up (va_up (fun _ => none) 0 (some (g.2.2.1 + (k + 23)))) 1 (some (g.2.2.1 + (k + 25)))) 2 (some (g.2.2.1 + (k + 27)))) 3 (some (g.2.2.1 + (k + 29)))))))) := by rw [hE29, va_up_ne _ _ (by omega)]; exact f1_E28
  have f2_E29 : E29 (k + 2) = .inr (5, oj5 g (k + 2)) := by rw [hE29, va_up_ne _ _ (by omega)]; exact f2_E28
  have f7_E29 : E29 (k + 7) = .inr (1, oj1 g (k + 7)) := by rw [hE29, va_up_ne _ _ (by omega)]; exact f7_E28
  have f13_E29 : E29 (k + 13) = .inr (3, oj3 g (k + 13)) := by rw [hE29, va_up_ne _ _ (by omega)]; exact f13_E28
  have f18_E29 : E29 (k + 18) = .inr (6, oj6 g (k + 18)) := by rw [hE29, va_up_ne _ _ (by omega)]; exact f18_E28
  have f31_E29 : E29 (k + 31) = .inr (2, [.null, .int 0, .int 0, .int 0, .int 0, .int 0, .int 0, .int 0, .int 0, .int 0, .int 0, .int 0, .int 0, .int 0, .int 0]) := by rw [hE29, va_up_self]
  refine lv_dup hx hb dX7_init_81 rfl ?_
  refine n_callIN hx hb hml hown hts hK (rest := [.ref (g.2.2.1 + (k + 31)), .int (4 : Int32), .ref (g.2.2.1 + (k + 1))]) (k := k + 31) (i_X2 l g (k + 31) E29 f31_E29) q1_137 (by decide +kernel) q1_136 q1_7 (by decide +kernel) (by decide +kernel) ⟨rfl, rfl⟩ ⟨(Nat.le_of_ble_eq_true rfl), (Nat.le_of_ble_eq_true rfl)⟩ hP hS hl.1 rfl (Nat.le_of_ble_eq_true rfl) dX7_init_82 ⟨(Nat.le_of_ble_eq_true rfl), (Nat.le_of_ble_eq_true rfl)⟩ (fun H locs hP hS => ?_)
  refine W.widen (k := 32) (n := 1893) (Nat.le_of_ble_eq_true rfl) (Nat.le_of_ble_eq_true rfl) ?_
  obtain ⟨E30, hE30⟩ : ∃ F, F = mk2 g E29 (k + 31) := ⟨_, rfl⟩
  have hP : Pn g (k + 33) E30 H := by rw [hE30]; exact hP
  have f0_E30 : E30 (k + 0) = .inr (7, [.ref (g.2.2.1 + (k + 1)), .ref (g.2.2.1 + (k + 2)), .ref (g.2.2.1 + (k + 7)), .ref (g.2.2.1 + (k + 13)), .ref (g.2.2.1 + (k + 18)), .ref (g.2.2.1 + (k + 22)), .int 0, .int 0, .int 0]) := by rw [hE30, mk2_lo g E29 (by omega)]; exact f0_E29
  have f1_E30 : E30 (k + 1) = .inl (g.2.1 2, 8, .inr (.inr (.inr (.inr (va_up (va_up (va_up (va_up (fun _ => none) 0 (some (g.2.2.1 + (k + 23)))) 1 (some (g.2.2.1 + (k + 25)))) 2 (some (g.2.2.1 + (k + 27)))) 3 (some (g.2.2.1 + (k + 29)))))))) := by rw [hE30, mk2_lo g E29 (by omega)]; exact f1_E29
  have f2_E30 : E30 (k + 2) = .inr (5, oj5 g (k + 2)) := by rw [hE30, mk2_lo g E29 (by omega)]; exact f2_E29
  have f7_E30 : E30 (k + 7) = .inr (1, oj1 g (k + 7)) := by rw [hE30, mk2_lo g E29 (by omega)]; exact f7_E29
  have f13_E30 : E30 (k + 13) = .inr (3, oj3 g (k + 13)) := by rw [hE30, mk2_lo g E29 (by omega)]; exact f13_E29
  have f18_E30 : E30 (k + 18) = .inr (6, oj6 g (k + 18)) := by rw [hE30, mk2_lo g E29 (by omega)]; exact f18_E29
  have f31_E30 : E30 (k + 31) = .inr (2, oj2 g (k + 31)) := by rw [hE30, mk2_at]
  refine n_aast hx hb hK.1 hP hS (k := k + 1) (kv := k + 31) (ci := 2) (t := 2) (by omega) f1_E30 (by omega) f31_E30 rfl rfl (j := 4) (by unfold vp_in; decide) rfl dX7_init_85 (fun H locs hP hS => ?_)
  obtain ⟨E31, hE31⟩ : ∃ F, F = va_up E30 (k + 1) (.inl (g.2.1 2, 8, .inr (.inr (.inr (.inr (va_up (va_up (va_up (va_up (va_up (fun _ => none) 0 (some (g.2.2.1 + (k + 23)))) 1 (some (g.2.2.1 + (k + 25)))) 2 (some (g.2.2.1 + (k + 27)))) 3 (some (g.2.2.1 + (k + 29)))) 4 (some (g.2.2.1 + (k + 31))))))))) := ⟨_, rfl⟩
  have hP : Pn g (k + 33) E31 H := by rw [hE31]; exact hP
  have f0_E31 : E31 (k + 0) = .inr (7, [.ref (g.2.2.1 + (k + 1)), .ref (g.2.2.1 + (k + 2)), .ref (g.2.2.1 + (k + 7)), .ref (g.2.2.1 + (k + 13)), .ref (g.2.2.1 + (k + 18)), .ref (g.2.2.1 + (k + 22)), .int 0, .int 0, .int 0]) := by rw [hE31, va_up_ne _ _ (by omega)]; exact f0_E30
  have f1_E31 : E31 (k + 1) = .inl (g.2.1 2, 8, .inr (.inr (.inr (.inr (va_up (va_up (va_up (va_up (va_up (fun _ => none) 0 (some (g.2.2.1 + (k + 23)))) 1 (some (g.2.2.1 + (k + 25)))) 2 (some (g.2.2.1 + (k + 27)))) 3 (some (g.2.2.1 + (k + 29)))) 4 (some (g.2.2.1 + (k + 31)))))))) := by rw [hE31, va_up_self]
  have f2_E31 : E31 (k + 2) = .inr (5, oj5 g (k + 2)) := by rw [hE31, va_up_ne _ _ (by omega)]; exact f2_E30
  have f7_E31 : E31 (k + 7) = .inr (1, oj1 g (k + 7)) := by rw [hE31, va_up_ne _ _ (by omega)]; exact f7_E30
  have f13_E31 : E31 (k + 13) = .inr (3, oj3 g (k + 13)) := by rw [hE31, va_up_ne _ _ (by omega)]; exact f13_E30
  have f18_E31 : E31 (k + 18) = .inr (6, oj6 g (k + 18)) := by rw [hE31, va_up_ne _ _ (by omega)]; exact f18_E30
  refine lv_iinc (v := (5 : Int32)) (lv' := [(1, .int (5 : Int32)), (0, .ref (g.2.2.1 + (k + 0)))]) hx hb dX7_init_86 hl (k := 0) rfl (by decide) (by decide) rfl (fun ls hl => ?_)
  refine lv_goto (tgt := 67) hx hb dX7_init_89 (by decide) ?_
  refine lv_iload_n hx hb dX7_init_67 rfl (lv_at hl 0 rfl) ?_
  refine lv_bipush (v := (8 : Int32)) hx hb dX7_init_68 (by decide +kernel) ?_
  refine lv_icmp_ge (tgt := 92) hx hb dX7_init_70 (by decide) (fun c => absurd c (by decide)) (fun _ => ?_)
  refine lv_aload_n hx hb dX7_init_73 rfl (lv_at hl 1 rfl) ?_
  refine va_get hx hb hts inu7 hown hK.1 hP.1 (k + 0) ((Wn_get (by omega)).trans (by rw [f0_E31])) rfl 0 (by decide) (hts _ q1_220) (fun _ h9 => h9) (v := .ref (g.2.2.1 + (k + 1))) rfl dX7_init_74 ?_
  refine lv_iload_n hx hb dX7_init_77 rfl (lv_at hl 0 rfl) ?_
  refine n_new hx hb hown hts hK.1 hP hS (ci := 2) (fs := [.null, .int 0, .int 0, .int 0, .int 0, .int 0, .int 0, .int 0, .int 0, .int 0, .int 0, .int 0, .int 0, .int 0, .int 0]) inu2 tyX2 tyX2_ok q1_29 q1_134 q1_7 rfl (fun j hj => by rcases (show j = 0 ∨ j = 1 ∨ j = 2 ∨ j = 3 ∨ j = 4 ∨ j = 5 ∨ j = 6 ∨ j = 7 ∨ j = 8 ∨ j = 9 ∨ j = 10 ∨ j = 11 ∨ j = 12 ∨ j = 13 ∨ j = 14 by omega) with rfl | rfl | rfl | rfl | rfl | rfl | rfl | rfl | rfl | rfl | rfl | rfl | rfl | rfl | rfl <;> rfl) (Nat.le_of_ble_eq_true rfl) (Nat.le_of_ble_eq_true rfl) dX7_init_78 (fun H hP hS => ?_)
  refine W.widen (k := 33) (n := 1908) (Nat.le_of_ble_eq_true rfl) (Nat.le_of_ble_eq_true rfl) ?_
  obtain ⟨E32, hE32⟩ : ∃ F, F = va_up E31 (k + 33) (.inr (2, [.null, .int 0, .int 0, .int 0, .int 0, .int 0, .int 0, .int 0, .int 0, .int 0, .int 0, .int 0, .int 0, .int 0, .int 0])) := ⟨_, rfl⟩
  have hP : Pn g (k + 34) E32 H := by rw [hE32]; exact hP
  have f0_E32 : E32 (k + 0) = .inr (7, [.ref (g.2.2.1 + (k + 1)), .ref (g.2.2.1 + (k + 2)), .ref (g.2.2.1 + (k + 7)), .ref (g.2.2.1 + (k + 13)), .ref (g.2.2.1 + (k + 18)), .ref (g.2.2.1 + (k + 22)), .int 0, .int 0, .int 0]) := by rw [hE32, va_up_ne _ _ (by omega)]; exact f0_E31
  have f1_E32 : E32 (k + 1) = .inl (g.2.1 2, 8, .inr (.inr (.inr (.inr (va_up (va_up (va_up (va_up (va_up (fun _ => none) 0 (some (g.2.2.1 + (k + 23)))) 1 (some (g.2.2.1 + (k + 25)))) 2 (some (g.2.2.1 + (k + 27)))) 3 (some (g.2.2.1 + (k + 29)))) 4 (some (g.2.2.1 + (k + 31)))))))) := by rw [hE32, va_up_ne _ _ (by omega)]; exact f1_E31
  have f2_E32 : E32 (k + 2) = .inr (5, oj5 g (k + 2)) := by rw [hE32, va_up_ne _ _ (by omega)]; exact f2_E31
  have f7_E32 : E32 (k + 7) = .inr (1, oj1 g (k + 7)) := by rw [hE32, va_up_ne _ _ (by omega)]; exact f7_E31
  have f13_E32 : E32 (k + 13) = .inr (3, oj3 g (k + 13)) := by rw [hE32, va_up_ne _ _ (by omega)]; exact f13_E31
  have f18_E32 : E32 (k + 18) = .inr (6, oj6 g (k + 18)) := by rw [hE32, va_up_ne _ _ (by omega)]; exact f18_E31
  have f33_E32 : E32 (k + 33) = .inr (2, [.null, .int 0, .int 0, .int 0, .int 0, .int 0, .int 0, .int 0, .int 0, .int 0, .int 0, .int 0, .int 0, .int 0, .int 0]) := by rw [hE32, va_up_self]
  refine lv_dup hx hb dX7_init_81 rfl ?_
  refine n_callIN hx hb hml hown hts hK (rest := [.ref (g.2.2.1 + (k + 33)), .int (5 : Int32), .ref (g.2.2.1 + (k + 1))]) (k := k + 33) (i_X2 l g (k + 33) E32 f33_E32) q1_137 (by decide +kernel) q1_136 q1_7 (by decide +kernel) (by decide +kernel) ⟨rfl, rfl⟩ ⟨(Nat.le_of_ble_eq_true rfl), (Nat.le_of_ble_eq_true rfl)⟩ hP hS hl.1 rfl (Nat.le_of_ble_eq_true rfl) dX7_init_82 ⟨(Nat.le_of_ble_eq_true rfl), (Nat.le_of_ble_eq_true rfl)⟩ (fun H locs hP hS => ?_)
  refine W.widen (k := 34) (n := 1932) (Nat.le_of_ble_eq_true rfl) (Nat.le_of_ble_eq_true rfl) ?_
  obtain ⟨E33, hE33⟩ : ∃ F, F = mk2 g E32 (k + 33) := ⟨_, rfl⟩
  have hP : Pn g (k + 35) E33 H := by rw [hE33]; exact hP
  have f0_E33 : E33 (k + 0) = .inr (7, [.ref (g.2.2.1 + (k + 1)), .ref (g.2.2.1 + (k + 2)), .ref (g.2.2.1 + (k + 7)), .ref (g.2.2.1 + (k + 13)), .ref (g.2.2.1 + (k + 18)), .ref (g.2.2.1 + (k + 22)), .int 0, .int 0, .int 0]) := by rw [hE33, mk2_lo g E32 (by omega)]; exact f0_E32
  have f1_E33 : E33 (k + 1) = .inl (g.2.1 2, 8, .inr (.inr (.inr (.inr (va_up (va_up (va_up (va_up (va_up (fun _ => none) 0 (some (g.2.2.1 + (k + 23)))) 1 (some (g.2.2.1 + (k + 25)))) 2 (some (g.2.2.1 + (k + 27)))) 3 (some (g.2.2.1 + (k + 29)))) 4 (some (g.2.2.1 + (k + 31)))))))) := by rw [hE33, mk2_lo g E32 (by omega)]; exact f1_E32
  have f2_E33 : E33 (k + 2) = .inr (5, oj5 g (k + 2)) := by rw [hE33, mk2_lo g E32 (by omega)]; exact f2_E32
  have f7_E33 : E33 (k + 7) = .inr (1, oj1 g (k + 7)) := by rw [hE33, mk2_lo g E32 (by omega)]; exact f7_E32
  have f13_E33 : E33 (k + 13) = .inr (3, oj3 g (k + 13)) := by rw [hE33, mk2_lo g E32 (by omega)]; exact f13_E32
  have f18_E33 : E33 (k + 18) = .inr (6, oj6 g (k + 18)) := by rw [hE33, mk2_lo g E32 (by omega)]; exact f18_E32
  have f33_E33 : E33 (k + 33) = .inr (2, oj2 g (k + 33)) := by rw [hE33, mk2_at]
  refine n_aast hx hb hK.1 hP hS (k := k + 1) (kv := k + 33) (ci := 2) (t := 2) (by omega) f1_E33 (by omega) f33_E33 rfl rfl (j := 5) (by unfold vp_in; decide) rfl dX7_init_85 (fun H locs hP hS => ?_)
  obtain ⟨E34, hE34⟩ : ∃ F, F = va_up E33 (k + 1) (.inl (g.2.1 2, 8, .inr (.inr (.inr (.inr (va_up (va_up (va_up (va_up (va_up (va_up (fun _ => none) 0 (some (g.2.2.1 + (k + 23)))) 1 (some (g.2.2.1 + (k + 25)))) 2 (some (g.2.2.1 + (k + 27)))) 3 (some (g.2.2.1 + (k + 29)))) 4 (some (g.2.2.1 + (k + 31)))) 5 (some (g.2.2.1 + (k + 33))))))))) := ⟨_, rfl⟩
  have hP : Pn g (k + 35) E34 H := by rw [hE34]; exact hP
  have f0_E34 : E34 (k + 0) = .inr (7, [.ref (g.2.2.1 + (k + 1)), .ref (g.2.2.1 + (k + 2)), .ref (g.2.2.1 + (k + 7)), .ref (g.2.2.1 + (k + 13)), .ref (g.2.2.1 + (k + 18)), .ref (g.2.2.1 + (k + 22)), .int 0, .int 0, .int 0]) := by rw [hE34, va_up_ne _ _ (by omega)]; exact f0_E33
  have f1_E34 : E34 (k + 1) = .inl (g.2.1 2, 8, .inr (.inr (.inr (.inr (va_up (va_up (va_up (va_up (va_up (va_up (fun _ => none) 0 (some (g.2.2.1 + (k + 23)))) 1 (some (g.2.2.1 + (k + 25)))) 2 (some (g.2.2.1 + (k + 27)))) 3 (some (g.2.2.1 + (k + 29)))) 4 (some (g.2.2.1 + (k + 31)))) 5 (some (g.2.2.1 + (k + 33)))))))) := by rw [hE34, va_up_self]
  have f2_E34 : E34 (k + 2) = .inr (5, oj5 g (k + 2)) := by rw [hE34, va_up_ne _ _ (by omega)]; exact f2_E33
  have f7_E34 : E34 (k + 7) = .inr (1, oj1 g (k + 7)) := by rw [hE34, va_up_ne _ _ (by omega)]; exact f7_E33
  have f13_E34 : E34 (k + 13) = .inr (3, oj3 g (k + 13)) := by rw [hE34, va_up_ne _ _ (by omega)]; exact f13_E33
  have f18_E34 : E34 (k + 18) = .inr (6, oj6 g (k + 18)) := by rw [hE34, va_up_ne _ _ (by omega)]; exact f18_E33
  refine lv_iinc (v := (6 : Int32)) (lv' := [(1, .int (6 : Int32)), (0, .ref (g.2.2.1 + (k + 0)))]) hx hb dX7_init_86 hl (k := 0) rfl (by decide) (by decide) rfl (fun ls hl => ?_)
  refine lv_goto (tgt := 67) hx hb dX7_init_89 (by decide) ?_
  refine lv_iload_n hx hb dX7_init_67 rfl (lv_at hl 0 rfl) ?_
  refine lv_bipush (v := (8 : Int32)) hx hb dX7_init_68 (by decide +kernel) ?_
  refine lv_icmp_ge (tgt := 92) hx hb dX7_init_70 (by decide) (fun c => absurd c (by decide)) (fun _ => ?_)
  refine lv_aload_n hx hb dX7_init_73 rfl (lv_at hl 1 rfl) ?_
  refine va_get hx hb hts inu7 hown hK.1 hP.1 (k + 0) ((Wn_get (by omega)).trans (by rw [f0_E34])) rfl 0 (by decide) (hts _ q1_220) (fun _ h9 => h9) (v := .ref (g.2.2.1 + (k + 1))) rfl dX7_init_74 ?_
  refine lv_iload_n hx hb dX7_init_77 rfl (lv_at hl 0 rfl) ?_
  refine n_new hx hb hown hts hK.1 hP hS (ci := 2) (fs := [.null, .int 0, .int 0, .int 0, .int 0, .int 0, .int 0, .int 0, .int 0, .int 0, .int 0, .int 0, .int 0, .int 0, .int 0]) inu2 tyX2 tyX2_ok q1_29 q1_134 q1_7 rfl (fun j hj => by rcases (show j = 0 ∨ j = 1 ∨ j = 2 ∨ j = 3 ∨ j = 4 ∨ j = 5 ∨ j = 6 ∨ j = 7 ∨ j = 8 ∨ j = 9 ∨ j = 10 ∨ j = 11 ∨ j = 12 ∨ j = 13 ∨ j = 14 by omega) with rfl | rfl | rfl | rfl | rfl | rfl | rfl | rfl | rfl | rfl | rfl | rfl | rfl | rfl | rfl <;> rfl) (Nat.le_of_ble_eq_true rfl) (Nat.le_of_ble_eq_true rfl) dX7_init_78 (fun H hP hS => ?_)
  refine W.widen (k := 35) (n := 1947) (Nat.le_of_ble_eq_true rfl) (Nat.le_of_ble_eq_true rfl) ?_
  obtain ⟨E35, hE35⟩ : ∃ F, F = va_up E34 (k + 35) (.inr (2, [.null, .int 0, .int 0, .int 0, .int 0, .int 0, .int 0, .int 0, .int 0, .int 0, .int 0, .int 0, .int 0, .int 0, .int 0])) := ⟨_, rfl⟩
  have hP : Pn g (k + 36) E35 H := by rw [hE35]; exact hP
  have f0_E35 : E35 (k + 0) = .inr (7, [.ref (g.2.2.1 + (k + 1)), .ref (g.2.2.1 + (k + 2)), .ref (g.2.2.1 + (k + 7)), .ref (g.2.2.1 + (k + 13)), .ref (g.2.2.1 + (k + 18)), .ref (g.2.2.1 + (k + 22)), .int 0, .int 0, .int 0]) := by rw [hE35, va_up_ne _ _ (by omega)]; exact f0_E34
  have f1_E35 : E35 (k + 1) = .inl (g.2.1 2, 8, .inr (.inr (.inr (.inr (va_up (va_up (va_up (va_up (va_up (va_up (fun _ => none) 0 (some (g.2.2.1 + (k + 23)))) 1 (some (g.2.2.1 + (k + 25)))) 2 (some (g.2.2.1 + (k + 27)))) 3 (some (g.2.2.1 + (k + 29)))) 4 (some (g.2.2.1 + (k + 31)))) 5 (some (g.2.2.1 + (k + 33)))))))) := by rw [hE35, va_up_ne _ _ (by omega)]; exact f1_E34
  have f2_E35 : E35 (k + 2) = .inr (5, oj5 g (k + 2)) := by rw [hE35, va_up_ne _ _ (by omega)]; exact f2_E34
  have f7_E35 : E35 (k + 7) = .inr (1, oj1 g (k + 7)) := by rw [hE35, va_up_ne _ _ (by omega)]; exact f7_E34
  have f13_E35 : E35 (k + 13) = .inr (3, oj3 g (k + 13)) := by rw [hE35, va_up_ne _ _ (by omega)]; exact f13_E34
  have f18_E35 : E35 (k + 18) = .inr (6, oj6 g (k + 18)) := by rw [hE35, va_up_ne _ _ (by omega)]; exact f18_E34
  have f35_E35 : E35 (k + 35) = .inr (2, [.null, .int 0, .int 0, .int 0, .int 0, .int 0, .int 0, .int 0, .int 0, .int 0, .int 0, .int 0, .int 0, .int 0, .int 0]) := by rw [hE35, va_up_self]
  refine lv_dup hx hb dX7_init_81 rfl ?_
  refine n_callIN hx hb hml hown hts hK (rest := [.ref (g.2.2.1 + (k + 35)), .int (6 : Int32), .ref (g.2.2.1 + (k + 1))]) (k := k + 35) (i_X2 l g (k + 35) E35 f35_E35) q1_137 (by decide +kernel) q1_136 q1_7 (by decide +kernel) (by decide +kernel) ⟨rfl, rfl⟩ ⟨(Nat.le_of_ble_eq_true rfl), (Nat.le_of_ble_eq_true rfl)⟩ hP hS hl.1 rfl (Nat.le_of_ble_eq_true rfl) dX7_init_82 ⟨(Nat.le_of_ble_eq_true rfl), (Nat.le_of_ble_eq_true rfl)⟩ (fun H locs hP hS => ?_)
  refine W.widen (k := 36) (n := 1971) (Nat.le_of_ble_eq_true rfl) (Nat.le_of_ble_eq_true rfl) ?_
  obtain ⟨E36, hE36⟩ : ∃ F, F = mk2 g E35 (k + 35) := ⟨_, rfl⟩
  have hP : Pn g (k + 37) E36 H := by rw [hE36]; exact hP
  have f0_E36 : E36 (k + 0) = .inr (7, [.ref (g.2.2.1 + (k + 1)), .ref (g.2.2.1 + (k + 2)), .ref (g.2.2.1 + (k + 7)), .ref (g.2.2.1 + (k + 13)), .ref (g.2.2.1 + (k + 18)), .ref (g.2.2.1 + (k + 22)), .int 0, .int 0, .int 0]) := by rw [hE36, mk2_lo g E35 (by omega)]; exact f0_E35
  have f1_E36 : E36 (k + 1) = .inl (g.2.1 2, 8, .inr (.inr (.inr (.inr (va_up (va_up (va_up (va_up (va_up (va_up (fun _ => none) 0 (some (g.2.2.1 + (k + 23)))) 1 (some (g.2.2.1 + (k + 25)))) 2 (some (g.2.2.1 + (k + 27)))) 3 (some (g.2.2.1 + (k + 29)))) 4 (some (g.2.2.1 + (k + 31)))) 5 (some (g.2.2.1 + (k + 33)))))))) := by rw [hE36, mk2_lo g E35 (by omega)]; exact f1_E35
  have f2_E36 : E36 (k + 2) = .inr (5, oj5 g (k + 2)) := by rw [hE36, mk2_lo g E35 (by omega)]; exact f2_E35
  have f7_E36 : E36 (k + 7) = .inr (1, oj1 g (k + 7)) := by rw [hE36, mk2_lo g E35 (by omega)]; exact f7_E35
  have f13_E36 : E36 (k + 13) = .inr (3, oj3 g (k + 13)) := by rw [hE36, mk2_lo g E35 (by omega)]; exact f13_E35
  have f18_E36 : E36 (k + 18) = .inr (6, oj6 g (k + 18)) := by rw [hE36, mk2_lo g E35 (by omega)]; exact f18_E35
  have f35_E36 : E36 (k + 35) = .inr (2, oj2 g (k + 35)) := by rw [hE36, mk2_at]
  refine n_aast hx hb hK.1 hP hS (k := k + 1) (kv := k + 35) (ci := 2) (t := 2) (by omega) f1_E36 (by omega) f35_E36 rfl rfl (j := 6) (by unfold vp_in; decide) rfl dX7_init_85 (fun H locs hP hS => ?_)
  obtain ⟨E37, hE37⟩ : ∃ F, F = va_up E36 (k + 1) (.inl (g.2.1 2, 8, .inr (.inr (.inr (.inr (va_up (va_up (va_up (va_up (va_up (va_up (va_up (fun _ => none) 0 (some (g.2.2.1 + (k + 23)))) 1 (some (g.2.2.1 + (k + 25)))) 2 (some (g.2.2.1 + (k + 27)))) 3 (some (g.2.2.1 + (k + 29)))) 4 (some (g.2.2.1 + (k + 31)))) 5 (some (g.2.2.1 + (k + 33)))) 6 (some (g.2.2.1 + (k + 35))))))))) := ⟨_, rfl⟩
  have hP : Pn g (k + 37) E37 H := by rw [hE37]; exact hP
  have f0_E37 : E37 (k + 0) = .inr (7, [.ref (g.2.2.1 + (k + 1)), .ref (g.2.2.1 + (k + 2)), .ref (g.2.2.1 + (k + 7)), .ref (g.2.2.1 + (k + 13)), .ref (g.2.2.1 + (k + 18)), .ref (g.2.2.1 + (k + 22)), .int 0, .int 0, .int 0]) := by rw [hE37, va_up_ne _ _ (by omega)]; exact f0_E36
  have f1_E37 : E37 (k + 1) = .inl (g.2.1 2, 8, .inr (.inr (.inr (.inr (va_up (va_up (va_up (va_up (va_up (va_up (va_up (fun _ => none) 0 (some (g.2.2.1 + (k + 23)))) 1 (some (g.2.2.1 + (k + 25)))) 2 (some (g.2.2.1 + (k + 27)))) 3 (some (g.2.2.1 + (k + 29)))) 4 (some (g.2.2.1 + (k + 31)))) 5 (some (g.2.2.1 + (k + 33)))) 6 (some (g.2.2.1 + (k + 35)))))))) := by rw [hE37, va_up_self]
  have f2_E37 : E37 (k + 2) = .inr (5, oj5 g (k + 2)) := by rw [hE37, va_up_ne _ _ (by omega)]; exact f2_E36
  have f7_E37 : E37 (k + 7) = .inr (1, oj1 g (k + 7)) := by rw [hE37, va_up_ne _ _ (by omega)]; exact f7_E36
  have f13_E37 : E37 (k + 13) = .inr (3, oj3 g (k + 13)) := by rw [hE37, va_up_ne _ _ (by omega)]; exact f13_E36
  have f18_E37 : E37 (k + 18) = .inr (6, oj6 g (k + 18)) := by rw [hE37, va_up_ne _ _ (by omega)]; exact f18_E36
  refine lv_iinc (v := (7 : Int32)) (lv' := [(1, .int (7 : Int32)), (0, .ref (g.2.2.1 + (k + 0)))]) hx hb dX7_init_86 hl (k := 0) rfl (by decide) (by decide) rfl (fun ls hl => ?_)
  refine lv_goto (tgt := 67) hx hb dX7_init_89 (by decide) ?_
  refine lv_iload_n hx hb dX7_init_67 rfl (lv_at hl 0 rfl) ?_
  refine lv_bipush (v := (8 : Int32)) hx hb dX7_init_68 (by decide +kernel) ?_
  refine lv_icmp_ge (tgt := 92) hx hb dX7_init_70 (by decide) (fun c => absurd c (by decide)) (fun _ => ?_)
  refine lv_aload_n hx hb dX7_init_73 rfl (lv_at hl 1 rfl) ?_
  refine va_get hx hb hts inu7 hown hK.1 hP.1 (k + 0) ((Wn_get (by omega)).trans (by rw [f0_E37])) rfl 0 (by decide) (hts _ q1_220) (fun _ h9 => h9) (v := .ref (g.2.2.1 + (k + 1))) rfl dX7_init_74 ?_
  refine lv_iload_n hx hb dX7_init_77 rfl (lv_at hl 0 rfl) ?_
  refine n_new hx hb hown hts hK.1 hP hS (ci := 2) (fs := [.null, .int 0, .int 0, .int 0, .int 0, .int 0, .int 0, .int 0, .int 0, .int 0, .int 0, .int 0, .int 0, .int 0, .int 0]) inu2 tyX2 tyX2_ok q1_29 q1_134 q1_7 rfl (fun j hj => by rcases (show j = 0 ∨ j = 1 ∨ j = 2 ∨ j = 3 ∨ j = 4 ∨ j = 5 ∨ j = 6 ∨ j = 7 ∨ j = 8 ∨ j = 9 ∨ j = 10 ∨ j = 11 ∨ j = 12 ∨ j = 13 ∨ j = 14 by omega) with rfl | rfl | rfl | rfl | rfl | rfl | rfl | rfl | rfl | rfl | rfl | rfl | rfl | rfl | rfl <;> rfl) (Nat.le_of_ble_eq_true rfl) (Nat.le_of_ble_eq_true rfl) dX7_init_78 (fun H hP hS => ?_)
  refine W.widen (k := 37) (n := 1986) (Nat.le_of_ble_eq_true rfl) (Nat.le_of_ble_eq_true rfl) ?_
  obtain ⟨E38, hE38⟩ : ∃ F, F = va_up E37 (k + 37) (.inr (2, [.null, .int 0, .int 0, .int 0, .int 0, .int 0, .int 0, .int 0, .int 0, .int 0, .int 0, .int 0, .int 0, .int 0, .int 0])) := ⟨_, rfl⟩
  have hP : Pn g (k + 38) E38 H := by rw [hE38]; exact hP
  have f0_E38 : E38 (k + 0) = .inr (7, [.ref (g.2.2.1 + (k + 1)), .ref (g.2.2.1 + (k + 2)), .ref (g.2.2.1 + (k + 7)), .ref (g.2.2.1 + (k + 13)), .ref (g.2.2.1 + (k + 18)), .ref (g.2.2.1 + (k + 22)), .int 0, .int 0, .int 0]) := by rw [hE38, va_up_ne _ _ (by omega)]; exact f0_E37
  have f1_E38 : E38 (k + 1) = .inl (g.2.1 2, 8, .inr (.inr (.inr (.inr (va_up (va_up (va_up (va_up (va_up (va_up (va_up (fun _ => none) 0 (some (g.2.2.1 + (k + 23)))) 1 (some (g.2.2.1 + (k + 25)))) 2 (some (g.2.2.1 + (k + 27)))) 3 (some (g.2.2.1 + (k + 29)))) 4 (some (g.2.2.1 + (k + 31)))) 5 (some (g.2.2.1 + (k + 33)))) 6 (some (g.2.2.1 + (k + 35)))))))) := by rw [hE38, va_up_ne _ _ (by omega)]; exact f1_E37
  have f2_E38 : E38 (k + 2) = .inr (5, oj5 g (k + 2)) := by rw [hE38, va_up_ne _ _ (by omega)]; exact f2_E37
  have f7_E38 : E38 (k + 7) = .inr (1, oj1 g (k + 7)) := by rw [hE38, va_up_ne _ _ (by omega)]; exact f7_E37
  have f13_E38 : E38 (k + 13) = .inr (3, oj3 g (k + 13)) := by rw [hE38, va_up_ne _ _ (by omega)]; exact f13_E37
  have f18_E38 : E38 (k + 18) = .inr (6, oj6 g (k + 18)) := by rw [hE38, va_up_ne _ _ (by omega)]; exact f18_E37
  have f37_E38 : E38 (k + 37) = .inr (2, [.null, .int 0, .int 0, .int 0, .int 0, .int 0, .int 0, .int 0, .int 0, .int 0, .int 0, .int 0, .int 0, .int 0, .int 0]) := by rw [hE38, va_up_self]
  refine lv_dup hx hb dX7_init_81 rfl ?_
  refine n_callIN hx hb hml hown hts hK (rest := [.ref (g.2.2.1 + (k + 37)), .int (7 : Int32), .ref (g.2.2.1 + (k + 1))]) (k := k + 37) (i_X2 l g (k + 37) E38 f37_E38) q1_137 (by decide +kernel) q1_136 q1_7 (by decide +kernel) (by decide +kernel) ⟨rfl, rfl⟩ ⟨(Nat.le_of_ble_eq_true rfl), (Nat.le_of_ble_eq_true rfl)⟩ hP hS hl.1 rfl (Nat.le_of_ble_eq_true rfl) dX7_init_82 ⟨(Nat.le_of_ble_eq_true rfl), (Nat.le_of_ble_eq_true rfl)⟩ (fun H locs hP hS => ?_)
  refine W.widen (k := 38) (n := 2010) (Nat.le_of_ble_eq_true rfl) (Nat.le_of_ble_eq_true rfl) ?_
  obtain ⟨E39, hE39⟩ : ∃ F, F = mk2 g E38 (k + 37) := ⟨_, rfl⟩
  have hP : Pn g (k + 39) E39 H := by rw [hE39]; exact hP
  have f0_E39 : E39 (k + 0) = .inr (7, [.ref (g.2.2.1 + (k + 1)), .ref (g.2.2.1 + (k + 2)), .ref (g.2.2.1 + (k + 7)), .ref (g.2.2.1 + (k + 13)), .ref (g.2.2.1 + (k + 18)), .ref (g.2.2.1 + (k + 22)), .int 0, .int 0, .int 0]) := by rw [hE39, mk2_lo g E38 (by omega)]; exact f0_E38
  have f1_E39 : E39 (k + 1) = .inl (g.2.1 2, 8, .inr (.inr (.inr (.inr (va_up (va_up (va_up (va_up (va_up (va_up (va_up (fun _ => none) 0 (some (g.2.2.1 + (k + 23)))) 1 (some (g.2.2.1 + (k + 25)))) 2 (some (g.2.2.1 + (k + 27)))) 3 (some (g.2.2.1 + (k + 29)))) 4 (some (g.2.2.1 + (k + 31)))) 5 (some (g.2.2.1 + (k + 33)))) 6 (some (g.2.2.1 + (k + 35)))))))) := by rw [hE39, mk2_lo g E38 (by omega)]; exact f1_E38
  have f2_E39 : E39 (k + 2) = .inr (5, oj5 g (k + 2)) := by rw [hE39, mk2_lo g E38 (by omega)]; exact f2_E38
  have f7_E39 : E39 (k + 7) = .inr (1, oj1 g (k + 7)) := by rw [hE39, mk2_lo g E38 (by omega)]; exact f7_E38
  have f13_E39 : E39 (k + 13) = .inr (3, oj3 g (k + 13)) := by rw [hE39, mk2_lo g E38 (by omega)]; exact f13_E38
  have f18_E39 : E39 (k + 18) = .inr (6, oj6 g (k + 18)) := by rw [hE39, mk2_lo g E38 (by omega)]; exact f18_E38
  have f37_E39 : E39 (k + 37) = .inr (2, oj2 g (k + 37)) := by rw [hE39, mk2_at]
  refine n_aast hx hb hK.1 hP hS (k := k + 1) (kv := k + 37) (ci := 2) (t := 2) (by omega) f1_E39 (by omega) f37_E39 rfl rfl (j := 7) (by unfold vp_in; decide) rfl dX7_init_85 (fun H locs hP hS => ?_)
  obtain ⟨E40, hE40⟩ : ∃ F, F = va_up E39 (k + 1) (.inl (g.2.1 2, 8, .inr (.inr (.inr (.inr (va_up (va_up (va_up (va_up (va_up (va_up (va_up (va_up (fun _ => none) 0 (some (g.2.2.1 + (k + 23)))) 1 (some (g.2.2.1 + (k + 25)))) 2 (some (g.2.2.1 + (k + 27)))) 3 (some (g.2.2.1 + (k + 29)))) 4 (some (g.2.2.1 + (k + 31)))) 5 (some (g.2.2.1 + (k + 33)))) 6 (some (g.2.2.1 + (k + 35)))) 7 (some (g.2.2.1 + (k + 37))))))))) := ⟨_, rfl⟩
  have hP : Pn g (k + 39) E40 H := by rw [hE40]; exact hP
  have f0_E40 : E40 (k + 0) = .inr (7, [.ref (g.2.2.1 + (k + 1)), .ref (g.2.2.1 + (k + 2)), .ref (g.2.2.1 + (k + 7)), .ref (g.2.2.1 + (k + 13)), .ref (g.2.2.1 + (k + 18)), .ref (g.2.2.1 + (k + 22)), .int 0, .int 0, .int 0]) := by rw [hE40, va_up_ne _ _ (by omega)]; exact f0_E39
  have f1_E40 : E40 (k + 1) = .inl (g.2.1 2, 8, .inr (.inr (.inr (.inr (va_up (va_up (va_up (va_up (va_up (va_up (va_up (va_up (fun _ => none) 0 (some (g.2.2.1 + (k + 23)))) 1 (some (g.2.2.1 + (k + 25)))) 2 (some (g.2.2.1 + (k + 27)))) 3 (some (g.2.2.1 + (k + 29)))) 4 (some (g.2.2.1 + (k + 31)))) 5 (some (g.2.2.1 + (k + 33)))) 6 (some (g.2.2.1 + (k + 35)))) 7 (some (g.2.2.1 + (k + 37)))))))) := by rw [hE40, va_up_self]
  have f2_E40 : E40 (k + 2) = .inr (5, oj5 g (k + 2)) := by rw [hE40, va_up_ne _ _ (by omega)]; exact f2_E39
  have f7_E40 : E40 (k + 7) = .inr (1, oj1 g (k + 7)) := by rw [hE40, va_up_ne _ _ (by omega)]; exact f7_E39
  have f13_E40 : E40 (k + 13) = .inr (3, oj3 g (k + 13)) := by rw [hE40, va_up_ne _ _ (by omega)]; exact f13_E39
  have f18_E40 : E40 (k + 18) = .inr (6, oj6 g (k + 18)) := by rw [hE40, va_up_ne _ _ (by omega)]; exact f18_E39
  refine lv_iinc (v := (8 : Int32)) (lv' := [(1, .int (8 : Int32)), (0, .ref (g.2.2.1 + (k + 0)))]) hx hb dX7_init_86 hl (k := 0) rfl (by decide) (by decide) rfl (fun ls hl => ?_)
  refine lv_goto (tgt := 67) hx hb dX7_init_89 (by decide) ?_
  refine lv_iload_n hx hb dX7_init_67 rfl (lv_at hl 0 rfl) ?_
  refine lv_bipush (v := (8 : Int32)) hx hb dX7_init_68 (by decide +kernel) ?_
  refine lv_icmp_ge (tgt := 92) hx hb dX7_init_70 (by decide) (fun _ => ?_) (fun c => absurd (by decide) c)
  refine hend H locs ls 92 ?_ hS dX7_init_92
  have hF : mk7 g E k = E40 := by
    unfold mk7
    rw [← hE1, ← hE2, ← hE3, ← hE4, ← hE5, ← hE6, ← hE7, ← hE8, ← hE9, ← hE10, ← hE11, ← hE12, ← hE13, ← hE14, ← hE15, ← hE16, ← hE17, ← hE18, ← hE19, ← hE20, ← hE21, ← hE22, ← hE23, ← hE24, ← hE25, ← hE26, ← hE27, ← hE28, ← hE29, ← hE30, ← hE31, ← hE32, ← hE33, ← hE34, ← hE35, ← hE36, ← hE37, ← hE38, ← hE39, ← hE40]
  rw [hF]
  exact hP
def oj9 (g : Gx) (k : Nat) : List Value := [.ref (g.2.2.1 + (k + 1)), .ref (g.2.2.1 + (k + 40)), .ref (g.2.2.1 + (k + 79)), .ref (g.2.2.1 + (k + 81)), .ref (g.2.2.1 + (k + 83)), .ref (g.2.2.1 + (k + 85)), .ref (g.2.2.1 + (k + 86)), .ref (g.2.2.1 + (k + 87)), .int 0]
def mk9 (g : Gx) (E : Nat → va_E) (k : Nat) : Nat → va_E := va_up (mk4 g (va_up (va_up (mk4 g (va_up (va_up (mk4 g (va_up (va_up (mk4 g (va_up (va_up (va_up (va_up (va_up (va_up (va_up (va_up (mk8 g (va_up (va_up (mk0 g (va_up (va_up (mk2 g (va_up (va_up (mk7 g (va_up (va_up (mk7 g (va_up (E) (k + 1) (.inr (7, [.null, .null, .null, .null, .null, .null, .int 0, .int 0, .int 0]))) (k + 1)) (k + 0) (.inr (9, [.ref (g.2.2.1 + (k + 1)), .null, .null, .null, .null, .null, .null, .null, .int 0]))) (k + 40) (.inr (7, [.null, .null, .null, .null, .null, .null, .int 0, .int 0, .int 0]))) (k + 40)) (k + 0) (.inr (9, [.ref (g.2.2.1 + (k + 1)), .ref (g.2.2.1 + (k + 40)), .null, .null, .null, .null, .null, .null, .int 0]))) (k + 79) (.inr (2, [.null, .int 0, .int 0, .int 0, .int 0, .int 0, .int 0, .int 0, .int 0, .int 0, .int 0, .int 0, .int 0, .int 0, .int 0]))) (k + 79)) (k + 0) (.inr (9, [.ref (g.2.2.1 + (k + 1)), .ref (g.2.2.1 + (k + 40)), .ref (g.2.2.1 + (k + 79)), .null, .null, .null, .null, .null, .int 0]))) (k + 81) (.inr (0, [.null, .int 0, .null, .int 0, .int 0, .int 0]))) (k + 81)) (k + 0) (.inr (9, [.ref (g.2.2.1 + (k + 1)), .ref (g.2.2.1 + (k + 40)), .ref (g.2.2.1 + (k + 79)), .ref (g.2.2.1 + (k + 81)), .null, .null, .null, .null, .int 0]))) (k + 83) (.inr (8, [.null, .int 0]))) (k + 83)) (k + 0) (.inr (9, [.ref (g.2.2.1 + (k + 1)), .ref (g.2.2.1 + (k + 40)), .ref (g.2.2.1 + (k + 79)), .ref (g.2.2.1 + (k + 81)), .ref (g.2.2.1 + (k + 83)), .null, .null, .null, .int 0]))) (k + 85) (.inl (g.2.1 3, 4, .inr (.inr (.inr (.inr (fun _ => none))))))) (k + 0) (.inr (9, [.ref (g.2.2.1 + (k + 1)), .ref (g.2.2.1 + (k + 40)), .ref (g.2.2.1 + (k + 79)), .ref (g.2.2.1 + (k + 81)), .ref (g.2.2.1 + (k + 83)), .ref (g.2.2.1 + (k + 85)), .null, .null, .int 0]))) (k + 86) (.inl (g.2.1 1, 6, .inl (fun _ => 0)))) (k + 0) (.inr (9, [.ref (g.2.2.1 + (k + 1)), .ref (g.2.2.1 + (k + 40)), .ref (g.2.2.1 + (k + 79)), .ref (g.2.2.1 + (k + 81)), .ref (g.2.2.1 + (k + 83)), .ref (g.2.2.1 + (k + 85)), .ref (g.2.2.1 + (k + 86)), .null, .int 0]))) (k + 87) (.inl (g.2.1 1, 8, .inl (fun _ => 0)))) (k + 0) (.inr (9, [.ref (g.2.2.1 + (k + 1)), .ref (g.2.2.1 + (k + 40)), .ref (g.2.2.1 + (k + 79)), .ref (g.2.2.1 + (k + 81)), .ref (g.2.2.1 + (k + 83)), .ref (g.2.2.1 + (k + 85)), .ref (g.2.2.1 + (k + 86)), .ref (g.2.2.1 + (k + 87)), .int 0]))) (k + 88) (.inr (4, [.null, .int 0, .int 0]))) (k + 88)) (k + 85) (.inl (g.2.1 3, 4, .inr (.inr (.inr (.inr (va_up (fun _ => none) 0 (some (g.2.2.1 + (k + 88)))))))))) (k + 90) (.inr (4, [.null, .int 0, .int 0]))) (k + 90)) (k + 85) (.inl (g.2.1 3, 4, .inr (.inr (.inr (.inr (va_up (va_up (fun _ => none) 0 (some (g.2.2.1 + (k + 88)))) 1 (some (g.2.2.1 + (k + 90)))))))))) (k + 92) (.inr (4, [.null, .int 0, .int 0]))) (k + 92)) (k + 85) (.inl (g.2.1 3, 4, .inr (.inr (.inr (.inr (va_up (va_up (va_up (fun _ => none) 0 (some (g.2.2.1 + (k + 88)))) 1 (some (g.2.2.1 + (k + 90)))) 2 (some (g.2.2.1 + (k + 92)))))))))) (k + 94) (.inr (4, [.null, .int 0, .int 0]))) (k + 94)) (k + 85) (.inl (g.2.1 3, 4, .inr (.inr (.inr (.inr (va_up (va_up (va_up (va_up (fun _ => none) 0 (some (g.2.2.1 + (k + 88)))) 1 (some (g.2.2.1 + (k + 90)))) 2 (some (g.2.2.1 + (k + 92)))) 3 (some (g.2.2.1 + (k + 94)))))))))
theorem mk9_lo (g : Gx) (E : Nat → va_E) {k j : Nat} (h : j < k) : mk9 g E k j = E j := by
  unfold mk9
  rw [va_up_ne _ _ (by omega)]
  rw [mk4_lo _ _ (by omega)]
  rw [va_up_ne _ _ (by omega)]
  rw [va_up_ne _ _ (by omega)]
  rw [mk4_lo _ _ (by omega)]
  rw [va_up_ne _ _ (by omega)]
  rw [va_up_ne _ _ (by omega)]
  rw [mk4_lo _ _ (by omega)]
  rw [va_up_ne _ _ (by omega)]
  rw [va_up_ne _ _ (by omega)]
  rw [mk4_lo _ _ (by omega)]
  rw [va_up_ne _ _ (by omega)]
  rw [va_up_ne _ _ (by omega)]
  rw [va_up_ne _ _ (by omega)]
  rw [va_up_ne _ _ (by omega)]
  rw [va_up_ne _ _ (by omega)]
  rw [va_up_ne _ _ (by omega)]
  rw [va_up_ne _ _ (by omega)]
  rw [va_up_ne _ _ (by omega)]
  rw [mk8_lo _ _ (by omega)]
  rw [va_up_ne _ _ (by omega)]
  rw [va_up_ne _ _ (by omega)]
  rw [mk0_lo _ _ (by omega)]
  rw [va_up_ne _ _ (by omega)]
  rw [va_up_ne _ _ (by omega)]
  rw [mk2_lo _ _ (by omega)]
  rw [va_up_ne _ _ (by omega)]
  rw [va_up_ne _ _ (by omega)]
  rw [mk7_lo _ _ (by omega)]
  rw [va_up_ne _ _ (by omega)]
  rw [va_up_ne _ _ (by omega)]
  rw [mk7_lo _ _ (by omega)]
  rw [va_up_ne _ _ (by omega)]
theorem mk9_at (g : Gx) (E : Nat → va_E) (k : Nat) : mk9 g E k k = .inr (9, oj9 g k) := by
  unfold mk9
  rw [va_up_ne _ _ (by omega)]
  rw [mk4_lo _ _ (by omega)]
  rw [va_up_ne _ _ (by omega)]
  rw [va_up_ne _ _ (by omega)]
  rw [mk4_lo _ _ (by omega)]
  rw [va_up_ne _ _ (by omega)]
  rw [va_up_ne _ _ (by omega)]
  rw [mk4_lo _ _ (by omega)]
  rw [va_up_ne _ _ (by omega)]
  rw [va_up_ne _ _ (by omega)]
  rw [mk4_lo _ _ (by omega)]
  rw [va_up_ne _ _ (by omega)]
  rw [show k + 0 = k from rfl, va_up_self]
  rfl
set_option maxRecDepth 100000 in
set_option maxHeartbeats 4000000 in
theorem i_X9 (l : Launch) (g : Gx) (k : Nat) (E : Nat → va_E) (hE0 : E k = .inr (9, [.null, .null, .null, .null, .null, .null, .null, .null, .int 0])) : Ci g l yX9_init cX9_init 2 { frames := 3, cells := 95, slots := 4311, locals := 53 } k E (k + 96) (mk9 g E k) 95 4311 := by
  refine n_met rfl rfl (by decide) ?_
  intro p e s m below meth c args hx hb hin hml hown hts hK hP hend ls hl
  have hown : s.vm.findClass RX9 = some m.cls := hown
  have hS : va_S (An g) s.heap s.heap [] := va_S.rf
  have hl : lv_has ls 2 [(0, .ref (g.2.2.1 + (k + 0)))] := hl
  refine lv_aload_n hx hb dX9_init_0 rfl (lv_at hl 0 rfl) ?_
  refine W.objInit hx hb hown (hts _ q1_20) (hts _ q1_21) (hts _ q1_22) rfl (by rw [hml]; exact hl.1) rfl dX9_init_1 (Nat.le_of_ble_eq_true rfl) (Nat.le_of_ble_eq_true rfl) ?_
  refine W.eq (g2 := F0 m 4 ls []) rfl ?_
  refine lv_aload_n hx hb dX9_init_4 rfl (lv_at hl 0 rfl) ?_
  refine n_new hx hb hown hts hK.1 hP hS (ci := 7) (fs := [.null, .null, .null, .null, .null, .null, .int 0, .int 0, .int 0]) inu7 tyX7 tyX7_ok q1_23 q1_24 q1_2 rfl (fun j hj => by rcases (show j = 0 ∨ j = 1 ∨ j = 2 ∨ j = 3 ∨ j = 4 ∨ j = 5 ∨ j = 6 ∨ j = 7 ∨ j = 8 by omega) with rfl | rfl | rfl | rfl | rfl | rfl | rfl | rfl | rfl <;> rfl) (Nat.le_of_ble_eq_true rfl) (Nat.le_of_ble_eq_true rfl) dX9_init_5 (fun H hP hS => ?_)
  refine W.widen (k := 1) (n := 9) (Nat.le_of_ble_eq_true rfl) (Nat.le_of_ble_eq_true rfl) ?_
  obtain ⟨E1, hE1⟩ : ∃ F, F = va_up E (k + 1) (.inr (7, [.null, .null, .null, .null, .null, .null, .int 0, .int 0, .int 0])) := ⟨_, rfl⟩
  have hP : Pn g (k + 2) E1 H := by rw [hE1]; exact hP
  have f0_E1 : E1 (k + 0) = .inr (9, [.null, .null, .null, .null, .null, .null, .null, .null, .int 0]) := by rw [hE1, va_up_ne _ _ (by omega)]; exact hE0
  have f1_E1 : E1 (k + 1) = .inr (7, [.null, .null, .null, .null, .null, .null, .int 0, .int 0, .int 0]) := by rw [hE1, va_up_self]
  refine lv_dup hx hb dX9_init_8 rfl ?_
  refine n_callI hx hb hml hown hts hK (rest := [.ref (g.2.2.1 + (k + 1)), .ref (g.2.2.1 + (k + 0))]) (k := k + 1) (i_X7 l g (k + 1) E1 f1_E1) q1_27 q1_25 q1_26 q1_2 (by decide +kernel) (by decide +kernel) ⟨rfl, rfl⟩ ⟨(Nat.le_of_ble_eq_true rfl), (Nat.le_of_ble_eq_true rfl)⟩ hP hS hl.1 rfl (Nat.le_of_ble_eq_true rfl) dX9_init_9 ⟨(Nat.le_of_ble_eq_true rfl), (Nat.le_of_ble_eq_true rfl)⟩ (fun H locs hP hS => ?_)
  refine W.widen (k := 39) (n := 2019) (Nat.le_of_ble_eq_true rfl) (Nat.le_of_ble_eq_true rfl) ?_
  obtain ⟨E2, hE2⟩ : ∃ F, F = mk7 g E1 (k + 1) := ⟨_, rfl⟩
  have hP : Pn g (k + 40) E2 H := by rw [hE2]; exact hP
  have f0_E2 : E2 (k + 0) = .inr (9, [.null, .null, .null, .null, .null, .null, .null, .null, .int 0]) := by rw [hE2, mk7_lo g E1 (by omega)]; exact f0_E1
  have f1_E2 : E2 (k + 1) = .inr (7, oj7 g (k + 1)) := by rw [hE2, mk7_at]
  refine n_putF hx hb hown hts hK.1 hP hS hin inu9 tyX9 tyX9_ok nmX9 (k := k + 0) (by omega) f0_E2 rfl 0 (by decide) q2_81 rfl rfl rfl rfl (Nat.le_of_ble_eq_true rfl) (fs2 := [.ref (g.2.2.1 + (k + 1)), .null, .null, .null, .null, .null, .null, .null, .int 0]) rfl dX9_init_12 (fun H locs hP hS => ?_)
  obtain ⟨E3, hE3⟩ : ∃ F, F = va_up E2 (k + 0) (.inr (9, [.ref (g.2.2.1 + (k + 1)), .null, .null, .null, .null, .null, .null, .null, .int 0])) := ⟨_, rfl⟩
  have hP : Pn g (k + 40) E3 H := by rw [hE3]; exact hP
  have f0_E3 : E3 (k + 0) = .inr (9, [.ref (g.2.2.1 + (k + 1)), .null, .null, .null, .null, .null, .null, .null, .int 0]) := by rw [hE3, va_up_self]
  have f1_E3 : E3 (k + 1) = .inr (7, oj7 g (k + 1)) := by rw [hE3, va_up_ne _ _ (by omega)]; exact f1_E2
  refine lv_aload_n hx hb dX9_init_15 rfl (lv_at hl 0 rfl) ?_
  refine n_new hx hb hown hts hK.1 hP hS (ci := 7) (fs := [.null, .null, .null, .null, .null, .null, .int 0, .int 0, .int 0]) inu7 tyX7 tyX7_ok q1_23 q1_24 q1_2 rfl (fun j hj => by rcases (show j = 0 ∨ j = 1 ∨ j = 2 ∨ j = 3 ∨ j = 4 ∨ j = 5 ∨ j = 6 ∨ j = 7 ∨ j = 8 by omega) with rfl | rfl | rfl | rfl | rfl | rfl | rfl | rfl | rfl <;> rfl) (Nat.le_of_ble_eq_true rfl) (Nat.le_of_ble_eq_true rfl) dX9_init_16 (fun H hP hS => ?_)
  refine W.widen (k := 40) (n := 2028) (Nat.le_of_ble_eq_true rfl) (Nat.le_of_ble_eq_true rfl) ?_
  obtain ⟨E4, hE4⟩ : ∃ F, F = va_up E3 (k + 40) (.inr (7, [.null, .null, .null, .null, .null, .null, .int 0, .int 0, .int 0])) := ⟨_, rfl⟩
  have hP : Pn g (k + 41) E4 H := by rw [hE4]; exact hP
  have f0_E4 : E4 (k + 0) = .inr (9, [.ref (g.2.2.1 + (k + 1)), .null, .null, .null, .null, .null, .null, .null, .int 0]) := by rw [hE4, va_up_ne _ _ (by omega)]; exact f0_E3
  have f1_E4 : E4 (k + 1) = .inr (7, oj7 g (k + 1)) := by rw [hE4, va_up_ne _ _ (by omega)]; exact f1_E3
  have f40_E4 : E4 (k + 40) = .inr (7, [.null, .null, .null, .null, .null, .null, .int 0, .int 0, .int 0]) := by rw [hE4, va_up_self]
  refine lv_dup hx hb dX9_init_19 rfl ?_
  refine n_callI hx hb hml hown hts hK (rest := [.ref (g.2.2.1 + (k + 40)), .ref (g.2.2.1 + (k + 0))]) (k := k + 40) (i_X7 l g (k + 40) E4 f40_E4) q1_27 q1_25 q1_26 q1_2 (by decide +kernel) (by decide +kernel) ⟨rfl, rfl⟩ ⟨(Nat.le_of_ble_eq_true rfl), (Nat.le_of_ble_eq_true rfl)⟩ hP hS hl.1 rfl (Nat.le_of_ble_eq_true rfl) dX9_init_20 ⟨(Nat.le_of_ble_eq_true rfl), (Nat.le_of_ble_eq_true rfl)⟩ (fun H locs hP hS => ?_)
  refine W.widen (k := 78) (n := 4038) (Nat.le_of_ble_eq_true rfl) (Nat.le_of_ble_eq_true rfl) ?_
  obtain ⟨E5, hE5⟩ : ∃ F, F = mk7 g E4 (k + 40) := ⟨_, rfl⟩
  have hP : Pn g (k + 79) E5 H := by rw [hE5]; exact hP
  have f0_E5 : E5 (k + 0) = .inr (9, [.ref (g.2.2.1 + (k + 1)), .null, .null, .null, .null, .null, .null, .null, .int 0]) := by rw [hE5, mk7_lo g E4 (by omega)]; exact f0_E4
  have f1_E5 : E5 (k + 1) = .inr (7, oj7 g (k + 1)) := by rw [hE5, mk7_lo g E4 (by omega)]; exact f1_E4
  have f40_E5 : E5 (k + 40) = .inr (7, oj7 g (k + 40)) := by rw [hE5, mk7_at]
  refine n_putF hx hb hown hts hK.1 hP hS hin inu9 tyX9 tyX9_ok nmX9 (k := k + 0) (by omega) f0_E5 rfl 1 (by decide) q2_82 rfl rfl rfl rfl (Nat.le_of_ble_eq_true rfl) (fs2 := [.ref (g.2.2.1 + (k + 1)), .ref (g.2.2.1 + (k + 40)), .null, .null, .null, .null, .null, .null, .int 0]) rfl dX9_init_23 (fun H locs hP hS => ?_)
  obtain ⟨E6, hE6⟩ : ∃ F, F = va_up E5 (k + 0) (.inr (9, [.ref (g.2.2.1 + (k + 1)), .ref (g.2.2.1 + (k + 40)), .null, .null, .null, .null, .null, .null, .int 0])) := ⟨_, rfl⟩
  have hP : Pn g (k + 79) E6 H := by rw [hE6]; exact hP
  have f0_E6 : E6 (k + 0) = .inr (9, [.ref (g.2.2.1 + (k + 1)), .ref (g.2.2.1 + (k + 40)), .null, .null, .null, .null, .null, .null, .int 0]) := by rw [hE6, va_up_self]
  have f1_E6 : E6 (k + 1) = .inr (7, oj7 g (k + 1)) := by rw [hE6, va_up_ne _ _ (by omega)]; exact f1_E5
  have f40_E6 : E6 (k + 40) = .inr (7, oj7 g (k + 40)) := by rw [hE6, va_up_ne _ _ (by omega)]; exact f40_E5
  refine lv_aload_n hx hb dX9_init_26 rfl (lv_at hl 0 rfl) ?_
  refine n_new hx hb hown hts hK.1 hP hS (ci := 2) (fs := [.null, .int 0, .int 0, .int 0, .int 0, .int 0, .int 0, .int 0, .int 0, .int 0, .int 0, .int 0, .int 0, .int 0, .int 0]) inu2 tyX2 tyX2_ok q2_17 q1_134 q1_7 rfl (fun j hj => by rcases (show j = 0 ∨ j = 1 ∨ j = 2 ∨ j = 3 ∨ j = 4 ∨ j = 5 ∨ j = 6 ∨ j = 7 ∨ j = 8 ∨ j = 9 ∨ j = 10 ∨ j = 11 ∨ j = 12 ∨ j = 13 ∨ j = 14 by omega) with rfl | rfl | rfl | rfl | rfl | rfl | rfl | rfl | rfl | rfl | rfl | rfl | rfl | rfl | rfl <;> rfl) (Nat.le_of_ble_eq_true rfl) (Nat.le_of_ble_eq_true rfl) dX9_init_27 (fun H hP hS => ?_)
  refine W.widen (k := 79) (n := 4053) (Nat.le_of_ble_eq_true rfl) (Nat.le_of_ble_eq_true rfl) ?_
  obtain ⟨E7, hE7⟩ : ∃ F, F = va_up E6 (k + 79) (.inr (2, [.null, .int 0, .int 0, .int 0, .int 0, .int 0, .int 0, .int 0, .int 0, .int 0, .int 0, .int 0, .int 0, .int 0, .int 0])) := ⟨_, rfl⟩
  have hP : Pn g (k + 80) E7 H := by rw [hE7]; exact hP
  have f0_E7 : E7 (k + 0) = .inr (9, [.ref (g.2.2.1 + (k + 1)), .ref (g.2.2.1 + (k + 40)), .null, .null, .null, .null, .null, .null, .int 0]) := by rw [hE7, va_up_ne _ _ (by omega)]; exact f0_E6
  have f1_E7 : E7 (k + 1) = .inr (7, oj7 g (k + 1)) := by rw [hE7, va_up_ne _ _ (by omega)]; exact f1_E6
  have f40_E7 : E7 (k + 40) = .inr (7, oj7 g (k + 40)) := by rw [hE7, va_up_ne _ _ (by omega)]; exact f40_E6
  have f79_E7 : E7 (k + 79) = .inr (2, [.null, .int 0, .int 0, .int 0, .int 0, .int 0, .int 0, .int 0, .int 0, .int 0, .int 0, .int 0, .int 0, .int 0, .int 0]) := by rw [hE7, va_up_self]
  refine lv_dup hx hb dX9_init_30 rfl ?_
  refine n_callIN hx hb hml hown hts hK (rest := [.ref (g.2.2.1 + (k + 79)), .ref (g.2.2.1 + (k + 0))]) (k := k + 79) (i_X2 l g (k + 79) E7 f79_E7) q1_137 (by decide +kernel) q1_136 q1_7 (by decide +kernel) (by decide +kernel) ⟨rfl, rfl⟩ ⟨(Nat.le_of_ble_eq_true rfl), (Nat.le_of_ble_eq_true rfl)⟩ hP hS hl.1 rfl (Nat.le_of_ble_eq_true rfl) dX9_init_31 ⟨(Nat.le_of_ble_eq_true rfl), (Nat.le_of_ble_eq_true rfl)⟩ (fun H locs hP hS => ?_)
  refine W.widen (k := 80) (n := 4077) (Nat.le_of_ble_eq_true rfl) (Nat.le_of_ble_eq_true rfl) ?_
  obtain ⟨E8, hE8⟩ : ∃ F, F = mk2 g E7 (k + 79) := ⟨_, rfl⟩
  have hP : Pn g (k + 81) E8 H := by rw [hE8]; exact hP
  have f0_E8 : E8 (k + 0) = .inr (9, [.ref (g.2.2.1 + (k + 1)), .ref (g.2.2.1 + (k + 40)), .null, .null, .null, .null, .null, .null, .int 0]) := by rw [hE8, mk2_lo g E7 (by omega)]; exact f0_E7
  have f1_E8 : E8 (k + 1) = .inr (7, oj7 g (k + 1)) := by rw [hE8, mk2_lo g E7 (by omega)]; exact f1_E7
  have f40_E8 : E8 (k + 40) = .inr (7, oj7 g (k + 40)) := by rw [hE8, mk2_lo g E7 (by omega)]; exact f40_E7
  have f79_E8 : E8 (k + 79) = .inr (2, oj2 g (k + 79)) := by rw [hE8, mk2_at]
  refine n_putF hx hb hown hts hK.1 hP hS hin inu9 tyX9 tyX9_ok nmX9 (k := k + 0) (by omega) f0_E8 rfl 2 (by decide) q2_83 rfl rfl rfl rfl (Nat.le_of_ble_eq_true rfl) (fs2 := [.ref (g.2.2.1 + (k + 1)), .ref (g.2.2.1 + (k + 40)), .ref (g.2.2.1 + (k + 79)), .null, .null, .null, .null, .null, .int 0]) rfl dX9_init_34 (fun H locs hP hS => ?_)
  obtain ⟨E9, hE9⟩ : ∃ F, F = va_up E8 (k + 0) (.inr (9, [.ref (g.2.2.1 + (k + 1)), .ref (g.2.2.1 + (k + 40)), .ref (g.2.2.1 + (k + 79)), .null, .null, .null, .null, .null, .int 0])) := ⟨_, rfl⟩
  have hP : Pn g (k + 81) E9 H := by rw [hE9]; exact hP
  have f0_E9 : E9 (k + 0) = .inr (9, [.ref (g.2.2.1 + (k + 1)), .ref (g.2.2.1 + (k + 40)), .ref (g.2.2.1 + (k + 79)), .null, .null, .null, .null, .null, .int 0]) := by rw [hE9, va_up_self]
  have f1_E9 : E9 (k + 1) = .inr (7, oj7 g (k + 1)) := by rw [hE9, va_up_ne _ _ (by omega)]; exact f1_E8
  have f40_E9 : E9 (k + 40) = .inr (7, oj7 g (k + 40)) := by rw [hE9, va_up_ne _ _ (by omega)]; exact f40_E8
  have f79_E9 : E9 (k + 79) = .inr (2, oj2 g (k + 79)) := by rw [hE9, va_up_ne _ _ (by omega)]; exact f79_E8
  refine lv_aload_n hx hb dX9_init_37 rfl (lv_at hl 0 rfl) ?_
  refine n_new hx hb hown hts hK.1 hP hS (ci := 0) (fs := [.null, .int 0, .null, .int 0, .int 0, .int 0]) inu0 tyX0 tyX0_ok q2_19 q2_20 q1_8 rfl (fun j hj => by rcases (show j = 0 ∨ j = 1 ∨ j = 2 ∨ j = 3 ∨ j = 4 ∨ j = 5 by omega) with rfl | rfl | rfl | rfl | rfl | rfl <;> rfl) (Nat.le_of_ble_eq_true rfl) (Nat.le_of_ble_eq_true rfl) dX9_init_38 (fun H hP hS => ?_)
  refine W.widen (k := 81) (n := 4083) (Nat.le_of_ble_eq_true rfl) (Nat.le_of_ble_eq_true rfl) ?_
  obtain ⟨E10, hE10⟩ : ∃ F, F = va_up E9 (k + 81) (.inr (0, [.null, .int 0, .null, .int 0, .int 0, .int 0])) := ⟨_, rfl⟩
  have hP : Pn g (k + 82) E10 H := by rw [hE10]; exact hP
  have f0_E10 : E10 (k + 0) = .inr (9, [.ref (g.2.2.1 + (k + 1)), .ref (g.2.2.1 + (k + 40)), .ref (g.2.2.1 + (k + 79)), .null, .null, .null, .null, .null, .int 0]) := by rw [hE10, va_up_ne _ _ (by omega)]; exact f0_E9
  have f1_E10 : E10 (k + 1) = .inr (7, oj7 g (k + 1)) := by rw [hE10, va_up_ne _ _ (by omega)]; exact f1_E9
  have f40_E10 : E10 (k + 40) = .inr (7, oj7 g (k + 40)) := by rw [hE10, va_up_ne _ _ (by omega)]; exact f40_E9
  have f79_E10 : E10 (k + 79) = .inr (2, oj2 g (k + 79)) := by rw [hE10, va_up_ne _ _ (by omega)]; exact f79_E9
  have f81_E10 : E10 (k + 81) = .inr (0, [.null, .int 0, .null, .int 0, .int 0, .int 0]) := by rw [hE10, va_up_self]
  refine lv_dup hx hb dX9_init_41 rfl ?_
  refine n_callIN hx hb hml hown hts hK (rest := [.ref (g.2.2.1 + (k + 81)), .ref (g.2.2.1 + (k + 0))]) (k := k + 81) (i_X0 l g (k + 81) E10 f81_E10) q2_23 (by decide +kernel) q2_22 q1_8 (by decide +kernel) (by decide +kernel) ⟨rfl, rfl⟩ ⟨(Nat.le_of_ble_eq_true rfl), (Nat.le_of_ble_eq_true rfl)⟩ hP hS hl.1 rfl (Nat.le_of_ble_eq_true rfl) dX9_init_42 ⟨(Nat.le_of_ble_eq_true rfl), (Nat.le_of_ble_eq_true rfl)⟩ (fun H locs hP hS => ?_)
  refine W.widen (k := 82) (n := 4143) (Nat.le_of_ble_eq_true rfl) (Nat.le_of_ble_eq_true rfl) ?_
  obtain ⟨E11, hE11⟩ : ∃ F, F = mk0 g E10 (k + 81) := ⟨_, rfl⟩
  have hP : Pn g (k + 83) E11 H := by rw [hE11]; exact hP
  have f0_E11 : E11 (k + 0) = .inr (9, [.ref (g.2.2.1 + (k + 1)), .ref (g.2.2.1 + (k + 40)), .ref (g.2.2.1 + (k + 79)), .null, .null, .null, .null, .null, .int 0]) := by rw [hE11, mk0_lo g E10 (by omega)]; exact f0_E10
  have f1_E11 : E11 (k + 1) = .inr (7, oj7 g (k + 1)) := by rw [hE11, mk0_lo g E10 (by omega)]; exact f1_E10
  have f40_E11 : E11 (k + 40) = .inr (7, oj7 g (k + 40)) := by rw [hE11, mk0_lo g E10 (by omega)]; exact f40_E10
  have f79_E11 : E11 (k + 79) = .inr (2, oj2 g (k + 79)) := by rw [hE11, mk0_lo g E10 (by omega)]; exact f79_E10
  have f81_E11 : E11 (k + 81) = .inr (0, oj0 g (k + 81)) := by rw [hE11, mk0_at]
  refine n_putF hx hb hown hts hK.1 hP hS hin inu9 tyX9 tyX9_ok nmX9 (k := k + 0) (by omega) f0_E11 rfl 3 (by decide) q2_84 rfl rfl rfl rfl (Nat.le_of_ble_eq_true rfl) (fs2 := [.ref (g.2.2.1 + (k + 1)), .ref (g.2.2.1 + (k + 40)), .ref (g.2.2.1 + (k + 79)), .ref (g.2.2.1 + (k + 81)), .null, .null, .null, .null, .int 0]) rfl dX9_init_45 (fun H locs hP hS => ?_)
  obtain ⟨E12, hE12⟩ : ∃ F, F = va_up E11 (k + 0) (.inr (9, [.ref (g.2.2.1 + (k + 1)), .ref (g.2.2.1 + (k + 40)), .ref (g.2.2.1 + (k + 79)), .ref (g.2.2.1 + (k + 81)), .null, .null, .null, .null, .int 0])) := ⟨_, rfl⟩
  have hP : Pn g (k + 83) E12 H := by rw [hE12]; exact hP
  have f0_E12 : E12 (k + 0) = .inr (9, [.ref (g.2.2.1 + (k + 1)), .ref (g.2.2.1 + (k + 40)), .ref (g.2.2.1 + (k + 79)), .ref (g.2.2.1 + (k + 81)), .null, .null, .null, .null, .int 0]) := by rw [hE12, va_up_self]
  have f1_E12 : E12 (k + 1) = .inr (7, oj7 g (k + 1)) := by rw [hE12, va_up_ne _ _ (by omega)]; exact f1_E11
  have f40_E12 : E12 (k + 40) = .inr (7, oj7 g (k + 40)) := by rw [hE12, va_up_ne _ _ (by omega)]; exact f40_E11
  have f79_E12 : E12 (k + 79) = .inr (2, oj2 g (k + 79)) := by rw [hE12, va_up_ne _ _ (by omega)]; exact f79_E11
  have f81_E12 : E12 (k + 81) = .inr (0, oj0 g (k + 81)) := by rw [hE12, va_up_ne _ _ (by omega)]; exact f81_E11
  refine lv_aload_n hx hb dX9_init_48 rfl (lv_at hl 0 rfl) ?_
  refine n_new hx hb hown hts hK.1 hP hS (ci := 8) (fs := [.null, .int 0]) inu8 tyX8 tyX8_ok q2_46 q2_47 q1_9 rfl (fun j hj => by rcases (show j = 0 ∨ j = 1 by omega) with rfl | rfl <;> rfl) (Nat.le_of_ble_eq_true rfl) (Nat.le_of_ble_eq_true rfl) dX9_init_49 (fun H hP hS => ?_)
  refine W.widen (k := 83) (n := 4145) (Nat.le_of_ble_eq_true rfl) (Nat.le_of_ble_eq_true rfl) ?_
  obtain ⟨E13, hE13⟩ : ∃ F, F = va_up E12 (k + 83) (.inr (8, [.null, .int 0])) := ⟨_, rfl⟩
  have hP : Pn g (k + 84) E13 H := by rw [hE13]; exact hP
  have f0_E13 : E13 (k + 0) = .inr (9, [.ref (g.2.2.1 + (k + 1)), .ref (g.2.2.1 + (k + 40)), .ref (g.2.2.1 + (k + 79)), .ref (g.2.2.1 + (k + 81)), .null, .null, .null, .null, .int 0]) := by rw [hE13, va_up_ne _ _ (by omega)]; exact f0_E12
  have f1_E13 : E13 (k + 1) = .inr (7, oj7 g (k + 1)) := by rw [hE13, va_up_ne _ _ (by omega)]; exact f1_E12
  have f40_E13 : E13 (k + 40) = .inr (7, oj7 g (k + 40)) := by rw [hE13, va_up_ne _ _ (by omega)]; exact f40_E12
  have f79_E13 : E13 (k + 79) = .inr (2, oj2 g (k + 79)) := by rw [hE13, va_up_ne _ _ (by omega)]; exact f79_E12
  have f81_E13 : E13 (k + 81) = .inr (0, oj0 g (k + 81)) := by rw [hE13, va_up_ne _ _ (by omega)]; exact f81_E12
  have f83_E13 : E13 (k + 83) = .inr (8, [.null, .int 0]) := by rw [hE13, va_up_self]
  refine lv_dup hx hb dX9_init_52 rfl ?_
  refine n_callIN hx hb hml hown hts hK (rest := [.ref (g.2.2.1 + (k + 83)), .ref (g.2.2.1 + (k + 0))]) (k := k + 83) (i_X8 l g (k + 83) E13 f83_E13) q2_50 (by decide +kernel) q2_49 q1_9 (by decide +kernel) (by decide +kernel) ⟨rfl, rfl⟩ ⟨(Nat.le_of_ble_eq_true rfl), (Nat.le_of_ble_eq_true rfl)⟩ hP hS hl.1 rfl (Nat.le_of_ble_eq_true rfl) dX9_init_53 ⟨(Nat.le_of_ble_eq_true rfl), (Nat.le_of_ble_eq_true rfl)⟩ (fun H locs hP hS => ?_)
  refine W.widen (k := 84) (n := 4185) (Nat.le_of_ble_eq_true rfl) (Nat.le_of_ble_eq_true rfl) ?_
  obtain ⟨E14, hE14⟩ : ∃ F, F = mk8 g E13 (k + 83) := ⟨_, rfl⟩
  have hP : Pn g (k + 85) E14 H := by rw [hE14]; exact hP
  have f0_E14 : E14 (k + 0) = .inr (9, [.ref (g.2.2.1 + (k + 1)), .ref (g.2.2.1 + (k + 40)), .ref (g.2.2.1 + (k + 79)), .ref (g.2.2.1 + (k + 81)), .null, .null, .null, .null, .int 0]) := by rw [hE14, mk8_lo g E13 (by omega)]; exact f0_E13
  have f1_E14 : E14 (k + 1) = .inr (7, oj7 g (k + 1)) := by rw [hE14, mk8_lo g E13 (by omega)]; exact f1_E13
  have f40_E14 : E14 (k + 40) = .inr (7, oj7 g (k + 40)) := by rw [hE14, mk8_lo g E13 (by omega)]; exact f40_E13
  have f79_E14 : E14 (k + 79) = .inr (2, oj2 g (k + 79)) := by rw [hE14, mk8_lo g E13 (by omega)]; exact f79_E13
  have f81_E14 : E14 (k + 81) = .inr (0, oj0 g (k + 81)) := by rw [hE14, mk8_lo g E13 (by omega)]; exact f81_E13
  have f83_E14 : E14 (k + 83) = .inr (8, oj8 g (k + 83)) := by rw [hE14, mk8_at]
  refine n_putF hx hb hown hts hK.1 hP hS hin inu9 tyX9 tyX9_ok nmX9 (k := k + 0) (by omega) f0_E14 rfl 4 (by decide) q2_85 rfl rfl rfl rfl (Nat.le_of_ble_eq_true rfl) (fs2 := [.ref (g.2.2.1 + (k + 1)), .ref (g.2.2.1 + (k + 40)), .ref (g.2.2.1 + (k + 79)), .ref (g.2.2.1 + (k + 81)), .ref (g.2.2.1 + (k + 83)), .null, .null, .null, .int 0]) rfl dX9_init_56 (fun H locs hP hS => ?_)
  obtain ⟨E15, hE15⟩ : ∃ F, F = va_up E14 (k + 0) (.inr (9, [.ref (g.2.2.1 + (k + 1)), .ref (g.2.2.1 + (k + 40)), .ref (g.2.2.1 + (k + 79)), .ref (g.2.2.1 + (k + 81)), .ref (g.2.2.1 + (k + 83)), .null, .null, .null, .int 0])) := ⟨_, rfl⟩
  have hP : Pn g (k + 85) E15 H := by rw [hE15]; exact hP
  have f0_E15 : E15 (k + 0) = .inr (9, [.ref (g.2.2.1 + (k + 1)), .ref (g.2.2.1 + (k + 40)), .ref (g.2.2.1 + (k + 79)), .ref (g.2.2.1 + (k + 81)), .ref (g.2.2.1 + (k + 83)), .null, .null, .null, .int 0]) := by rw [hE15, va_up_self]
  have f1_E15 : E15 (k + 1) = .inr (7, oj7 g (k + 1)) := by rw [hE15, va_up_ne _ _ (by omega)]; exact f1_E14
  have f40_E15 : E15 (k + 40) = .inr (7, oj7 g (k + 40)) := by rw [hE15, va_up_ne _ _ (by omega)]; exact f40_E14
  have f79_E15 : E15 (k + 79) = .inr (2, oj2 g (k + 79)) := by rw [hE15, va_up_ne _ _ (by omega)]; exact f79_E14
  have f81_E15 : E15 (k + 81) = .inr (0, oj0 g (k + 81)) := by rw [hE15, va_up_ne _ _ (by omega)]; exact f81_E14
  have f83_E15 : E15 (k + 83) = .inr (8, oj8 g (k + 83)) := by rw [hE15, va_up_ne _ _ (by omega)]; exact f83_E14
  refine lv_aload_n hx hb dX9_init_59 rfl (lv_at hl 0 rfl) ?_
  refine lv_iconst (v := (4 : Int32)) hx hb dX9_init_60 rfl ?_
  refine n_newq hx hb hown hts hK.1 hP hS (t := 3) q2_61 hK.2.2.2 rfl (by decide) (N := 4) rfl (Nat.le_of_ble_eq_true rfl) (Nat.le_of_ble_eq_true rfl) (Nat.le_of_ble_eq_true rfl) dX9_init_61 (fun H hP hS => ?_)
  refine W.widen (k := 85) (n := 4189) (Nat.le_of_ble_eq_true rfl) (Nat.le_of_ble_eq_true rfl) ?_
  obtain ⟨E16, hE16⟩ : ∃ F, F = va_up E15 (k + 85) (.inl (g.2.1 3, 4, .inr (.inr (.inr (.inr (fun _ => none)))))) := ⟨_, rfl⟩
  have hP : Pn g (k + 86) E16 H := by rw [hE16]; exact hP
  have f0_E16 : E16 (k + 0) = .inr (9, [.ref (g.2.2.1 + (k + 1)), .ref (g.2.2.1 + (k + 40)), .ref (g.2.2.1 + (k + 79)), .ref (g.2.2.1 + (k + 81)), .ref (g.2.2.1 + (k + 83)), .null, .null, .null, .int 0]) := by rw [hE16, va_up_ne _ _ (by omega)]; exact f0_E15
  have f1_E16 : E16 (k + 1) = .inr (7, oj7 g (k + 1)) := by rw [hE16, va_up_ne _ _ (by omega)]; exact f1_E15
  have f40_E16 : E16 (k + 40) = .inr (7, oj7 g (k + 40)) := by rw [hE16, va_up_ne _ _ (by omega)]; exact f40_E15
  have f79_E16 : E16 (k + 79) = .inr (2, oj2 g (k + 79)) := by rw [hE16, va_up_ne _ _ (by omega)]; exact f79_E15
  have f81_E16 : E16 (k + 81) = .inr (0, oj0 g (k + 81)) := by rw [hE16, va_up_ne _ _ (by omega)]; exact f81_E15
  have f83_E16 : E16 (k + 83) = .inr (8, oj8 g (k + 83)) := by rw [hE16, va_up_ne _ _ (by omega)]; exact f83_E15
  have f85_E16 : E16 (k + 85) = .inl (g.2.1 3, 4, .inr (.inr (.inr (.inr (fun _ => none))))) := by rw [hE16, va_up_self]
  refine n_putF hx hb hown hts hK.1 hP hS hin inu9 tyX9 tyX9_ok nmX9 (k := k + 0) (by omega) f0_E16 rfl 5 (by decide) q2_86 rfl rfl rfl rfl (Nat.le_of_ble_eq_true rfl) (fs2 := [.ref (g.2.2.1 + (k + 1)), .ref (g.2.2.1 + (k + 40)), .ref (g.2.2.1 + (k + 79)), .ref (g.2.2.1 + (k + 81)), .ref (g.2.2.1 + (k + 83)), .ref (g.2.2.1 + (k + 85)), .null, .null, .int 0]) rfl dX9_init_64 (fun H locs hP hS => ?_)
  obtain ⟨E17, hE17⟩ : ∃ F, F = va_up E16 (k + 0) (.inr (9, [.ref (g.2.2.1 + (k + 1)), .ref (g.2.2.1 + (k + 40)), .ref (g.2.2.1 + (k + 79)), .ref (g.2.2.1 + (k + 81)), .ref (g.2.2.1 + (k + 83)), .ref (g.2.2.1 + (k + 85)), .null, .null, .int 0])) := ⟨_, rfl⟩
  have hP : Pn g (k + 86) E17 H := by rw [hE17]; exact hP
  have f0_E17 : E17 (k + 0) = .inr (9, [.ref (g.2.2.1 + (k + 1)), .ref (g.2.2.1 + (k + 40)), .ref (g.2.2.1 + (k + 79)), .ref (g.2.2.1 + (k + 81)), .ref (g.2.2.1 + (k + 83)), .ref (g.2.2.1 + (k + 85)), .null, .null, .int 0]) := by rw [hE17, va_up_self]
  have f1_E17 : E17 (k + 1) = .inr (7, oj7 g (k + 1)) := by rw [hE17, va_up_ne _ _ (by omega)]; exact f1_E16
  have f40_E17 : E17 (k + 40) = .inr (7, oj7 g (k + 40)) := by rw [hE17, va_up_ne _ _ (by omega)]; exact f40_E16
  have f79_E17 : E17 (k + 79) = .inr (2, oj2 g (k + 79)) := by rw [hE17, va_up_ne _ _ (by omega)]; exact f79_E16
  have f81_E17 : E17 (k + 81) = .inr (0, oj0 g (k + 81)) := by rw [hE17, va_up_ne _ _ (by omega)]; exact f81_E16
  have f83_E17 : E17 (k + 83) = .inr (8, oj8 g (k + 83)) := by rw [hE17, va_up_ne _ _ (by omega)]; exact f83_E16
  have f85_E17 : E17 (k + 85) = .inl (g.2.1 3, 4, .inr (.inr (.inr (.inr (fun _ => none))))) := by rw [hE17, va_up_ne _ _ (by omega)]; exact f85_E16
  refine lv_aload_n hx hb dX9_init_67 rfl (lv_at hl 0 rfl) ?_
  refine lv_bipush (v := (6 : Int32)) hx hb dX9_init_68 (by decide +kernel) ?_
  refine n_newi hx hb hts hK.1 hP hS q1_54 (by decide) (N := 6) rfl (Nat.le_of_ble_eq_true rfl) (Nat.le_of_ble_eq_true rfl) (Nat.le_of_ble_eq_true rfl) dX9_init_70 (fun H hP hS => ?_)
  refine W.widen (k := 86) (n := 4195) (Nat.le_of_ble_eq_true rfl) (Nat.le_of_ble_eq_true rfl) ?_
  obtain ⟨E18, hE18⟩ : ∃ F, F = va_up E17 (k + 86) (.inl (g.2.1 1, 6, .inl (fun _ => 0))) := ⟨_, rfl⟩
  have hP : Pn g (k + 87) E18 H := by rw [hE18]; exact hP
  have f0_E18 : E18 (k + 0) = .inr (9, [.ref (g.2.2.1 + (k + 1)), .ref (g.2.2.1 + (k + 40)), .ref (g.2.2.1 + (k + 79)), .ref (g.2.2.1 + (k + 81)), .ref (g.2.2.1 + (k + 83)), .ref (g.2.2.1 + (k + 85)), .null, .null, .int 0]) := by rw [hE18, va_up_ne _ _ (by omega)]; exact f0_E17
  have f1_E18 : E18 (k + 1) = .inr (7, oj7 g (k + 1)) := by rw [hE18, va_up_ne _ _ (by omega)]; exact f1_E17
  have f40_E18 : E18 (k + 40) = .inr (7, oj7 g (k + 40)) := by rw [hE18, va_up_ne _ _ (by omega)]; exact f40_E17
  have f79_E18 : E18 (k + 79) = .inr (2, oj2 g (k + 79)) := by rw [hE18, va_up_ne _ _ (by omega)]; exact f79_E17
  have f81_E18 : E18 (k + 81) = .inr (0, oj0 g (k + 81)) := by rw [hE18, va_up_ne _ _ (by omega)]; exact f81_E17
  have f83_E18 : E18 (k + 83) = .inr (8, oj8 g (k + 83)) := by rw [hE18, va_up_ne _ _ (by omega)]; exact f83_E17
  have f85_E18 : E18 (k + 85) = .inl (g.2.1 3, 4, .inr (.inr (.inr (.inr (fun _ => none))))) := by rw [hE18, va_up_ne _ _ (by omega)]; exact f85_E17
  have f86_E18 : E18 (k + 86) = .inl (g.2.1 1, 6, .inl (fun _ => 0)) := by rw [hE18, va_up_self]
  refine n_putF hx hb hown hts hK.1 hP hS hin inu9 tyX9 tyX9_ok nmX9 (k := k + 0) (by omega) f0_E18 rfl 6 (by decide) q2_87 rfl rfl rfl rfl (Nat.le_of_ble_eq_true rfl) (fs2 := [.ref (g.2.2.1 + (k + 1)), .ref (g.2.2.1 + (k + 40)), .ref (g.2.2.1 + (k + 79)), .ref (g.2.2.1 + (k + 81)), .ref (g.2.2.1 + (k + 83)), .ref (g.2.2.1 + (k + 85)), .ref (g.2.2.1 + (k + 86)), .null, .int 0]) rfl dX9_init_72 (fun H locs hP hS => ?_)
  obtain ⟨E19, hE19⟩ : ∃ F, F = va_up E18 (k + 0) (.inr (9, [.ref (g.2.2.1 + (k + 1)), .ref (g.2.2.1 + (k + 40)), .ref (g.2.2.1 + (k + 79)), .ref (g.2.2.1 + (k + 81)), .ref (g.2.2.1 + (k + 83)), .ref (g.2.2.1 + (k + 85)), .ref (g.2.2.1 + (k + 86)), .null, .int 0])) := ⟨_, rfl⟩
  have hP : Pn g (k + 87) E19 H := by rw [hE19]; exact hP
  have f0_E19 : E19 (k + 0) = .inr (9, [.ref (g.2.2.1 + (k + 1)), .ref (g.2.2.1 + (k + 40)), .ref (g.2.2.1 + (k + 79)), .ref (g.2.2.1 + (k + 81)), .ref (g.2.2.1 + (k + 83)), .ref (g.2.2.1 + (k + 85)), .ref (g.2.2.1 + (k + 86)), .null, .int 0]) := by rw [hE19, va_up_self]
  have f1_E19 : E19 (k + 1) = .inr (7, oj7 g (k + 1)) := by rw [hE19, va_up_ne _ _ (by omega)]; exact f1_E18
  have f40_E19 : E19 (k + 40) = .inr (7, oj7 g (k + 40)) := by rw [hE19, va_up_ne _ _ (by omega)]; exact f40_E18
  have f79_E19 : E19 (k + 79) = .inr (2, oj2 g (k + 79)) := by rw [hE19, va_up_ne _ _ (by omega)]; exact f79_E18
  have f81_E19 : E19 (k + 81) = .inr (0, oj0 g (k + 81)) := by rw [hE19, va_up_ne _ _ (by omega)]; exact f81_E18
  have f83_E19 : E19 (k + 83) = .inr (8, oj8 g (k + 83)) := by rw [hE19, va_up_ne _ _ (by omega)]; exact f83_E18
  have f85_E19 : E19 (k + 85) = .inl (g.2.1 3, 4, .inr (.inr (.inr (.inr (fun _ => none))))) := by rw [hE19, va_up_ne _ _ (by omega)]; exact f85_E18
  refine lv_aload_n hx hb dX9_init_75 rfl (lv_at hl 0 rfl) ?_
  refine lv_bipush (v := (8 : Int32)) hx hb dX9_init_76 (by decide +kernel) ?_
  refine n_newi hx hb hts hK.1 hP hS q1_54 (by decide) (N := 8) rfl (Nat.le_of_ble_eq_true rfl) (Nat.le_of_ble_eq_true rfl) (Nat.le_of_ble_eq_true rfl) dX9_init_78 (fun H hP hS => ?_)
  refine W.widen (k := 87) (n := 4203) (Nat.le_of_ble_eq_true rfl) (Nat.le_of_ble_eq_true rfl) ?_
  obtain ⟨E20, hE20⟩ : ∃ F, F = va_up E19 (k + 87) (.inl (g.2.1 1, 8, .inl (fun _ => 0))) := ⟨_, rfl⟩
  have hP : Pn g (k + 88) E20 H := by rw [hE20]; exact hP
  have f0_E20 : E20 (k + 0) = .inr (9, [.ref (g.2.2.1 + (k + 1)), .ref (g.2.2.1 + (k + 40)), .ref (g.2.2.1 + (k + 79)), .ref (g.2.2.1 + (k + 81)), .ref (g.2.2.1 + (k + 83)), .ref (g.2.2.1 + (k + 85)), .ref (g.2.2.1 + (k + 86)), .null, .int 0]) := by rw [hE20, va_up_ne _ _ (by omega)]; exact f0_E19
  have f1_E20 : E20 (k + 1) = .inr (7, oj7 g (k + 1)) := by rw [hE20, va_up_ne _ _ (by omega)]; exact f1_E19
  have f40_E20 : E20 (k + 40) = .inr (7, oj7 g (k + 40)) := by rw [hE20, va_up_ne _ _ (by omega)]; exact f40_E19
  have f79_E20 : E20 (k + 79) = .inr (2, oj2 g (k + 79)) := by rw [hE20, va_up_ne _ _ (by omega)]; exact f79_E19
  have f81_E20 : E20 (k + 81) = .inr (0, oj0 g (k + 81)) := by rw [hE20, va_up_ne _ _ (by omega)]; exact f81_E19
  have f83_E20 : E20 (k + 83) = .inr (8, oj8 g (k + 83)) := by rw [hE20, va_up_ne _ _ (by omega)]; exact f83_E19
  have f85_E20 : E20 (k + 85) = .inl (g.2.1 3, 4, .inr (.inr (.inr (.inr (fun _ => none))))) := by rw [hE20, va_up_ne _ _ (by omega)]; exact f85_E19
  have f87_E20 : E20 (k + 87) = .inl (g.2.1 1, 8, .inl (fun _ => 0)) := by rw [hE20, va_up_self]
  refine n_putF hx hb hown hts hK.1 hP hS hin inu9 tyX9 tyX9_ok nmX9 (k := k + 0) (by omega) f0_E20 rfl 7 (by decide) q2_88 rfl rfl rfl rfl (Nat.le_of_ble_eq_true rfl) (fs2 := [.ref (g.2.2.1 + (k + 1)), .ref (g.2.2.1 + (k + 40)), .ref (g.2.2.1 + (k + 79)), .ref (g.2.2.1 + (k + 81)), .ref (g.2.2.1 + (k + 83)), .ref (g.2.2.1 + (k + 85)), .ref (g.2.2.1 + (k + 86)), .ref (g.2.2.1 + (k + 87)), .int 0]) rfl dX9_init_80 (fun H locs hP hS => ?_)
  obtain ⟨E21, hE21⟩ : ∃ F, F = va_up E20 (k + 0) (.inr (9, [.ref (g.2.2.1 + (k + 1)), .ref (g.2.2.1 + (k + 40)), .ref (g.2.2.1 + (k + 79)), .ref (g.2.2.1 + (k + 81)), .ref (g.2.2.1 + (k + 83)), .ref (g.2.2.1 + (k + 85)), .ref (g.2.2.1 + (k + 86)), .ref (g.2.2.1 + (k + 87)), .int 0])) := ⟨_, rfl⟩
  have hP : Pn g (k + 88) E21 H := by rw [hE21]; exact hP
  have f0_E21 : E21 (k + 0) = .inr (9, [.ref (g.2.2.1 + (k + 1)), .ref (g.2.2.1 + (k + 40)), .ref (g.2.2.1 + (k + 79)), .ref (g.2.2.1 + (k + 81)), .ref (g.2.2.1 + (k + 83)), .ref (g.2.2.1 + (k + 85)), .ref (g.2.2.1 + (k + 86)), .ref (g.2.2.1 + (k + 87)), .int 0]) := by rw [hE21, va_up_self]
  have f1_E21 : E21 (k + 1) = .inr (7, oj7 g (k + 1)) := by rw [hE21, va_up_ne _ _ (by omega)]; exact f1_E20
  have f40_E21 : E21 (k + 40) = .inr (7, oj7 g (k + 40)) := by rw [hE21, va_up_ne _ _ (by omega)]; exact f40_E20
  have f79_E21 : E21 (k + 79) = .inr (2, oj2 g (k + 79)) := by rw [hE21, va_up_ne _ _ (by omega)]; exact f79_E20
  have f81_E21 : E21 (k + 81) = .inr (0, oj0 g (k + 81)) := by rw [hE21, va_up_ne _ _ (by omega)]; exact f81_E20
  have f83_E21 : E21 (k + 83) = .inr (8, oj8 g (k + 83)) := by rw [hE21, va_up_ne _ _ (by omega)]; exact f83_E20
  have f85_E21 : E21 (k + 85) = .inl (g.2.1 3, 4, .inr (.inr (.inr (.inr (fun _ => none))))) := by rw [hE21, va_up_ne _ _ (by omega)]; exact f85_E20
  refine lv_iconst (v := (0 : Int32)) hx hb dX9_init_83 rfl ?_
  refine lv_istore_n (lv' := [(1, .int (0 : Int32)), (0, .ref (g.2.2.1 + (k + 0)))]) hx hb dX9_init_84 rfl hl (by decide) rfl (fun ls hl => ?_)
  refine lv_iload_n hx hb dX9_init_85 rfl (lv_at hl 0 rfl) ?_
  refine lv_iconst (v := (4 : Int32)) hx hb dX9_init_86 rfl ?_
  refine lv_icmp_ge (tgt := 109) hx hb dX9_init_87 (by decide) (fun c => absurd c (by decide)) (fun _ => ?_)
  refine lv_aload_n hx hb dX9_init_90 rfl (lv_at hl 1 rfl) ?_
  refine va_get hx hb hts inu9 hown hK.1 hP.1 (k + 0) ((Wn_get (by omega)).trans (by rw [f0_E21])) rfl 5 (by decide) (hts _ q2_86) (fun _ h9 => h9) (v := .ref (g.2.2.1 + (k + 85))) rfl dX9_init_91 ?_
  refine lv_iload_n hx hb dX9_init_94 rfl (lv_at hl 0 rfl) ?_
  refine n_new hx hb hown hts hK.1 hP hS (ci := 4) (fs := [.null, .int 0, .int 0]) inu4 tyX4 tyX4_ok q2_61 q2_63 q1_10 rfl (fun j hj => by rcases (show j = 0 ∨ j = 1 ∨ j = 2 by omega) with rfl | rfl | rfl <;> rfl) (Nat.le_of_ble_eq_true rfl) (Nat.le_of_ble_eq_true rfl) dX9_init_95 (fun H hP hS => ?_)
  refine W.widen (k := 88) (n := 4206) (Nat.le_of_ble_eq_true rfl) (Nat.le_of_ble_eq_true rfl) ?_
  obtain ⟨E22, hE22⟩ : ∃ F, F = va_up E21 (k + 88) (.inr (4, [.null, .int 0, .int 0])) := ⟨_, rfl⟩
  have hP : Pn g (k + 89) E22 H := by rw [hE22]; exact hP
  have f0_E22 : E22 (k + 0) = .inr (9, [.ref (g.2.2.1 + (k + 1)), .ref (g.2.2.1 + (k + 40)), .ref (g.2.2.1 + (k + 79)), .ref (g.2.2.1 + (k + 81)), .ref (g.2.2.1 + (k + 83)), .ref (g.2.2.1 + (k + 85)), .ref (g.2.2.1 + (k + 86)), .ref (g.2.2.1 + (k + 87)), .int 0]) := by rw [hE22, va_up_ne _ _ (by omega)]; exact f0_E21
  have f1_E22 : E22 (k + 1) = .inr (7, oj7 g (k + 1)) := by rw [hE22, va_up_ne _ _ (by omega)]; exact f1_E21
  have f40_E22 : E22 (k + 40) = .inr (7, oj7 g (k + 40)) := by rw [hE22, va_up_ne _ _ (by omega)]; exact f40_E21
  have f79_E22 : E22 (k + 79) = .inr (2, oj2 g (k + 79)) := by rw [hE22, va_up_ne _ _ (by omega)]; exact f79_E21
  have f81_E22 : E22 (k + 81) = .inr (0, oj0 g (k + 81)) := by rw [hE22, va_up_ne _ _ (by omega)]; exact f81_E21
  have f83_E22 : E22 (k + 83) = .inr (8, oj8 g (k + 83)) := by rw [hE22, va_up_ne _ _ (by omega)]; exact f83_E21
  have f85_E22 : E22 (k + 85) = .inl (g.2.1 3, 4, .inr (.inr (.inr (.inr (fun _ => none))))) := by rw [hE22, va_up_ne _ _ (by omega)]; exact f85_E21
  have f88_E22 : E22 (k + 88) = .inr (4, [.null, .int 0, .int 0]) := by rw [hE22, va_up_self]
  refine lv_dup hx hb dX9_init_98 rfl ?_
  refine n_callIN hx hb hml hown hts hK (rest := [.ref (g.2.2.1 + (k + 88)), .int (0 : Int32), .ref (g.2.2.1 + (k + 85))]) (k := k + 88) (i_X4 l g (k + 88) E22 f88_E22) q2_66 (by decide +kernel) q2_65 q1_10 (by decide +kernel) (by decide +kernel) ⟨rfl, rfl⟩ ⟨(Nat.le_of_ble_eq_true rfl), (Nat.le_of_ble_eq_true rfl)⟩ hP hS hl.1 rfl (Nat.le_of_ble_eq_true rfl) dX9_init_99 ⟨(Nat.le_of_ble_eq_true rfl), (Nat.le_of_ble_eq_true rfl)⟩ (fun H locs hP hS => ?_)
  refine W.widen (k := 89) (n := 4230) (Nat.le_of_ble_eq_true rfl) (Nat.le_of_ble_eq_true rfl) ?_
  obtain ⟨E23, hE23⟩ : ∃ F, F = mk4 g E22 (k + 88) := ⟨_, rfl⟩
  have hP : Pn g (k + 90) E23 H := by rw [hE23]; exact hP
  have f0_E23 : E23 (k + 0) = .inr (9, [.ref (g.2.2.1 + (k + 1)), .ref (g.2.2.1 + (k + 40)), .ref (g.2.2.1 + (k + 79)), .ref (g.2.2.1 + (k + 81)), .ref (g.2.2.1 + (k + 83)), .ref (g.2.2.1 + (k + 85)), .ref (g.2.2.1 + (k + 86)), .ref (g.2.2.1 + (k + 87)), .int 0]) := by rw [hE23, mk4_lo g E22 (by omega)]; exact f0_E22
  have f1_E23 : E23 (k + 1) = .inr (7, oj7 g (k + 1)) := by rw [hE23, mk4_lo g E22 (by omega)]; exact f1_E22
  have f40_E23 : E23 (k + 40) = .inr (7, oj7 g (k + 40)) := by rw [hE23, mk4_lo g E22 (by omega)]; exact f40_E22
  have f79_E23 : E23 (k + 79) = .inr (2, oj2 g (k + 79)) := by rw [hE23, mk4_lo g E22 (by omega)]; exact f79_E22
  have f81_E23 : E23 (k + 81) = .inr (0, oj0 g (k + 81)) := by rw [hE23, mk4_lo g E22 (by omega)]; exact f81_E22
  have f83_E23 : E23 (k + 83) = .inr (8, oj8 g (k + 83)) := by rw [hE23, mk4_lo g E22 (by omega)]; exact f83_E22
  have f85_E23 : E23 (k + 85) = .inl (g.2.1 3, 4, .inr (.inr (.inr (.inr (fun _ => none))))) := by rw [hE23, mk4_lo g E22 (by omega)]; exact f85_E22
  have f88_E23 : E23 (k + 88) = .inr (4, oj4 g (k + 88)) := by rw [hE23, mk4_at]
  refine n_aast hx hb hK.1 hP hS (k := k + 85) (kv := k + 88) (ci := 4) (t := 3) (by omega) f85_E23 (by omega) f88_E23 rfl rfl (j := 0) (by unfold vp_in; decide) rfl dX9_init_102 (fun H locs hP hS => ?_)
  obtain ⟨E24, hE24⟩ : ∃ F, F = va_up E23 (k + 85) (.inl (g.2.1 3, 4, .inr (.inr (.inr (.inr (va_up (fun _ => none) 0 (some (g.2.2.1 + (k + 88))))))))) := ⟨_, rfl⟩
  have hP : Pn g (k + 90) E24 H := by rw [hE24]; exact hP
  have f0_E24 : E24 (k + 0) = .inr (9, [.ref (g.2.2.1 + (k + 1)), .ref (g.2.2.1 + (k + 40)), .ref (g.2.2.1 + (k + 79)), .ref (g.2.2.1 + (k + 81)), .ref (g.2.2.1 + (k + 83)), .ref (g.2.2.1 + (k + 85)), .ref (g.2.2.1 + (k + 86)), .ref (g.2.2.1 + (k + 87)), .int 0]) := by rw [hE24, va_up_ne _ _ (by omega)]; exact f0_E23
  have f1_E24 : E24 (k + 1) = .inr (7, oj7 g (k + 1)) := by rw [hE24, va_up_ne _ _ (by omega)]; exact f1_E23
  have f40_E24 : E24 (k + 40) = .inr (7, oj7 g (k + 40)) := by rw [hE24, va_up_ne _ _ (by omega)]; exact f40_E23
  have f79_E24 : E24 (k + 79) = .inr (2, oj2 g (k + 79)) := by rw [hE24, va_up_ne _ _ (by omega)]; exact f79_E23
  have f81_E24 : E24 (k + 81) = .inr (0, oj0 g (k + 81)) := by rw [hE24, va_up_ne _ _ (by omega)]; exact f81_E23
  have f83_E24 : E24 (k + 83) = .inr (8, oj8 g (k + 83)) := by rw [hE24, va_up_ne _ _ (by omega)]; exact f83_E23
  have f85_E24 : E24 (k + 85) = .inl (g.2.1 3, 4, .inr (.inr (.inr (.inr (va_up (fun _ => none) 0 (some (g.2.2.1 + (k + 88)))))))) := by rw [hE24, va_up_self]
  refine lv_iinc (v := (1 : Int32)) (lv' := [(1, .int (1 : Int32)), (0, .ref (g.2.2.1 + (k + 0)))]) hx hb dX9_init_103 hl (k := 0) rfl (by decide) (by decide) rfl (fun ls hl => ?_)
  refine lv_goto (tgt := 85) hx hb dX9_init_106 (by decide) ?_
  refine lv_iload_n hx hb dX9_init_85 rfl (lv_at hl 0 rfl) ?_
  refine lv_iconst (v := (4 : Int32)) hx hb dX9_init_86 rfl ?_
  refine lv_icmp_ge (tgt := 109) hx hb dX9_init_87 (by decide) (fun c => absurd c (by decide)) (fun _ => ?_)
  refine lv_aload_n hx hb dX9_init_90 rfl (lv_at hl 1 rfl) ?_
  refine va_get hx hb hts inu9 hown hK.1 hP.1 (k + 0) ((Wn_get (by omega)).trans (by rw [f0_E24])) rfl 5 (by decide) (hts _ q2_86) (fun _ h9 => h9) (v := .ref (g.2.2.1 + (k + 85))) rfl dX9_init_91 ?_
  refine lv_iload_n hx hb dX9_init_94 rfl (lv_at hl 0 rfl) ?_
  refine n_new hx hb hown hts hK.1 hP hS (ci := 4) (fs := [.null, .int 0, .int 0]) inu4 tyX4 tyX4_ok q2_61 q2_63 q1_10 rfl (fun j hj => by rcases (show j = 0 ∨ j = 1 ∨ j = 2 by omega) with rfl | rfl | rfl <;> rfl) (Nat.le_of_ble_eq_true rfl) (Nat.le_of_ble_eq_true rfl) dX9_init_95 (fun H hP hS => ?_)
  refine W.widen (k := 90) (n := 4233) (Nat.le_of_ble_eq_true rfl) (Nat.le_of_ble_eq_true rfl) ?_
  obtain ⟨E25, hE25⟩ : ∃ F, F = va_up E24 (k + 90) (.inr (4, [.null, .int 0, .int 0])) := ⟨_, rfl⟩
  have hP : Pn g (k + 91) E25 H := by rw [hE25]; exact hP
  have f0_E25 : E25 (k + 0) = .inr (9, [.ref (g.2.2.1 + (k + 1)), .ref (g.2.2.1 + (k + 40)), .ref (g.2.2.1 + (k + 79)), .ref (g.2.2.1 + (k + 81)), .ref (g.2.2.1 + (k + 83)), .ref (g.2.2.1 + (k + 85)), .ref (g.2.2.1 + (k + 86)), .ref (g.2.2.1 + (k + 87)), .int 0]) := by rw [hE25, va_up_ne _ _ (by omega)]; exact f0_E24
  have f1_E25 : E25 (k + 1) = .inr (7, oj7 g (k + 1)) := by rw [hE25, va_up_ne _ _ (by omega)]; exact f1_E24
  have f40_E25 : E25 (k + 40) = .inr (7, oj7 g (k + 40)) := by rw [hE25, va_up_ne _ _ (by omega)]; exact f40_E24
  have f79_E25 : E25 (k + 79) = .inr (2, oj2 g (k + 79)) := by rw [hE25, va_up_ne _ _ (by omega)]; exact f79_E24
  have f81_E25 : E25 (k + 81) = .inr (0, oj0 g (k + 81)) := by rw [hE25, va_up_ne _ _ (by omega)]; exact f81_E24
  have f83_E25 : E25 (k + 83) = .inr (8, oj8 g (k + 83)) := by rw [hE25, va_up_ne _ _ (by omega)]; exact f83_E24
  have f85_E25 : E25 (k + 85) = .inl (g.2.1 3, 4, .inr (.inr (.inr (.inr (va_up (fun _ => none) 0 (some (g.2.2.1 + (k + 88)))))))) := by rw [hE25, va_up_ne _ _ (by omega)]; exact f85_E24
  have f90_E25 : E25 (k + 90) = .inr (4, [.null, .int 0, .int 0]) := by rw [hE25, va_up_self]
  refine lv_dup hx hb dX9_init_98 rfl ?_
  refine n_callIN hx hb hml hown hts hK (rest := [.ref (g.2.2.1 + (k + 90)), .int (1 : Int32), .ref (g.2.2.1 + (k + 85))]) (k := k + 90) (i_X4 l g (k + 90) E25 f90_E25) q2_66 (by decide +kernel) q2_65 q1_10 (by decide +kernel) (by decide +kernel) ⟨rfl, rfl⟩ ⟨(Nat.le_of_ble_eq_true rfl), (Nat.le_of_ble_eq_true rfl)⟩ hP hS hl.1 rfl (Nat.le_of_ble_eq_true rfl) dX9_init_99 ⟨(Nat.le_of_ble_eq_true rfl), (Nat.le_of_ble_eq_true rfl)⟩ (fun H locs hP hS => ?_)
  refine W.widen (k := 91) (n := 4257) (Nat.le_of_ble_eq_true rfl) (Nat.le_of_ble_eq_true rfl) ?_
  obtain ⟨E26, hE26⟩ : ∃ F, F = mk4 g E25 (k + 90) := ⟨_, rfl⟩
  have hP : Pn g (k + 92) E26 H := by rw [hE26]; exact hP
  have f0_E26 : E26 (k + 0) = .inr (9, [.ref (g.2.2.1 + (k + 1)), .ref (g.2.2.1 + (k + 40)), .ref (g.2.2.1 + (k + 79)), .ref (g.2.2.1 + (k + 81)), .ref (g.2.2.1 + (k + 83)), .ref (g.2.2.1 + (k + 85)), .ref (g.2.2.1 + (k + 86)), .ref (g.2.2.1 + (k + 87)), .int 0]) := by rw [hE26, mk4_lo g E25 (by omega)]; exact f0_E25
  have f1_E26 : E26 (k + 1) = .inr (7, oj7 g (k + 1)) := by rw [hE26, mk4_lo g E25 (by omega)]; exact f1_E25
  have f40_E26 : E26 (k + 40) = .inr (7, oj7 g (k + 40)) := by rw [hE26, mk4_lo g E25 (by omega)]; exact f40_E25
  have f79_E26 : E26 (k + 79) = .inr (2, oj2 g (k + 79)) := by rw [hE26, mk4_lo g E25 (by omega)]; exact f79_E25
  have f81_E26 : E26 (k + 81) = .inr (0, oj0 g (k + 81)) := by rw [hE26, mk4_lo g E25 (by omega)]; exact f81_E25
  have f83_E26 : E26 (k + 83) = .inr (8, oj8 g (k + 83)) := by rw [hE26, mk4_lo g E25 (by omega)]; exact f83_E25
  have f85_E26 : E26 (k + 85) = .inl (g.2.1 3, 4, .inr (.inr (.inr (.inr (va_up (fun _ => none) 0 (some (g.2.2.1 + (k + 88)))))))) := by rw [hE26, mk4_lo g E25 (by omega)]; exact f85_E25
  have f90_E26 : E26 (k + 90) = .inr (4, oj4 g (k + 90)) := by rw [hE26, mk4_at]
  refine n_aast hx hb hK.1 hP hS (k := k + 85) (kv := k + 90) (ci := 4) (t := 3) (by omega) f85_E26 (by omega) f90_E26 rfl rfl (j := 1) (by unfold vp_in; decide) rfl dX9_init_102 (fun H locs hP hS => ?_)
  obtain ⟨E27, hE27⟩ : ∃ F, F = va_up E26 (k + 85) (.inl (g.2.1 3, 4, .inr (.inr (.inr (.inr (va_up (va_up (fun _ => none) 0 (some (g.2.2.1 + (k + 88)))) 1 (some (g.2.2.1 + (k + 90))))))))) := ⟨_, rfl⟩
  have hP : Pn g (k + 92) E27 H := by rw [hE27]; exact hP
  have f0_E27 : E27 (k + 0) = .inr (9, [.ref (g.2.2.1 + (k + 1)), .ref (g.2.2.1 + (k + 40)), .ref (g.2.2.1 + (k + 79)), .ref (g.2.2.1 + (k + 81)), .ref (g.2.2.1 + (k + 83)), .ref (g.2.2.1 + (k + 85)), .ref (g.2.2.1 + (k + 86)), .ref (g.2.2.1 + (k + 87)), .int 0]) := by rw [hE27, va_up_ne _ _ (by omega)]; exact f0_E26
  have f1_E27 : E27 (k + 1) = .inr (7, oj7 g (k + 1)) := by rw [hE27, va_up_ne _ _ (by omega)]; exact f1_E26
  have f40_E27 : E27 (k + 40) = .inr (7, oj7 g (k + 40)) := by rw [hE27, va_up_ne _ _ (by omega)]; exact f40_E26
  have f79_E27 : E27 (k + 79) = .inr (2, oj2 g (k + 79)) := by rw [hE27, va_up_ne _ _ (by omega)]; exact f79_E26
  have f81_E27 : E27 (k + 81) = .inr (0, oj0 g (k + 81)) := by rw [hE27, va_up_ne _ _ (by omega)]; exact f81_E26
  have f83_E27 : E27 (k + 83) = .inr (8, oj8 g (k + 83)) := by rw [hE27, va_up_ne _ _ (by omega)]; exact f83_E26
  have f85_E27 : E27 (k + 85) = .inl (g.2.1 3, 4, .inr (.inr (.inr (.inr (va_up (va_up (fun _ => none) 0 (some (g.2.2.1 + (k + 88)))) 1 (some (g.2.2.1 + (k + 90)))))))) := by rw [hE27, va_up_self]
  refine lv_iinc (v := (2 : Int32)) (lv' := [(1, .int (2 : Int32)), (0, .ref (g.2.2.1 + (k + 0)))]) hx hb dX9_init_103 hl (k := 0) rfl (by decide) (by decide) rfl (fun ls hl => ?_)
  refine lv_goto (tgt := 85) hx hb dX9_init_106 (by decide) ?_
  refine lv_iload_n hx hb dX9_init_85 rfl (lv_at hl 0 rfl) ?_
  refine lv_iconst (v := (4 : Int32)) hx hb dX9_init_86 rfl ?_
  refine lv_icmp_ge (tgt := 109) hx hb dX9_init_87 (by decide) (fun c => absurd c (by decide)) (fun _ => ?_)
  refine lv_aload_n hx hb dX9_init_90 rfl (lv_at hl 1 rfl) ?_
  refine va_get hx hb hts inu9 hown hK.1 hP.1 (k + 0) ((Wn_get (by omega)).trans (by rw [f0_E27])) rfl 5 (by decide) (hts _ q2_86) (fun _ h9 => h9) (v := .ref (g.2.2.1 + (k + 85))) rfl dX9_init_91 ?_
  refine lv_iload_n hx hb dX9_init_94 rfl (lv_at hl 0 rfl) ?_
  refine n_new hx hb hown hts hK.1 hP hS (ci := 4) (fs := [.null, .int 0, .int 0]) inu4 tyX4 tyX4_ok q2_61 q2_63 q1_10 rfl (fun j hj => by rcases (show j = 0 ∨ j = 1 ∨ j = 2 by omega) with rfl | rfl | rfl <;> rfl) (Nat.le_of_ble_eq_true rfl) (Nat.le_of_ble_eq_true rfl) dX9_init_95 (fun H hP hS => ?_)
  refine W.widen (k := 92) (n := 4260) (Nat.le_of_ble_eq_true rfl) (Nat.le_of_ble_eq_true rfl) ?_
  obtain ⟨E28, hE28⟩ : ∃ F, F = va_up E27 (k + 92) (.inr (4, [.null, .int 0, .int 0])) := ⟨_, rfl⟩
  have hP : Pn g (k + 93) E28 H := by rw [hE28]; exact hP
  have f0_E28 : E28 (k + 0) = .inr (9, [.ref (g.2.2.1 + (k + 1)), .ref (g.2.2.1 + (k + 40)), .ref (g.2.2.1 + (k + 79)), .ref (g.2.2.1 + (k + 81)), .ref (g.2.2.1 + (k + 83)), .ref (g.2.2.1 + (k + 85)), .ref (g.2.2.1 + (k + 86)), .ref (g.2.2.1 + (k + 87)), .int 0]) := by rw [hE28, va_up_ne _ _ (by omega)]; exact f0_E27
  have f1_E28 : E28 (k + 1) = .inr (7, oj7 g (k + 1)) := by rw [hE28, va_up_ne _ _ (by omega)]; exact f1_E27
  have f40_E28 : E28 (k + 40) = .inr (7, oj7 g (k + 40)) := by rw [hE28, va_up_ne _ _ (by omega)]; exact f40_E27
  have f79_E28 : E28 (k + 79) = .inr (2, oj2 g (k + 79)) := by rw [hE28, va_up_ne _ _ (by omega)]; exact f79_E27
  have f81_E28 : E28 (k + 81) = .inr (0, oj0 g (k + 81)) := by rw [hE28, va_up_ne _ _ (by omega)]; exact f81_E27
  have f83_E28 : E28 (k + 83) = .inr (8, oj8 g (k + 83)) := by rw [hE28, va_up_ne _ _ (by omega)]; exact f83_E27
  have f85_E28 : E28 (k + 85) = .inl (g.2.1 3, 4, .inr (.inr (.inr (.inr (va_up (va_up (fun _ => none) 0 (some (g.2.2.1 + (k + 88)))) 1 (some (g.2.2.1 + (k + 90)))))))) := by rw [hE28, va_up_ne _ _ (by omega)]; exact f85_E27
  have f92_E28 : E28 (k + 92) = .inr (4, [.null, .int 0, .int 0]) := by rw [hE28, va_up_self]
  refine lv_dup hx hb dX9_init_98 rfl ?_
  refine n_callIN hx hb hml hown hts hK (rest := [.ref (g.2.2.1 + (k + 92)), .int (2 : Int32), .ref (g.2.2.1 + (k + 85))]) (k := k + 92) (i_X4 l g (k + 92) E28 f92_E28) q2_66 (by decide +kernel) q2_65 q1_10 (by decide +kernel) (by decide +kernel) ⟨rfl, rfl⟩ ⟨(Nat.le_of_ble_eq_true rfl), (Nat.le_of_ble_eq_true rfl)⟩ hP hS hl.1 rfl (Nat.le_of_ble_eq_true rfl) dX9_init_99 ⟨(Nat.le_of_ble_eq_true rfl), (Nat.le_of_ble_eq_true rfl)⟩ (fun H locs hP hS => ?_)
  refine W.widen (k := 93) (n := 4284) (Nat.le_of_ble_eq_true rfl) (Nat.le_of_ble_eq_true rfl) ?_
  obtain ⟨E29, hE29⟩ : ∃ F, F = mk4 g E28 (k + 92) := ⟨_, rfl⟩
  have hP : Pn g (k + 94) E29 H := by rw [hE29]; exact hP
  have f0_E29 : E29 (k + 0) = .inr (9, [.ref (g.2.2.1 + (k + 1)), .ref (g.2.2.1 + (k + 40)), .ref (g.2.2.1 + (k + 79)), .ref (g.2.2.1 + (k + 81)), .ref (g.2.2.1 + (k + 83)), .ref (g.2.2.1 + (k + 85)), .ref (g.2.2.1 + (k + 86)), .ref (g.2.2.1 + (k + 87)), .int 0]) := by rw [hE29, mk4_lo g E28 (by omega)]; exact f0_E28
  have f1_E29 : E29 (k + 1) = .inr (7, oj7 g (k + 1)) := by rw [hE29, mk4_lo g E28 (by omega)]; exact f1_E28
  have f40_E29 : E29 (k + 40) = .inr (7, oj7 g (k + 40)) := by rw [hE29, mk4_lo g E28 (by omega)]; exact f40_E28
  have f79_E29 : E29 (k + 79) = .inr (2, oj2 g (k + 79)) := by rw [hE29, mk4_lo g E28 (by omega)]; exact f79_E28
  have f81_E29 : E29 (k + 81) = .inr (0, oj0 g (k + 81)) := by rw [hE29, mk4_lo g E28 (by omega)]; exact f81_E28
  have f83_E29 : E29 (k + 83) = .inr (8, oj8 g (k + 83)) := by rw [hE29, mk4_lo g E28 (by omega)]; exact f83_E28
  have f85_E29 : E29 (k + 85) = .inl (g.2.1 3, 4, .inr (.inr (.inr (.inr (va_up (va_up (fun _ => none) 0 (some (g.2.2.1 + (k + 88)))) 1 (some (g.2.2.1 + (k + 90)))))))) := by rw [hE29, mk4_lo g E28 (by omega)]; exact f85_E28
  have f92_E29 : E29 (k + 92) = .inr (4, oj4 g (k + 92)) := by rw [hE29, mk4_at]
  refine n_aast hx hb hK.1 hP hS (k := k + 85) (kv := k + 92) (ci := 4) (t := 3) (by omega) f85_E29 (by omega) f92_E29 rfl rfl (j := 2) (by unfold vp_in; decide) rfl dX9_init_102 (fun H locs hP hS => ?_)
  obtain ⟨E30, hE30⟩ : ∃ F, F = va_up E29 (k + 85) (.inl (g.2.1 3, 4, .inr (.inr (.inr (.inr (va_up (va_up (va_up (fun _ => none) 0 (some (g.2.2.1 + (k + 88)))) 1 (some (g.2.2.1 + (k + 90)))) 2 (some (g.2.2.1 + (k + 92))))))))) := ⟨_, rfl⟩
  have hP : Pn g (k + 94) E30 H := by rw [hE30]; exact hP
  have f0_E30 : E30 (k + 0) = .inr (9, [.ref (g.2.2.1 + (k + 1)), .ref (g.2.2.1 + (k + 40)), .ref (g.2.2.1 + (k + 79)), .ref (g.2.2.1 + (k + 81)), .ref (g.2.2.1 + (k + 83)), .ref (g.2.2.1 + (k + 85)), .ref (g.2.2.1 + (k + 86)), .ref (g.2.2.1 + (k + 87)), .int 0]) := by rw [hE30, va_up_ne _ _ (by omega)]; exact f0_E29
  have f1_E30 : E30 (k + 1) = .inr (7, oj7 g (k + 1)) := by rw [hE30, va_up_ne _ _ (by omega)]; exact f1_E29
  have f40_E30 : E30 (k + 40) = .inr (7, oj7 g (k + 40)) := by rw [hE30, va_up_ne _ _ (by omega)]; exact f40_E29
  have f79_E30 : E30 (k + 79) = .inr (2, oj2 g (k + 79)) := by rw [hE30, va_up_ne _ _ (by omega)]; exact f79_E29
  have f81_E30 : E30 (k + 81) = .inr (0, oj0 g (k + 81)) := by rw [hE30, va_up_ne _ _ (by omega)]; exact f81_E29
  have f83_E30 : E30 (k + 83) = .inr (8, oj8 g (k + 83)) := by rw [hE30, va_up_ne _ _ (by omega)]; exact f83_E29
  have f85_E30 : E30 (k + 85) = .inl (g.2.1 3, 4, .inr (.inr (.inr (.inr (va_up (va_up (va_up (fun _ => none) 0 (some (g.2.2.1 + (k + 88)))) 1 (some (g.2.2.1 + (k + 90)))) 2 (some (g.2.2.1 + (k + 92)))))))) := by rw [hE30, va_up_self]
  refine lv_iinc (v := (3 : Int32)) (lv' := [(1, .int (3 : Int32)), (0, .ref (g.2.2.1 + (k + 0)))]) hx hb dX9_init_103 hl (k := 0) rfl (by decide) (by decide) rfl (fun ls hl => ?_)
  refine lv_goto (tgt := 85) hx hb dX9_init_106 (by decide) ?_
  refine lv_iload_n hx hb dX9_init_85 rfl (lv_at hl 0 rfl) ?_
  refine lv_iconst (v := (4 : Int32)) hx hb dX9_init_86 rfl ?_
  refine lv_icmp_ge (tgt := 109) hx hb dX9_init_87 (by decide) (fun c => absurd c (by decide)) (fun _ => ?_)
  refine lv_aload_n hx hb dX9_init_90 rfl (lv_at hl 1 rfl) ?_
  refine va_get hx hb hts inu9 hown hK.1 hP.1 (k + 0) ((Wn_get (by omega)).trans (by rw [f0_E30])) rfl 5 (by decide) (hts _ q2_86) (fun _ h9 => h9) (v := .ref (g.2.2.1 + (k + 85))) rfl dX9_init_91 ?_
  refine lv_iload_n hx hb dX9_init_94 rfl (lv_at hl 0 rfl) ?_
  refine n_new hx hb hown hts hK.1 hP hS (ci := 4) (fs := [.null, .int 0, .int 0]) inu4 tyX4 tyX4_ok q2_61 q2_63 q1_10 rfl (fun j hj => by rcases (show j = 0 ∨ j = 1 ∨ j = 2 by omega) with rfl | rfl | rfl <;> rfl) (Nat.le_of_ble_eq_true rfl) (Nat.le_of_ble_eq_true rfl) dX9_init_95 (fun H hP hS => ?_)
  refine W.widen (k := 94) (n := 4287) (Nat.le_of_ble_eq_true rfl) (Nat.le_of_ble_eq_true rfl) ?_
  obtain ⟨E31, hE31⟩ : ∃ F, F = va_up E30 (k + 94) (.inr (4, [.null, .int 0, .int 0])) := ⟨_, rfl⟩
  have hP : Pn g (k + 95) E31 H := by rw [hE31]; exact hP
  have f0_E31 : E31 (k + 0) = .inr (9, [.ref (g.2.2.1 + (k + 1)), .ref (g.2.2.1 + (k + 40)), .ref (g.2.2.1 + (k + 79)), .ref (g.2.2.1 + (k + 81)), .ref (g.2.2.1 + (k + 83)), .ref (g.2.2.1 + (k + 85)), .ref (g.2.2.1 + (k + 86)), .ref (g.2.2.1 + (k + 87)), .int 0]) := by rw [hE31, va_up_ne _ _ (by omega)]; exact f0_E30
  have f1_E31 : E31 (k + 1) = .inr (7, oj7 g (k + 1)) := by rw [hE31, va_up_ne _ _ (by omega)]; exact f1_E30
  have f40_E31 : E31 (k + 40) = .inr (7, oj7 g (k + 40)) := by rw [hE31, va_up_ne _ _ (by omega)]; exact f40_E30
  have f79_E31 : E31 (k + 79) = .inr (2, oj2 g (k + 79)) := by rw [hE31, va_up_ne _ _ (by omega)]; exact f79_E30
  have f81_E31 : E31 (k + 81) = .inr (0, oj0 g (k + 81)) := by rw [hE31, va_up_ne _ _ (by omega)]; exact f81_E30
  have f83_E31 : E31 (k + 83) = .inr (8, oj8 g (k + 83)) := by rw [hE31, va_up_ne _ _ (by omega)]; exact f83_E30
  have f85_E31 : E31 (k + 85) = .inl (g.2.1 3, 4, .inr (.inr (.inr (.inr (va_up (va_up (va_up (fun _ => none) 0 (some (g.2.2.1 + (k + 88)))) 1 (some (g.2.2.1 + (k + 90)))) 2 (some (g.2.2.1 + (k + 92)))))))) := by rw [hE31, va_up_ne _ _ (by omega)]; exact f85_E30
  have f94_E31 : E31 (k + 94) = .inr (4, [.null, .int 0, .int 0]) := by rw [hE31, va_up_self]
  refine lv_dup hx hb dX9_init_98 rfl ?_
  refine n_callIN hx hb hml hown hts hK (rest := [.ref (g.2.2.1 + (k + 94)), .int (3 : Int32), .ref (g.2.2.1 + (k + 85))]) (k := k + 94) (i_X4 l g (k + 94) E31 f94_E31) q2_66 (by decide +kernel) q2_65 q1_10 (by decide +kernel) (by decide +kernel) ⟨rfl, rfl⟩ ⟨(Nat.le_of_ble_eq_true rfl), (Nat.le_of_ble_eq_true rfl)⟩ hP hS hl.1 rfl (Nat.le_of_ble_eq_true rfl) dX9_init_99 ⟨(Nat.le_of_ble_eq_true rfl), (Nat.le_of_ble_eq_true rfl)⟩ (fun H locs hP hS => ?_)
  refine W.widen (k := 95) (n := 4311) (Nat.le_of_ble_eq_true rfl) (Nat.le_of_ble_eq_true rfl) ?_
  obtain ⟨E32, hE32⟩ : ∃ F, F = mk4 g E31 (k + 94) := ⟨_, rfl⟩
  have hP : Pn g (k + 96) E32 H := by rw [hE32]; exact hP
  have f0_E32 : E32 (k + 0) = .inr (9, [.ref (g.2.2.1 + (k + 1)), .ref (g.2.2.1 + (k + 40)), .ref (g.2.2.1 + (k + 79)), .ref (g.2.2.1 + (k + 81)), .ref (g.2.2.1 + (k + 83)), .ref (g.2.2.1 + (k + 85)), .ref (g.2.2.1 + (k + 86)), .ref (g.2.2.1 + (k + 87)), .int 0]) := by rw [hE32, mk4_lo g E31 (by omega)]; exact f0_E31
  have f1_E32 : E32 (k + 1) = .inr (7, oj7 g (k + 1)) := by rw [hE32, mk4_lo g E31 (by omega)]; exact f1_E31
  have f40_E32 : E32 (k + 40) = .inr (7, oj7 g (k + 40)) := by rw [hE32, mk4_lo g E31 (by omega)]; exact f40_E31
  have f79_E32 : E32 (k + 79) = .inr (2, oj2 g (k + 79)) := by rw [hE32, mk4_lo g E31 (by omega)]; exact f79_E31
  have f81_E32 : E32 (k + 81) = .inr (0, oj0 g (k + 81)) := by rw [hE32, mk4_lo g E31 (by omega)]; exact f81_E31
  have f83_E32 : E32 (k + 83) = .inr (8, oj8 g (k + 83)) := by rw [hE32, mk4_lo g E31 (by omega)]; exact f83_E31
  have f85_E32 : E32 (k + 85) = .inl (g.2.1 3, 4, .inr (.inr (.inr (.inr (va_up (va_up (va_up (fun _ => none) 0 (some (g.2.2.1 + (k + 88)))) 1 (some (g.2.2.1 + (k + 90)))) 2 (some (g.2.2.1 + (k + 92)))))))) := by rw [hE32, mk4_lo g E31 (by omega)]; exact f85_E31
  have f94_E32 : E32 (k + 94) = .inr (4, oj4 g (k + 94)) := by rw [hE32, mk4_at]
  refine n_aast hx hb hK.1 hP hS (k := k + 85) (kv := k + 94) (ci := 4) (t := 3) (by omega) f85_E32 (by omega) f94_E32 rfl rfl (j := 3) (by unfold vp_in; decide) rfl dX9_init_102 (fun H locs hP hS => ?_)
  obtain ⟨E33, hE33⟩ : ∃ F, F = va_up E32 (k + 85) (.inl (g.2.1 3, 4, .inr (.inr (.inr (.inr (va_up (va_up (va_up (va_up (fun _ => none) 0 (some (g.2.2.1 + (k + 88)))) 1 (some (g.2.2.1 + (k + 90)))) 2 (some (g.2.2.1 + (k + 92)))) 3 (some (g.2.2.1 + (k + 94))))))))) := ⟨_, rfl⟩
  have hP : Pn g (k + 96) E33 H := by rw [hE33]; exact hP
  have f0_E33 : E33 (k + 0) = .inr (9, [.ref (g.2.2.1 + (k + 1)), .ref (g.2.2.1 + (k + 40)), .ref (g.2.2.1 + (k + 79)), .ref (g.2.2.1 + (k + 81)), .ref (g.2.2.1 + (k + 83)), .ref (g.2.2.1 + (k + 85)), .ref (g.2.2.1 + (k + 86)), .ref (g.2.2.1 + (k + 87)), .int 0]) := by rw [hE33, va_up_ne _ _ (by omega)]; exact f0_E32
  have f1_E33 : E33 (k + 1) = .inr (7, oj7 g (k + 1)) := by rw [hE33, va_up_ne _ _ (by omega)]; exact f1_E32
  have f40_E33 : E33 (k + 40) = .inr (7, oj7 g (k + 40)) := by rw [hE33, va_up_ne _ _ (by omega)]; exact f40_E32
  have f79_E33 : E33 (k + 79) = .inr (2, oj2 g (k + 79)) := by rw [hE33, va_up_ne _ _ (by omega)]; exact f79_E32
  have f81_E33 : E33 (k + 81) = .inr (0, oj0 g (k + 81)) := by rw [hE33, va_up_ne _ _ (by omega)]; exact f81_E32
  have f83_E33 : E33 (k + 83) = .inr (8, oj8 g (k + 83)) := by rw [hE33, va_up_ne _ _ (by omega)]; exact f83_E32
  have f85_E33 : E33 (k + 85) = .inl (g.2.1 3, 4, .inr (.inr (.inr (.inr (va_up (va_up (va_up (va_up (fun _ => none) 0 (some (g.2.2.1 + (k + 88)))) 1 (some (g.2.2.1 + (k + 90)))) 2 (some (g.2.2.1 + (k + 92)))) 3 (some (g.2.2.1 + (k + 94)))))))) := by rw [hE33, va_up_self]
  refine lv_iinc (v := (4 : Int32)) (lv' := [(1, .int (4 : Int32)), (0, .ref (g.2.2.1 + (k + 0)))]) hx hb dX9_init_103 hl (k := 0) rfl (by decide) (by decide) rfl (fun ls hl => ?_)
  refine lv_goto (tgt := 85) hx hb dX9_init_106 (by decide) ?_
  refine lv_iload_n hx hb dX9_init_85 rfl (lv_at hl 0 rfl) ?_
  refine lv_iconst (v := (4 : Int32)) hx hb dX9_init_86 rfl ?_
  refine lv_icmp_ge (tgt := 109) hx hb dX9_init_87 (by decide) (fun _ => ?_) (fun c => absurd (by decide) c)
  refine hend H locs ls 109 ?_ hS dX9_init_109
  have hF : mk9 g E k = E33 := by
    unfold mk9
    rw [← hE1, ← hE2, ← hE3, ← hE4, ← hE5, ← hE6, ← hE7, ← hE8, ← hE9, ← hE10, ← hE11, ← hE12, ← hE13, ← hE14, ← hE15, ← hE16, ← hE17, ← hE18, ← hE19, ← hE20, ← hE21, ← hE22, ← hE23, ← hE24, ← hE25, ← hE26, ← hE27, ← hE28, ← hE29, ← hE30, ← hE31, ← hE32, ← hE33]
  rw [hF]
  exact hP
def oj10 (g : Gx) (k : Nat) : List Value := [.ref (g.2.2.1 + (k + 1)), .ref (g.2.2.1 + (k + 2)), .int 0, .int 0, .ref (g.2.2.1 + (k + 3)), .ref (g.2.2.1 + (k + 4)), .int 0, .int 0, .int 0, .int 0, .int 0, .ref (g.2.2.1 + (k + 5)), .ref (g.2.2.1 + (k + 6)), .ref (g.2.2.1 + (k + 7)), .int 0, .int 0, .int 0, .int 0, .ref (g.2.2.1 + (k + 8)), .ref (g.2.2.1 + (k + 9)), .ref (g.2.2.1 + (k + 10)), .ref (g.2.2.1 + (k + 11))]
def mk10 (g : Gx) (E : Nat → va_E) (k : Nat) : Nat → va_E := va_up (va_up (va_up (va_up (va_up (va_up (va_up (va_up (va_up (va_up (va_up (va_up (va_up (va_up (va_up (va_up (va_up (va_up (va_up (va_up (va_up (va_up (va_up (va_up (va_up (va_up (va_up (va_up (va_up (E) (k + 1) (.inl (g.2.1 1, 1944, .inl (fun _ => 0)))) (k + 0) (.inr (10, [.ref (g.2.2.1 + (k + 1)), .null, .int 0, .int 0, .null, .null, .int 0, .int 0, .int 0, .int 0, .int 0, .null, .null, .null, .int 0, .int 0, .int 0, .int 0, .null, .null, .null, .null]))) (k + 2) (.inl (g.2.1 1, 1944, .inl (fun _ => 0)))) (k + 0) (.inr (10, [.ref (g.2.2.1 + (k + 1)), .ref (g.2.2.1 + (k + 2)), .int 0, .int 0, .null, .null, .int 0, .int 0, .int 0, .int 0, .int 0, .null, .null, .null, .int 0, .int 0, .int 0, .int 0, .null, .null, .null, .null]))) (k + 3) (.inl (g.2.1 1, 1944, .inl (fun _ => 0)))) (k + 0) (.inr (10, [.ref (g.2.2.1 + (k + 1)), .ref (g.2.2.1 + (k + 2)), .int 0, .int 0, .ref (g.2.2.1 + (k + 3)), .null, .int 0, .int 0, .int 0, .int 0, .int 0, .null, .null, .null, .int 0, .int 0, .int 0, .int 0, .null, .null, .null, .null]))) (k + 4) (.inl (g.2.1 1, 6, .inl (fun _ => 0)))) (k + 0) (.inr (10, [.ref (g.2.2.1 + (k + 1)), .ref (g.2.2.1 + (k + 2)), .int 0, .int 0, .ref (g.2.2.1 + (k + 3)), .ref (g.2.2.1 + (k + 4)), .int 0, .int 0, .int 0, .int 0, .int 0, .null, .null, .null, .int 0, .int 0, .int 0, .int 0, .null, .null, .null, .null]))) (k + 5) (.inl (g.2.1 1, 7, .inl (fun _ => 0)))) (k + 0) (.inr (10, [.ref (g.2.2.1 + (k + 1)), .ref (g.2.2.1 + (k + 2)), .int 0, .int 0, .ref (g.2.2.1 + (k + 3)), .ref (g.2.2.1 + (k + 4)), .int 0, .int 0, .int 0, .int 0, .int 0, .ref (g.2.2.1 + (k + 5)), .null, .null, .int 0, .int 0, .int 0, .int 0, .null, .null, .null, .null]))) (k + 6) (.inl (g.2.1 1, 7, .inl (fun _ => 0)))) (k + 6) (.inl (g.2.1 1, 7, .inl (upd (fun _ => 0) 0 (104 : Int32))))) (k + 6) (.inl (g.2.1 1, 7, .inl (upd (upd (fun _ => 0) 0 (104 : Int32)) 1 (100 : Int32))))) (k + 6) (.inl (g.2.1 1, 7, .inl (upd (upd (upd (fun _ => 0) 0 (104 : Int32)) 1 (100 : Int32)) 2 (117 : Int32))))) (k + 6) (.inl (g.2.1 1, 7, .inl (upd (upd (upd (upd (fun _ => 0) 0 (104 : Int32)) 1 (100 : Int32)) 2 (117 : Int32)) 3 (107 : Int32))))) (k + 6) (.inl (g.2.1 1, 7, .inl (upd (upd (upd (upd (upd (fun _ => 0) 0 (104 : Int32)) 1 (100 : Int32)) 2 (117 : Int32)) 3 (107 : Int32)) 4 (111 : Int32))))) (k + 6) (.inl (g.2.1 1, 7, .inl (upd (upd (upd (upd (upd (upd (fun _ => 0) 0 (104 : Int32)) 1 (100 : Int32)) 2 (117 : Int32)) 3 (107 : Int32)) 4 (111 : Int32)) 5 (99 : Int32))))) (k + 6) (.inl (g.2.1 1, 7, .inl (upd (upd (upd (upd (upd (upd (upd (fun _ => 0) 0 (104 : Int32)) 1 (100 : Int32)) 2 (117 : Int32)) 3 (107 : Int32)) 4 (111 : Int32)) 5 (99 : Int32)) 6 (110 : Int32))))) (k + 0) (.inr (10, [.ref (g.2.2.1 + (k + 1)), .ref (g.2.2.1 + (k + 2)), .int 0, .int 0, .ref (g.2.2.1 + (k + 3)), .ref (g.2.2.1 + (k + 4)), .int 0, .int 0, .int 0, .int 0, .int 0, .ref (g.2.2.1 + (k + 5)), .ref (g.2.2.1 + (k + 6)), .null, .int 0, .int 0, .int 0, .int 0, .null, .null, .null, .null]))) (k + 7) (.inl (g.2.1 1, 40, .inl (fun _ => 0)))) (k + 0) (.inr (10, [.ref (g.2.2.1 + (k + 1)), .ref (g.2.2.1 + (k + 2)), .int 0, .int 0, .ref (g.2.2.1 + (k + 3)), .ref (g.2.2.1 + (k + 4)), .int 0, .int 0, .int 0, .int 0, .int 0, .ref (g.2.2.1 + (k + 5)), .ref (g.2.2.1 + (k + 6)), .ref (g.2.2.1 + (k + 7)), .int 0, .int 0, .int 0, .int 0, .null, .null, .null, .null]))) (k + 8) (.inl (g.2.1 1, 4, .inl (fun _ => 0)))) (k + 0) (.inr (10, [.ref (g.2.2.1 + (k + 1)), .ref (g.2.2.1 + (k + 2)), .int 0, .int 0, .ref (g.2.2.1 + (k + 3)), .ref (g.2.2.1 + (k + 4)), .int 0, .int 0, .int 0, .int 0, .int 0, .ref (g.2.2.1 + (k + 5)), .ref (g.2.2.1 + (k + 6)), .ref (g.2.2.1 + (k + 7)), .int 0, .int 0, .int 0, .int 0, .ref (g.2.2.1 + (k + 8)), .null, .null, .null]))) (k + 9) (.inl (g.2.1 1, 4, .inl (fun _ => 0)))) (k + 0) (.inr (10, [.ref (g.2.2.1 + (k + 1)), .ref (g.2.2.1 + (k + 2)), .int 0, .int 0, .ref (g.2.2.1 + (k + 3)), .ref (g.2.2.1 + (k + 4)), .int 0, .int 0, .int 0, .int 0, .int 0, .ref (g.2.2.1 + (k + 5)), .ref (g.2.2.1 + (k + 6)), .ref (g.2.2.1 + (k + 7)), .int 0, .int 0, .int 0, .int 0, .ref (g.2.2.1 + (k + 8)), .ref (g.2.2.1 + (k + 9)), .null, .null]))) (k + 10) (.inl (g.2.1 1, 96, .inl (fun _ => 0)))) (k + 0) (.inr (10, [.ref (g.2.2.1 + (k + 1)), .ref (g.2.2.1 + (k + 2)), .int 0, .int 0, .ref (g.2.2.1 + (k + 3)), .ref (g.2.2.1 + (k + 4)), .int 0, .int 0, .int 0, .int 0, .int 0, .ref (g.2.2.1 + (k + 5)), .ref (g.2.2.1 + (k + 6)), .ref (g.2.2.1 + (k + 7)), .int 0, .int 0, .int 0, .int 0, .ref (g.2.2.1 + (k + 8)), .ref (g.2.2.1 + (k + 9)), .ref (g.2.2.1 + (k + 10)), .null]))) (k + 11) (.inl (g.2.1 1, 24, .inl (fun _ => 0)))) (k + 0) (.inr (10, [.ref (g.2.2.1 + (k + 1)), .ref (g.2.2.1 + (k + 2)), .int 0, .int 0, .ref (g.2.2.1 + (k + 3)), .ref (g.2.2.1 + (k + 4)), .int 0, .int 0, .int 0, .int 0, .int 0, .ref (g.2.2.1 + (k + 5)), .ref (g.2.2.1 + (k + 6)), .ref (g.2.2.1 + (k + 7)), .int 0, .int 0, .int 0, .int 0, .ref (g.2.2.1 + (k + 8)), .ref (g.2.2.1 + (k + 9)), .ref (g.2.2.1 + (k + 10)), .ref (g.2.2.1 + (k + 11))]))
theorem mk10_lo (g : Gx) (E : Nat → va_E) {k j : Nat} (h : j < k) : mk10 g E k j = E j := by
  unfold mk10
  rw [va_up_ne _ _ (by omega)]
  rw [va_up_ne _ _ (by omega)]
  rw [va_up_ne _ _ (by omega)]
  rw [va_up_ne _ _ (by omega)]
  rw [va_up_ne _ _ (by omega)]
  rw [va_up_ne _ _ (by omega)]
  rw [va_up_ne _ _ (by omega)]
  rw [va_up_ne _ _ (by omega)]
  rw [va_up_ne _ _ (by omega)]
  rw [va_up_ne _ _ (by omega)]
  rw [va_up_ne _ _ (by omega)]
  rw [va_up_ne _ _ (by omega)]
  rw [va_up_ne _ _ (by omega)]
  rw [va_up_ne _ _ (by omega)]
  rw [va_up_ne _ _ (by omega)]
  rw [va_up_ne _ _ (by omega)]
  rw [va_up_ne _ _ (by omega)]
  rw [va_up_ne _ _ (by omega)]
  rw [va_up_ne _ _ (by omega)]
  rw [va_up_ne _ _ (by omega)]
  rw [va_up_ne _ _ (by omega)]
  rw [va_up_ne _ _ (by omega)]
  rw [va_up_ne _ _ (by omega)]
  rw [va_up_ne _ _ (by omega)]
  rw [va_up_ne _ _ (by omega)]
  rw [va_up_ne _ _ (by omega)]
  rw [va_up_ne _ _ (by omega)]
  rw [va_up_ne _ _ (by omega)]
  rw [va_up_ne _ _ (by omega)]
theorem mk10_at (g : Gx) (E : Nat → va_E) (k : Nat) : mk10 g E k k = .inr (10, oj10 g k) := by
  unfold mk10
  rw [show k + 0 = k from rfl, va_up_self]
  rfl
set_option maxRecDepth 100000 in
set_option maxHeartbeats 4000000 in
theorem i_X10 (l : Launch) (g : Gx) (k : Nat) (E : Nat → va_E) (hE0 : E k = .inr (10, [.null, .null, .int 0, .int 0, .null, .null, .int 0, .int 0, .int 0, .int 0, .int 0, .null, .null, .null, .int 0, .int 0, .int 0, .int 0, .null, .null, .null, .null])) : Ci g l yX10_init cX10_init 1 { frames := 1, cells := 11, slots := 6020, locals := 12 } k E (k + 12) (mk10 g E k) 11 6020 := by
  refine n_met rfl rfl (by decide) ?_
  intro p e s m below meth c args hx hb hin hml hown hts hK hP hend ls hl
  have hown : s.vm.findClass RX10 = some m.cls := hown
  have hS : va_S (An g) s.heap s.heap [] := va_S.rf
  have hl : lv_has ls 1 [(0, .ref (g.2.2.1 + (k + 0)))] := hl
  refine lv_aload_n hx hb dX10_init_0 rfl (lv_at hl 0 rfl) ?_
  refine W.objInit hx hb hown (hts _ q4_133) (hts _ q1_21) (hts _ q1_22) rfl (by rw [hml]; exact hl.1) rfl dX10_init_1 (Nat.le_of_ble_eq_true rfl) (Nat.le_of_ble_eq_true rfl) ?_
  refine W.eq (g2 := F0 m 4 ls []) rfl ?_
  refine lv_aload_n hx hb dX10_init_4 rfl (lv_at hl 0 rfl) ?_
  refine lv_sipush (v := (1944 : Int32)) hx hb dX10_init_5 (by decide +kernel) ?_
  refine n_newi hx hb hts hK.1 hP hS q1_54 (by decide) (N := 1944) rfl (Nat.le_of_ble_eq_true rfl) (Nat.le_of_ble_eq_true rfl) (Nat.le_of_ble_eq_true rfl) dX10_init_8 (fun H hP hS => ?_)
  refine W.widen (k := 1) (n := 1944) (Nat.le_of_ble_eq_true rfl) (Nat.le_of_ble_eq_true rfl) ?_
  obtain ⟨E1, hE1⟩ : ∃ F, F = va_up E (k + 1) (.inl (g.2.1 1, 1944, .inl (fun _ => 0))) := ⟨_, rfl⟩
  have hP : Pn g (k + 2) E1 H := by rw [hE1]; exact hP
  have f0_E1 : E1 (k + 0) = .inr (10, [.null, .null, .int 0, .int 0, .null, .null, .int 0, .int 0, .int 0, .int 0, .int 0, .null, .null, .null, .int 0, .int 0, .int 0, .int 0, .null, .null, .null, .null]) := by rw [hE1, va_up_ne _ _ (by omega)]; exact hE0
  have f1_E1 : E1 (k + 1) = .inl (g.2.1 1, 1944, .inl (fun _ => 0)) := by rw [hE1, va_up_self]
  refine n_putF hx hb hown hts hK.1 hP hS hin inu10 tyX10 tyX10_ok nmX10 (k := k + 0) (by omega) f0_E1 rfl 0 (by decide) q4_134 rfl rfl rfl rfl (Nat.le_of_ble_eq_true rfl) (fs2 := [.ref (g.2.2.1 + (k + 1)), .null, .int 0, .int 0, .null, .null, .int 0, .int 0, .int 0, .int 0, .int 0, .null, .null, .null, .int 0, .int 0, .int 0, .int 0, .null, .null, .null, .null]) rfl dX10_init_10 (fun H locs hP hS => ?_)
  obtain ⟨E2, hE2⟩ : ∃ F, F = va_up E1 (k + 0) (.inr (10, [.ref (g.2.2.1 + (k + 1)), .null, .int 0, .int 0, .null, .null, .int 0, .int 0, .int 0, .int 0, .int 0, .null, .null, .null, .int 0, .int 0, .int 0, .int 0, .null, .null, .null, .null])) := ⟨_, rfl⟩
  have hP : Pn g (k + 2) E2 H := by rw [hE2]; exact hP
  have f0_E2 : E2 (k + 0) = .inr (10, [.ref (g.2.2.1 + (k + 1)), .null, .int 0, .int 0, .null, .null, .int 0, .int 0, .int 0, .int 0, .int 0, .null, .null, .null, .int 0, .int 0, .int 0, .int 0, .null, .null, .null, .null]) := by rw [hE2, va_up_self]
  refine lv_aload_n hx hb dX10_init_13 rfl (lv_at hl 0 rfl) ?_
  refine lv_sipush (v := (1944 : Int32)) hx hb dX10_init_14 (by decide +kernel) ?_
  refine n_newi hx hb hts hK.1 hP hS q1_54 (by decide) (N := 1944) rfl (Nat.le_of_ble_eq_true rfl) (Nat.le_of_ble_eq_true rfl) (Nat.le_of_ble_eq_true rfl) dX10_init_17 (fun H hP hS => ?_)
  refine W.widen (k := 2) (n := 3888) (Nat.le_of_ble_eq_true rfl) (Nat.le_of_ble_eq_true rfl) ?_
  obtain ⟨E3, hE3⟩ : ∃ F, F = va_up E2 (k + 2) (.inl (g.2.1 1, 1944, .inl (fun _ => 0))) := ⟨_, rfl⟩
  have hP : Pn g (k + 3) E3 H := by rw [hE3]; exact hP
  have f0_E3 : E3 (k + 0) = .inr (10, [.ref (g.2.2.1 + (k + 1)), .null, .int 0, .int 0, .null, .null, .int 0, .int 0, .int 0, .int 0, .int 0, .null, .null, .null, .int 0, .int 0, .int 0, .int 0, .null, .null, .null, .null]) := by rw [hE3, va_up_ne _ _ (by omega)]; exact f0_E2
  have f2_E3 : E3 (k + 2) = .inl (g.2.1 1, 1944, .inl (fun _ => 0)) := by rw [hE3, va_up_self]
  refine n_putF hx hb hown hts hK.1 hP hS hin inu10 tyX10 tyX10_ok nmX10 (k := k + 0) (by omega) f0_E3 rfl 1 (by decide) q4_135 rfl rfl rfl rfl (Nat.le_of_ble_eq_true rfl) (fs2 := [.ref (g.2.2.1 + (k + 1)), .ref (g.2.2.1 + (k + 2)), .int 0, .int 0, .null, .null, .int 0, .int 0, .int 0, .int 0, .int 0, .null, .null, .null, .int 0, .int 0, .int 0, .int 0, .null, .null, .null, .null]) rfl dX10_init_19 (fun H locs hP hS => ?_)
  obtain ⟨E4, hE4⟩ : ∃ F, F = va_up E3 (k + 0) (.inr (10, [.ref (g.2.2.1 + (k + 1)), .ref (g.2.2.1 + (k + 2)), .int 0, .int 0, .null, .null, .int 0, .int 0, .int 0, .int 0, .int 0, .null, .null, .null, .int 0, .int 0, .int 0, .int 0, .null, .null, .null, .null])) := ⟨_, rfl⟩
  have hP : Pn g (k + 3) E4 H := by rw [hE4]; exact hP
  have f0_E4 : E4 (k + 0) = .inr (10, [.ref (g.2.2.1 + (k + 1)), .ref (g.2.2.1 + (k + 2)), .int 0, .int 0, .null, .null, .int 0, .int 0, .int 0, .int 0, .int 0, .null, .null, .null, .int 0, .int 0, .int 0, .int 0, .null, .null, .null, .null]) := by rw [hE4, va_up_self]
  refine lv_aload_n hx hb dX10_init_22 rfl (lv_at hl 0 rfl) ?_
  refine lv_sipush (v := (1944 : Int32)) hx hb dX10_init_23 (by decide +kernel) ?_
  refine n_newi hx hb hts hK.1 hP hS q1_54 (by decide) (N := 1944) rfl (Nat.le_of_ble_eq_true rfl) (Nat.le_of_ble_eq_true rfl) (Nat.le_of_ble_eq_true rfl) dX10_init_26 (fun H hP hS => ?_)
  refine W.widen (k := 3) (n := 5832) (Nat.le_of_ble_eq_true rfl) (Nat.le_of_ble_eq_true rfl) ?_
  obtain ⟨E5, hE5⟩ : ∃ F, F = va_up E4 (k + 3) (.inl (g.2.1 1, 1944, .inl (fun _ => 0))) := ⟨_, rfl⟩
  have hP : Pn g (k + 4) E5 H := by rw [hE5]; exact hP
  have f0_E5 : E5 (k + 0) = .inr (10, [.ref (g.2.2.1 + (k + 1)), .ref (g.2.2.1 + (k + 2)), .int 0, .int 0, .null, .null, .int 0, .int 0, .int 0, .int 0, .int 0, .null, .null, .null, .int 0, .int 0, .int 0, .int 0, .null, .null, .null, .null]) := by rw [hE5, va_up_ne _ _ (by omega)]; exact f0_E4
  have f3_E5 : E5 (k + 3) = .inl (g.2.1 1, 1944, .inl (fun _ => 0)) := by rw [hE5, va_up_self]
  refine n_putF hx hb hown hts hK.1 hP hS hin inu10 tyX10 tyX10_ok nmX10 (k := k + 0) (by omega) f0_E5 rfl 4 (by decide) q4_138 rfl rfl rfl rfl (Nat.le_of_ble_eq_true rfl) (fs2 := [.ref (g.2.2.1 + (k + 1)), .ref (g.2.2.1 + (k + 2)), .int 0, .int 0, .ref (g.2.2.1 + (k + 3)), .null, .int 0, .int 0, .int 0, .int 0, .int 0, .null, .null, .null, .int 0, .int 0, .int 0, .int 0, .null, .null, .null, .null]) rfl dX10_init_28 (fun H locs hP hS => ?_)
  obtain ⟨E6, hE6⟩ : ∃ F, F = va_up E5 (k + 0) (.inr (10, [.ref (g.2.2.1 + (k + 1)), .ref (g.2.2.1 + (k + 2)), .int 0, .int 0, .ref (g.2.2.1 + (k + 3)), .null, .int 0, .int 0, .int 0, .int 0, .int 0, .null, .null, .null, .int 0, .int 0, .int 0, .int 0, .null, .null, .null, .null])) := ⟨_, rfl⟩
  have hP : Pn g (k + 4) E6 H := by rw [hE6]; exact hP
  have f0_E6 : E6 (k + 0) = .inr (10, [.ref (g.2.2.1 + (k + 1)), .ref (g.2.2.1 + (k + 2)), .int 0, .int 0, .ref (g.2.2.1 + (k + 3)), .null, .int 0, .int 0, .int 0, .int 0, .int 0, .null, .null, .null, .int 0, .int 0, .int 0, .int 0, .null, .null, .null, .null]) := by rw [hE6, va_up_self]
  refine lv_aload_n hx hb dX10_init_31 rfl (lv_at hl 0 rfl) ?_
  refine lv_bipush (v := (6 : Int32)) hx hb dX10_init_32 (by decide +kernel) ?_
  refine n_newi hx hb hts hK.1 hP hS q1_54 (by decide) (N := 6) rfl (Nat.le_of_ble_eq_true rfl) (Nat.le_of_ble_eq_true rfl) (Nat.le_of_ble_eq_true rfl) dX10_init_34 (fun H hP hS => ?_)
  refine W.widen (k := 4) (n := 5838) (Nat.le_of_ble_eq_true rfl) (Nat.le_of_ble_eq_true rfl) ?_
  obtain ⟨E7, hE7⟩ : ∃ F, F = va_up E6 (k + 4) (.inl (g.2.1 1, 6, .inl (fun _ => 0))) := ⟨_, rfl⟩
  have hP : Pn g (k + 5) E7 H := by rw [hE7]; exact hP
  have f0_E7 : E7 (k + 0) = .inr (10, [.ref (g.2.2.1 + (k + 1)), .ref (g.2.2.1 + (k + 2)), .int 0, .int 0, .ref (g.2.2.1 + (k + 3)), .null, .int 0, .int 0, .int 0, .int 0, .int 0, .null, .null, .null, .int 0, .int 0, .int 0, .int 0, .null, .null, .null, .null]) := by rw [hE7, va_up_ne _ _ (by omega)]; exact f0_E6
  have f4_E7 : E7 (k + 4) = .inl (g.2.1 1, 6, .inl (fun _ => 0)) := by rw [hE7, va_up_self]
  refine n_putF hx hb hown hts hK.1 hP hS hin inu10 tyX10 tyX10_ok nmX10 (k := k + 0) (by omega) f0_E7 rfl 5 (by decide) q4_139 rfl rfl rfl rfl (Nat.le_of_ble_eq_true rfl) (fs2 := [.ref (g.2.2.1 + (k + 1)), .ref (g.2.2.1 + (k + 2)), .int 0, .int 0, .ref (g.2.2.1 + (k + 3)), .ref (g.2.2.1 + (k + 4)), .int 0, .int 0, .int 0, .int 0, .int 0, .null, .null, .null, .int 0, .int 0, .int 0, .int 0, .null, .null, .null, .null]) rfl dX10_init_36 (fun H locs hP hS => ?_)
  obtain ⟨E8, hE8⟩ : ∃ F, F = va_up E7 (k + 0) (.inr (10, [.ref (g.2.2.1 + (k + 1)), .ref (g.2.2.1 + (k + 2)), .int 0, .int 0, .ref (g.2.2.1 + (k + 3)), .ref (g.2.2.1 + (k + 4)), .int 0, .int 0, .int 0, .int 0, .int 0, .null, .null, .null, .int 0, .int 0, .int 0, .int 0, .null, .null, .null, .null])) := ⟨_, rfl⟩
  have hP : Pn g (k + 5) E8 H := by rw [hE8]; exact hP
  have f0_E8 : E8 (k + 0) = .inr (10, [.ref (g.2.2.1 + (k + 1)), .ref (g.2.2.1 + (k + 2)), .int 0, .int 0, .ref (g.2.2.1 + (k + 3)), .ref (g.2.2.1 + (k + 4)), .int 0, .int 0, .int 0, .int 0, .int 0, .null, .null, .null, .int 0, .int 0, .int 0, .int 0, .null, .null, .null, .null]) := by rw [hE8, va_up_self]
  refine lv_aload_n hx hb dX10_init_39 rfl (lv_at hl 0 rfl) ?_
  refine lv_bipush (v := (7 : Int32)) hx hb dX10_init_40 (by decide +kernel) ?_
  refine n_newi hx hb hts hK.1 hP hS q1_54 (by decide) (N := 7) rfl (Nat.le_of_ble_eq_true rfl) (Nat.le_of_ble_eq_true rfl) (Nat.le_of_ble_eq_true rfl) dX10_init_42 (fun H hP hS => ?_)
  refine W.widen (k := 5) (n := 5845) (Nat.le_of_ble_eq_true rfl) (Nat.le_of_ble_eq_true rfl) ?_
  obtain ⟨E9, hE9⟩ : ∃ F, F = va_up E8 (k + 5) (.inl (g.2.1 1, 7, .inl (fun _ => 0))) := ⟨_, rfl⟩
  have hP : Pn g (k + 6) E9 H := by rw [hE9]; exact hP
  have f0_E9 : E9 (k + 0) = .inr (10, [.ref (g.2.2.1 + (k + 1)), .ref (g.2.2.1 + (k + 2)), .int 0, .int 0, .ref (g.2.2.1 + (k + 3)), .ref (g.2.2.1 + (k + 4)), .int 0, .int 0, .int 0, .int 0, .int 0, .null, .null, .null, .int 0, .int 0, .int 0, .int 0, .null, .null, .null, .null]) := by rw [hE9, va_up_ne _ _ (by omega)]; exact f0_E8
  have f5_E9 : E9 (k + 5) = .inl (g.2.1 1, 7, .inl (fun _ => 0)) := by rw [hE9, va_up_self]
  refine n_putF hx hb hown hts hK.1 hP hS hin inu10 tyX10 tyX10_ok nmX10 (k := k + 0) (by omega) f0_E9 rfl 11 (by decide) q4_145 rfl rfl rfl rfl (Nat.le_of_ble_eq_true rfl) (fs2 := [.ref (g.2.2.1 + (k + 1)), .ref (g.2.2.1 + (k + 2)), .int 0, .int 0, .ref (g.2.2.1 + (k + 3)), .ref (g.2.2.1 + (k + 4)), .int 0, .int 0, .int 0, .int 0, .int 0, .ref (g.2.2.1 + (k + 5)), .null, .null, .int 0, .int 0, .int 0, .int 0, .null, .null, .null, .null]) rfl dX10_init_44 (fun H locs hP hS => ?_)
  obtain ⟨E10, hE10⟩ : ∃ F, F = va_up E9 (k + 0) (.inr (10, [.ref (g.2.2.1 + (k + 1)), .ref (g.2.2.1 + (k + 2)), .int 0, .int 0, .ref (g.2.2.1 + (k + 3)), .ref (g.2.2.1 + (k + 4)), .int 0, .int 0, .int 0, .int 0, .int 0, .ref (g.2.2.1 + (k + 5)), .null, .null, .int 0, .int 0, .int 0, .int 0, .null, .null, .null, .null])) := ⟨_, rfl⟩
  have hP : Pn g (k + 6) E10 H := by rw [hE10]; exact hP
  have f0_E10 : E10 (k + 0) = .inr (10, [.ref (g.2.2.1 + (k + 1)), .ref (g.2.2.1 + (k + 2)), .int 0, .int 0, .ref (g.2.2.1 + (k + 3)), .ref (g.2.2.1 + (k + 4)), .int 0, .int 0, .int 0, .int 0, .int 0, .ref (g.2.2.1 + (k + 5)), .null, .null, .int 0, .int 0, .int 0, .int 0, .null, .null, .null, .null]) := by rw [hE10, va_up_self]
  refine lv_aload_n hx hb dX10_init_47 rfl (lv_at hl 0 rfl) ?_
  refine lv_bipush (v := (7 : Int32)) hx hb dX10_init_48 (by decide +kernel) ?_
  refine n_newi hx hb hts hK.1 hP hS q1_54 (by decide) (N := 7) rfl (Nat.le_of_ble_eq_true rfl) (Nat.le_of_ble_eq_true rfl) (Nat.le_of_ble_eq_true rfl) dX10_init_50 (fun H hP hS => ?_)
  refine W.widen (k := 6) (n := 5852) (Nat.le_of_ble_eq_true rfl) (Nat.le_of_ble_eq_true rfl) ?_
  obtain ⟨E11, hE11⟩ : ∃ F, F = va_up E10 (k + 6) (.inl (g.2.1 1, 7, .inl (fun _ => 0))) := ⟨_, rfl⟩
  have hP : Pn g (k + 7) E11 H := by rw [hE11]; exact hP
  have f0_E11 : E11 (k + 0) = .inr (10, [.ref (g.2.2.1 + (k + 1)), .ref (g.2.2.1 + (k + 2)), .int 0, .int 0, .ref (g.2.2.1 + (k + 3)), .ref (g.2.2.1 + (k + 4)), .int 0, .int 0, .int 0, .int 0, .int 0, .ref (g.2.2.1 + (k + 5)), .null, .null, .int 0, .int 0, .int 0, .int 0, .null, .null, .null, .null]) := by rw [hE11, va_up_ne _ _ (by omega)]; exact f0_E10
  have f6_E11 : E11 (k + 6) = .inl (g.2.1 1, 7, .inl (fun _ => 0)) := by rw [hE11, va_up_self]
  refine lv_dup hx hb dX10_init_52 rfl ?_
  refine lv_iconst (v := (0 : Int32)) hx hb dX10_init_53 rfl ?_
  refine lv_bipush (v := (104 : Int32)) hx hb dX10_init_54 (by decide +kernel) ?_
  refine n_iast hx hb hK.1 hP hS (k := k + 6) (by omega) f6_E11 (j := 0) (by unfold vp_in; decide) rfl dX10_init_56 (fun H locs hP hS => ?_)
  obtain ⟨E12, hE12⟩ : ∃ F, F = va_up E11 (k + 6) (.inl (g.2.1 1, 7, .inl (upd (fun _ => 0) 0 (104 : Int32)))) := ⟨_, rfl⟩
  have hP : Pn g (k + 7) E12 H := by rw [hE12]; exact hP
  have f0_E12 : E12 (k + 0) = .inr (10, [.ref (g.2.2.1 + (k + 1)), .ref (g.2.2.1 + (k + 2)), .int 0, .int 0, .ref (g.2.2.1 + (k + 3)), .ref (g.2.2.1 + (k + 4)), .int 0, .int 0, .int 0, .int 0, .int 0, .ref (g.2.2.1 + (k + 5)), .null, .null, .int 0, .int 0, .int 0, .int 0, .null, .null, .null, .null]) := by rw [hE12, va_up_ne _ _ (by omega)]; exact f0_E11
  have f6_E12 : E12 (k + 6) = .inl (g.2.1 1, 7, .inl (upd (fun _ => 0) 0 (104 : Int32))) := by rw [hE12, va_up_self]
  refine lv_dup hx hb dX10_init_57 rfl ?_
  refine lv_iconst (v := (1 : Int32)) hx hb dX10_init_58 rfl ?_
  refine lv_bipush (v := (100 : Int32)) hx hb dX10_init_59 (by decide +kernel) ?_
  refine n_iast hx hb hK.1 hP hS (k := k + 6) (by omega) f6_E12 (j := 1) (by unfold vp_in; decide) rfl dX10_init_61 (fun H locs hP hS => ?_)
  obtain ⟨E13, hE13⟩ : ∃ F, F = va_up E12 (k + 6) (.inl (g.2.1 1, 7, .inl (upd (upd (fun _ => 0) 0 (104 : Int32)) 1 (100 : Int32)))) := ⟨_, rfl⟩
  have hP : Pn g (k + 7) E13 H := by rw [hE13]; exact hP
  have f0_E13 : E13 (k + 0) = .inr (10, [.ref (g.2.2.1 + (k + 1)), .ref (g.2.2.1 + (k + 2)), .int 0, .int 0, .ref (g.2.2.1 + (k + 3)), .ref (g.2.2.1 + (k + 4)), .int 0, .int 0, .int 0, .int 0, .int 0, .ref (g.2.2.1 + (k + 5)), .null, .null, .int 0, .int 0, .int 0, .int 0, .null, .null, .null, .null]) := by rw [hE13, va_up_ne _ _ (by omega)]; exact f0_E12
  have f6_E13 : E13 (k + 6) = .inl (g.2.1 1, 7, .inl (upd (upd (fun _ => 0) 0 (104 : Int32)) 1 (100 : Int32))) := by rw [hE13, va_up_self]
  refine lv_dup hx hb dX10_init_62 rfl ?_
  refine lv_iconst (v := (2 : Int32)) hx hb dX10_init_63 rfl ?_
  refine lv_bipush (v := (117 : Int32)) hx hb dX10_init_64 (by decide +kernel) ?_
  refine n_iast hx hb hK.1 hP hS (k := k + 6) (by omega) f6_E13 (j := 2) (by unfold vp_in; decide) rfl dX10_init_66 (fun H locs hP hS => ?_)
  obtain ⟨E14, hE14⟩ : ∃ F, F = va_up E13 (k + 6) (.inl (g.2.1 1, 7, .inl (upd (upd (upd (fun _ => 0) 0 (104 : Int32)) 1 (100 : Int32)) 2 (117 : Int32)))) := ⟨_, rfl⟩
  have hP : Pn g (k + 7) E14 H := by rw [hE14]; exact hP
  have f0_E14 : E14 (k + 0) = .inr (10, [.ref (g.2.2.1 + (k + 1)), .ref (g.2.2.1 + (k + 2)), .int 0, .int 0, .ref (g.2.2.1 + (k + 3)), .ref (g.2.2.1 + (k + 4)), .int 0, .int 0, .int 0, .int 0, .int 0, .ref (g.2.2.1 + (k + 5)), .null, .null, .int 0, .int 0, .int 0, .int 0, .null, .null, .null, .null]) := by rw [hE14, va_up_ne _ _ (by omega)]; exact f0_E13
  have f6_E14 : E14 (k + 6) = .inl (g.2.1 1, 7, .inl (upd (upd (upd (fun _ => 0) 0 (104 : Int32)) 1 (100 : Int32)) 2 (117 : Int32))) := by rw [hE14, va_up_self]
  refine lv_dup hx hb dX10_init_67 rfl ?_
  refine lv_iconst (v := (3 : Int32)) hx hb dX10_init_68 rfl ?_
  refine lv_bipush (v := (107 : Int32)) hx hb dX10_init_69 (by decide +kernel) ?_
  refine n_iast hx hb hK.1 hP hS (k := k + 6) (by omega) f6_E14 (j := 3) (by unfold vp_in; decide) rfl dX10_init_71 (fun H locs hP hS => ?_)
  obtain ⟨E15, hE15⟩ : ∃ F, F = va_up E14 (k + 6) (.inl (g.2.1 1, 7, .inl (upd (upd (upd (upd (fun _ => 0) 0 (104 : Int32)) 1 (100 : Int32)) 2 (117 : Int32)) 3 (107 : Int32)))) := ⟨_, rfl⟩
  have hP : Pn g (k + 7) E15 H := by rw [hE15]; exact hP
  have f0_E15 : E15 (k + 0) = .inr (10, [.ref (g.2.2.1 + (k + 1)), .ref (g.2.2.1 + (k + 2)), .int 0, .int 0, .ref (g.2.2.1 + (k + 3)), .ref (g.2.2.1 + (k + 4)), .int 0, .int 0, .int 0, .int 0, .int 0, .ref (g.2.2.1 + (k + 5)), .null, .null, .int 0, .int 0, .int 0, .int 0, .null, .null, .null, .null]) := by rw [hE15, va_up_ne _ _ (by omega)]; exact f0_E14
  have f6_E15 : E15 (k + 6) = .inl (g.2.1 1, 7, .inl (upd (upd (upd (upd (fun _ => 0) 0 (104 : Int32)) 1 (100 : Int32)) 2 (117 : Int32)) 3 (107 : Int32))) := by rw [hE15, va_up_self]
  refine lv_dup hx hb dX10_init_72 rfl ?_
  refine lv_iconst (v := (4 : Int32)) hx hb dX10_init_73 rfl ?_
  refine lv_bipush (v := (111 : Int32)) hx hb dX10_init_74 (by decide +kernel) ?_
  refine n_iast hx hb hK.1 hP hS (k := k + 6) (by omega) f6_E15 (j := 4) (by unfold vp_in; decide) rfl dX10_init_76 (fun H locs hP hS => ?_)
  obtain ⟨E16, hE16⟩ : ∃ F, F = va_up E15 (k + 6) (.inl (g.2.1 1, 7, .inl (upd (upd (upd (upd (upd (fun _ => 0) 0 (104 : Int32)) 1 (100 : Int32)) 2 (117 : Int32)) 3 (107 : Int32)) 4 (111 : Int32)))) := ⟨_, rfl⟩
  have hP : Pn g (k + 7) E16 H := by rw [hE16]; exact hP
  have f0_E16 : E16 (k + 0) = .inr (10, [.ref (g.2.2.1 + (k + 1)), .ref (g.2.2.1 + (k + 2)), .int 0, .int 0, .ref (g.2.2.1 + (k + 3)), .ref (g.2.2.1 + (k + 4)), .int 0, .int 0, .int 0, .int 0, .int 0, .ref (g.2.2.1 + (k + 5)), .null, .null, .int 0, .int 0, .int 0, .int 0, .null, .null, .null, .null]) := by rw [hE16, va_up_ne _ _ (by omega)]; exact f0_E15
  have f6_E16 : E16 (k + 6) = .inl (g.2.1 1, 7, .inl (upd (upd (upd (upd (upd (fun _ => 0) 0 (104 : Int32)) 1 (100 : Int32)) 2 (117 : Int32)) 3 (107 : Int32)) 4 (111 : Int32))) := by rw [hE16, va_up_self]
  refine lv_dup hx hb dX10_init_77 rfl ?_
  refine lv_iconst (v := (5 : Int32)) hx hb dX10_init_78 rfl ?_
  refine lv_bipush (v := (99 : Int32)) hx hb dX10_init_79 (by decide +kernel) ?_
  refine n_iast hx hb hK.1 hP hS (k := k + 6) (by omega) f6_E16 (j := 5) (by unfold vp_in; decide) rfl dX10_init_81 (fun H locs hP hS => ?_)
  obtain ⟨E17, hE17⟩ : ∃ F, F = va_up E16 (k + 6) (.inl (g.2.1 1, 7, .inl (upd (upd (upd (upd (upd (upd (fun _ => 0) 0 (104 : Int32)) 1 (100 : Int32)) 2 (117 : Int32)) 3 (107 : Int32)) 4 (111 : Int32)) 5 (99 : Int32)))) := ⟨_, rfl⟩
  have hP : Pn g (k + 7) E17 H := by rw [hE17]; exact hP
  have f0_E17 : E17 (k + 0) = .inr (10, [.ref (g.2.2.1 + (k + 1)), .ref (g.2.2.1 + (k + 2)), .int 0, .int 0, .ref (g.2.2.1 + (k + 3)), .ref (g.2.2.1 + (k + 4)), .int 0, .int 0, .int 0, .int 0, .int 0, .ref (g.2.2.1 + (k + 5)), .null, .null, .int 0, .int 0, .int 0, .int 0, .null, .null, .null, .null]) := by rw [hE17, va_up_ne _ _ (by omega)]; exact f0_E16
  have f6_E17 : E17 (k + 6) = .inl (g.2.1 1, 7, .inl (upd (upd (upd (upd (upd (upd (fun _ => 0) 0 (104 : Int32)) 1 (100 : Int32)) 2 (117 : Int32)) 3 (107 : Int32)) 4 (111 : Int32)) 5 (99 : Int32))) := by rw [hE17, va_up_self]
  refine lv_dup hx hb dX10_init_82 rfl ?_
  refine lv_bipush (v := (6 : Int32)) hx hb dX10_init_83 (by decide +kernel) ?_
  refine lv_bipush (v := (110 : Int32)) hx hb dX10_init_85 (by decide +kernel) ?_
  refine n_iast hx hb hK.1 hP hS (k := k + 6) (by omega) f6_E17 (j := 6) (by unfold vp_in; decide) rfl dX10_init_87 (fun H locs hP hS => ?_)
  obtain ⟨E18, hE18⟩ : ∃ F, F = va_up E17 (k + 6) (.inl (g.2.1 1, 7, .inl (upd (upd (upd (upd (upd (upd (upd (fun _ => 0) 0 (104 : Int32)) 1 (100 : Int32)) 2 (117 : Int32)) 3 (107 : Int32)) 4 (111 : Int32)) 5 (99 : Int32)) 6 (110 : Int32)))) := ⟨_, rfl⟩
  have hP : Pn g (k + 7) E18 H := by rw [hE18]; exact hP
  have f0_E18 : E18 (k + 0) = .inr (10, [.ref (g.2.2.1 + (k + 1)), .ref (g.2.2.1 + (k + 2)), .int 0, .int 0, .ref (g.2.2.1 + (k + 3)), .ref (g.2.2.1 + (k + 4)), .int 0, .int 0, .int 0, .int 0, .int 0, .ref (g.2.2.1 + (k + 5)), .null, .null, .int 0, .int 0, .int 0, .int 0, .null, .null, .null, .null]) := by rw [hE18, va_up_ne _ _ (by omega)]; exact f0_E17
  have f6_E18 : E18 (k + 6) = .inl (g.2.1 1, 7, .inl (upd (upd (upd (upd (upd (upd (upd (fun _ => 0) 0 (104 : Int32)) 1 (100 : Int32)) 2 (117 : Int32)) 3 (107 : Int32)) 4 (111 : Int32)) 5 (99 : Int32)) 6 (110 : Int32))) := by rw [hE18, va_up_self]
  refine n_putF hx hb hown hts hK.1 hP hS hin inu10 tyX10 tyX10_ok nmX10 (k := k + 0) (by omega) f0_E18 rfl 12 (by decide) q4_146 rfl rfl rfl rfl (Nat.le_of_ble_eq_true rfl) (fs2 := [.ref (g.2.2.1 + (k + 1)), .ref (g.2.2.1 + (k + 2)), .int 0, .int 0, .ref (g.2.2.1 + (k + 3)), .ref (g.2.2.1 + (k + 4)), .int 0, .int 0, .int 0, .int 0, .int 0, .ref (g.2.2.1 + (k + 5)), .ref (g.2.2.1 + (k + 6)), .null, .int 0, .int 0, .int 0, .int 0, .null, .null, .null, .null]) rfl dX10_init_88 (fun H locs hP hS => ?_)
  obtain ⟨E19, hE19⟩ : ∃ F, F = va_up E18 (k + 0) (.inr (10, [.ref (g.2.2.1 + (k + 1)), .ref (g.2.2.1 + (k + 2)), .int 0, .int 0, .ref (g.2.2.1 + (k + 3)), .ref (g.2.2.1 + (k + 4)), .int 0, .int 0, .int 0, .int 0, .int 0, .ref (g.2.2.1 + (k + 5)), .ref (g.2.2.1 + (k + 6)), .null, .int 0, .int 0, .int 0, .int 0, .null, .null, .null, .null])) := ⟨_, rfl⟩
  have hP : Pn g (k + 7) E19 H := by rw [hE19]; exact hP
  have f0_E19 : E19 (k + 0) = .inr (10, [.ref (g.2.2.1 + (k + 1)), .ref (g.2.2.1 + (k + 2)), .int 0, .int 0, .ref (g.2.2.1 + (k + 3)), .ref (g.2.2.1 + (k + 4)), .int 0, .int 0, .int 0, .int 0, .int 0, .ref (g.2.2.1 + (k + 5)), .ref (g.2.2.1 + (k + 6)), .null, .int 0, .int 0, .int 0, .int 0, .null, .null, .null, .null]) := by rw [hE19, va_up_self]
  refine lv_aload_n hx hb dX10_init_91 rfl (lv_at hl 0 rfl) ?_
  refine lv_bipush (v := (40 : Int32)) hx hb dX10_init_92 (by decide +kernel) ?_
  refine n_newi hx hb hts hK.1 hP hS q1_54 (by decide) (N := 40) rfl (Nat.le_of_ble_eq_true rfl) (Nat.le_of_ble_eq_true rfl) (Nat.le_of_ble_eq_true rfl) dX10_init_94 (fun H hP hS => ?_)
  refine W.widen (k := 7) (n := 5892) (Nat.le_of_ble_eq_true rfl) (Nat.le_of_ble_eq_true rfl) ?_
  obtain ⟨E20, hE20⟩ : ∃ F, F = va_up E19 (k + 7) (.inl (g.2.1 1, 40, .inl (fun _ => 0))) := ⟨_, rfl⟩
  have hP : Pn g (k + 8) E20 H := by rw [hE20]; exact hP
  have f0_E20 : E20 (k + 0) = .inr (10, [.ref (g.2.2.1 + (k + 1)), .ref (g.2.2.1 + (k + 2)), .int 0, .int 0, .ref (g.2.2.1 + (k + 3)), .ref (g.2.2.1 + (k + 4)), .int 0, .int 0, .int 0, .int 0, .int 0, .ref (g.2.2.1 + (k + 5)), .ref (g.2.2.1 + (k + 6)), .null, .int 0, .int 0, .int 0, .int 0, .null, .null, .null, .null]) := by rw [hE20, va_up_ne _ _ (by omega)]; exact f0_E19
  have f7_E20 : E20 (k + 7) = .inl (g.2.1 1, 40, .inl (fun _ => 0)) := by rw [hE20, va_up_self]
  refine n_putF hx hb hown hts hK.1 hP hS hin inu10 tyX10 tyX10_ok nmX10 (k := k + 0) (by omega) f0_E20 rfl 13 (by decide) q4_147 rfl rfl rfl rfl (Nat.le_of_ble_eq_true rfl) (fs2 := [.ref (g.2.2.1 + (k + 1)), .ref (g.2.2.1 + (k + 2)), .int 0, .int 0, .ref (g.2.2.1 + (k + 3)), .ref (g.2.2.1 + (k + 4)), .int 0, .int 0, .int 0, .int 0, .int 0, .ref (g.2.2.1 + (k + 5)), .ref (g.2.2.1 + (k + 6)), .ref (g.2.2.1 + (k + 7)), .int 0, .int 0, .int 0, .int 0, .null, .null, .null, .null]) rfl dX10_init_96 (fun H locs hP hS => ?_)
  obtain ⟨E21, hE21⟩ : ∃ F, F = va_up E20 (k + 0) (.inr (10, [.ref (g.2.2.1 + (k + 1)), .ref (g.2.2.1 + (k + 2)), .int 0, .int 0, .ref (g.2.2.1 + (k + 3)), .ref (g.2.2.1 + (k + 4)), .int 0, .int 0, .int 0, .int 0, .int 0, .ref (g.2.2.1 + (k + 5)), .ref (g.2.2.1 + (k + 6)), .ref (g.2.2.1 + (k + 7)), .int 0, .int 0, .int 0, .int 0, .null, .null, .null, .null])) := ⟨_, rfl⟩
  have hP : Pn g (k + 8) E21 H := by rw [hE21]; exact hP
  have f0_E21 : E21 (k + 0) = .inr (10, [.ref (g.2.2.1 + (k + 1)), .ref (g.2.2.1 + (k + 2)), .int 0, .int 0, .ref (g.2.2.1 + (k + 3)), .ref (g.2.2.1 + (k + 4)), .int 0, .int 0, .int 0, .int 0, .int 0, .ref (g.2.2.1 + (k + 5)), .ref (g.2.2.1 + (k + 6)), .ref (g.2.2.1 + (k + 7)), .int 0, .int 0, .int 0, .int 0, .null, .null, .null, .null]) := by rw [hE21, va_up_self]
  refine lv_aload_n hx hb dX10_init_99 rfl (lv_at hl 0 rfl) ?_
  refine lv_iconst (v := (4 : Int32)) hx hb dX10_init_100 rfl ?_
  refine n_newi hx hb hts hK.1 hP hS q1_54 (by decide) (N := 4) rfl (Nat.le_of_ble_eq_true rfl) (Nat.le_of_ble_eq_true rfl) (Nat.le_of_ble_eq_true rfl) dX10_init_101 (fun H hP hS => ?_)
  refine W.widen (k := 8) (n := 5896) (Nat.le_of_ble_eq_true rfl) (Nat.le_of_ble_eq_true rfl) ?_
  obtain ⟨E22, hE22⟩ : ∃ F, F = va_up E21 (k + 8) (.inl (g.2.1 1, 4, .inl (fun _ => 0))) := ⟨_, rfl⟩
  have hP : Pn g (k + 9) E22 H := by rw [hE22]; exact hP
  have f0_E22 : E22 (k + 0) = .inr (10, [.ref (g.2.2.1 + (k + 1)), .ref (g.2.2.1 + (k + 2)), .int 0, .int 0, .ref (g.2.2.1 + (k + 3)), .ref (g.2.2.1 + (k + 4)), .int 0, .int 0, .int 0, .int 0, .int 0, .ref (g.2.2.1 + (k + 5)), .ref (g.2.2.1 + (k + 6)), .ref (g.2.2.1 + (k + 7)), .int 0, .int 0, .int 0, .int 0, .null, .null, .null, .null]) := by rw [hE22, va_up_ne _ _ (by omega)]; exact f0_E21
  have f8_E22 : E22 (k + 8) = .inl (g.2.1 1, 4, .inl (fun _ => 0)) := by rw [hE22, va_up_self]
  refine n_putF hx hb hown hts hK.1 hP hS hin inu10 tyX10 tyX10_ok nmX10 (k := k + 0) (by omega) f0_E22 rfl 18 (by decide) q4_152 rfl rfl rfl rfl (Nat.le_of_ble_eq_true rfl) (fs2 := [.ref (g.2.2.1 + (k + 1)), .ref (g.2.2.1 + (k + 2)), .int 0, .int 0, .ref (g.2.2.1 + (k + 3)), .ref (g.2.2.1 + (k + 4)), .int 0, .int 0, .int 0, .int 0, .int 0, .ref (g.2.2.1 + (k + 5)), .ref (g.2.2.1 + (k + 6)), .ref (g.2.2.1 + (k + 7)), .int 0, .int 0, .int 0, .int 0, .ref (g.2.2.1 + (k + 8)), .null, .null, .null]) rfl dX10_init_103 (fun H locs hP hS => ?_)
  obtain ⟨E23, hE23⟩ : ∃ F, F = va_up E22 (k + 0) (.inr (10, [.ref (g.2.2.1 + (k + 1)), .ref (g.2.2.1 + (k + 2)), .int 0, .int 0, .ref (g.2.2.1 + (k + 3)), .ref (g.2.2.1 + (k + 4)), .int 0, .int 0, .int 0, .int 0, .int 0, .ref (g.2.2.1 + (k + 5)), .ref (g.2.2.1 + (k + 6)), .ref (g.2.2.1 + (k + 7)), .int 0, .int 0, .int 0, .int 0, .ref (g.2.2.1 + (k + 8)), .null, .null, .null])) := ⟨_, rfl⟩
  have hP : Pn g (k + 9) E23 H := by rw [hE23]; exact hP
  have f0_E23 : E23 (k + 0) = .inr (10, [.ref (g.2.2.1 + (k + 1)), .ref (g.2.2.1 + (k + 2)), .int 0, .int 0, .ref (g.2.2.1 + (k + 3)), .ref (g.2.2.1 + (k + 4)), .int 0, .int 0, .int 0, .int 0, .int 0, .ref (g.2.2.1 + (k + 5)), .ref (g.2.2.1 + (k + 6)), .ref (g.2.2.1 + (k + 7)), .int 0, .int 0, .int 0, .int 0, .ref (g.2.2.1 + (k + 8)), .null, .null, .null]) := by rw [hE23, va_up_self]
  refine lv_aload_n hx hb dX10_init_106 rfl (lv_at hl 0 rfl) ?_
  refine lv_iconst (v := (4 : Int32)) hx hb dX10_init_107 rfl ?_
  refine n_newi hx hb hts hK.1 hP hS q1_54 (by decide) (N := 4) rfl (Nat.le_of_ble_eq_true rfl) (Nat.le_of_ble_eq_true rfl) (Nat.le_of_ble_eq_true rfl) dX10_init_108 (fun H hP hS => ?_)
  refine W.widen (k := 9) (n := 5900) (Nat.le_of_ble_eq_true rfl) (Nat.le_of_ble_eq_true rfl) ?_
  obtain ⟨E24, hE24⟩ : ∃ F, F = va_up E23 (k + 9) (.inl (g.2.1 1, 4, .inl (fun _ => 0))) := ⟨_, rfl⟩
  have hP : Pn g (k + 10) E24 H := by rw [hE24]; exact hP
  have f0_E24 : E24 (k + 0) = .inr (10, [.ref (g.2.2.1 + (k + 1)), .ref (g.2.2.1 + (k + 2)), .int 0, .int 0, .ref (g.2.2.1 + (k + 3)), .ref (g.2.2.1 + (k + 4)), .int 0, .int 0, .int 0, .int 0, .int 0, .ref (g.2.2.1 + (k + 5)), .ref (g.2.2.1 + (k + 6)), .ref (g.2.2.1 + (k + 7)), .int 0, .int 0, .int 0, .int 0, .ref (g.2.2.1 + (k + 8)), .null, .null, .null]) := by rw [hE24, va_up_ne _ _ (by omega)]; exact f0_E23
  have f9_E24 : E24 (k + 9) = .inl (g.2.1 1, 4, .inl (fun _ => 0)) := by rw [hE24, va_up_self]
  refine n_putF hx hb hown hts hK.1 hP hS hin inu10 tyX10 tyX10_ok nmX10 (k := k + 0) (by omega) f0_E24 rfl 19 (by decide) q4_153 rfl rfl rfl rfl (Nat.le_of_ble_eq_true rfl) (fs2 := [.ref (g.2.2.1 + (k + 1)), .ref (g.2.2.1 + (k + 2)), .int 0, .int 0, .ref (g.2.2.1 + (k + 3)), .ref (g.2.2.1 + (k + 4)), .int 0, .int 0, .int 0, .int 0, .int 0, .ref (g.2.2.1 + (k + 5)), .ref (g.2.2.1 + (k + 6)), .ref (g.2.2.1 + (k + 7)), .int 0, .int 0, .int 0, .int 0, .ref (g.2.2.1 + (k + 8)), .ref (g.2.2.1 + (k + 9)), .null, .null]) rfl dX10_init_110 (fun H locs hP hS => ?_)
  obtain ⟨E25, hE25⟩ : ∃ F, F = va_up E24 (k + 0) (.inr (10, [.ref (g.2.2.1 + (k + 1)), .ref (g.2.2.1 + (k + 2)), .int 0, .int 0, .ref (g.2.2.1 + (k + 3)), .ref (g.2.2.1 + (k + 4)), .int 0, .int 0, .int 0, .int 0, .int 0, .ref (g.2.2.1 + (k + 5)), .ref (g.2.2.1 + (k + 6)), .ref (g.2.2.1 + (k + 7)), .int 0, .int 0, .int 0, .int 0, .ref (g.2.2.1 + (k + 8)), .ref (g.2.2.1 + (k + 9)), .null, .null])) := ⟨_, rfl⟩
  have hP : Pn g (k + 10) E25 H := by rw [hE25]; exact hP
  have f0_E25 : E25 (k + 0) = .inr (10, [.ref (g.2.2.1 + (k + 1)), .ref (g.2.2.1 + (k + 2)), .int 0, .int 0, .ref (g.2.2.1 + (k + 3)), .ref (g.2.2.1 + (k + 4)), .int 0, .int 0, .int 0, .int 0, .int 0, .ref (g.2.2.1 + (k + 5)), .ref (g.2.2.1 + (k + 6)), .ref (g.2.2.1 + (k + 7)), .int 0, .int 0, .int 0, .int 0, .ref (g.2.2.1 + (k + 8)), .ref (g.2.2.1 + (k + 9)), .null, .null]) := by rw [hE25, va_up_self]
  refine lv_aload_n hx hb dX10_init_113 rfl (lv_at hl 0 rfl) ?_
  refine lv_bipush (v := (96 : Int32)) hx hb dX10_init_114 (by decide +kernel) ?_
  refine n_newi hx hb hts hK.1 hP hS q1_54 (by decide) (N := 96) rfl (Nat.le_of_ble_eq_true rfl) (Nat.le_of_ble_eq_true rfl) (Nat.le_of_ble_eq_true rfl) dX10_init_116 (fun H hP hS => ?_)
  refine W.widen (k := 10) (n := 5996) (Nat.le_of_ble_eq_true rfl) (Nat.le_of_ble_eq_true rfl) ?_
  obtain ⟨E26, hE26⟩ : ∃ F, F = va_up E25 (k + 10) (.inl (g.2.1 1, 96, .inl (fun _ => 0))) := ⟨_, rfl⟩
  have hP : Pn g (k + 11) E26 H := by rw [hE26]; exact hP
  have f0_E26 : E26 (k + 0) = .inr (10, [.ref (g.2.2.1 + (k + 1)), .ref (g.2.2.1 + (k + 2)), .int 0, .int 0, .ref (g.2.2.1 + (k + 3)), .ref (g.2.2.1 + (k + 4)), .int 0, .int 0, .int 0, .int 0, .int 0, .ref (g.2.2.1 + (k + 5)), .ref (g.2.2.1 + (k + 6)), .ref (g.2.2.1 + (k + 7)), .int 0, .int 0, .int 0, .int 0, .ref (g.2.2.1 + (k + 8)), .ref (g.2.2.1 + (k + 9)), .null, .null]) := by rw [hE26, va_up_ne _ _ (by omega)]; exact f0_E25
  have f10_E26 : E26 (k + 10) = .inl (g.2.1 1, 96, .inl (fun _ => 0)) := by rw [hE26, va_up_self]
  refine n_putF hx hb hown hts hK.1 hP hS hin inu10 tyX10 tyX10_ok nmX10 (k := k + 0) (by omega) f0_E26 rfl 20 (by decide) q4_154 rfl rfl rfl rfl (Nat.le_of_ble_eq_true rfl) (fs2 := [.ref (g.2.2.1 + (k + 1)), .ref (g.2.2.1 + (k + 2)), .int 0, .int 0, .ref (g.2.2.1 + (k + 3)), .ref (g.2.2.1 + (k + 4)), .int 0, .int 0, .int 0, .int 0, .int 0, .ref (g.2.2.1 + (k + 5)), .ref (g.2.2.1 + (k + 6)), .ref (g.2.2.1 + (k + 7)), .int 0, .int 0, .int 0, .int 0, .ref (g.2.2.1 + (k + 8)), .ref (g.2.2.1 + (k + 9)), .ref (g.2.2.1 + (k + 10)), .null]) rfl dX10_init_118 (fun H locs hP hS => ?_)
  obtain ⟨E27, hE27⟩ : ∃ F, F = va_up E26 (k + 0) (.inr (10, [.ref (g.2.2.1 + (k + 1)), .ref (g.2.2.1 + (k + 2)), .int 0, .int 0, .ref (g.2.2.1 + (k + 3)), .ref (g.2.2.1 + (k + 4)), .int 0, .int 0, .int 0, .int 0, .int 0, .ref (g.2.2.1 + (k + 5)), .ref (g.2.2.1 + (k + 6)), .ref (g.2.2.1 + (k + 7)), .int 0, .int 0, .int 0, .int 0, .ref (g.2.2.1 + (k + 8)), .ref (g.2.2.1 + (k + 9)), .ref (g.2.2.1 + (k + 10)), .null])) := ⟨_, rfl⟩
  have hP : Pn g (k + 11) E27 H := by rw [hE27]; exact hP
  have f0_E27 : E27 (k + 0) = .inr (10, [.ref (g.2.2.1 + (k + 1)), .ref (g.2.2.1 + (k + 2)), .int 0, .int 0, .ref (g.2.2.1 + (k + 3)), .ref (g.2.2.1 + (k + 4)), .int 0, .int 0, .int 0, .int 0, .int 0, .ref (g.2.2.1 + (k + 5)), .ref (g.2.2.1 + (k + 6)), .ref (g.2.2.1 + (k + 7)), .int 0, .int 0, .int 0, .int 0, .ref (g.2.2.1 + (k + 8)), .ref (g.2.2.1 + (k + 9)), .ref (g.2.2.1 + (k + 10)), .null]) := by rw [hE27, va_up_self]
  refine lv_aload_n hx hb dX10_init_121 rfl (lv_at hl 0 rfl) ?_
  refine lv_bipush (v := (24 : Int32)) hx hb dX10_init_122 (by decide +kernel) ?_
  refine n_newi hx hb hts hK.1 hP hS q1_54 (by decide) (N := 24) rfl (Nat.le_of_ble_eq_true rfl) (Nat.le_of_ble_eq_true rfl) (Nat.le_of_ble_eq_true rfl) dX10_init_124 (fun H hP hS => ?_)
  refine W.widen (k := 11) (n := 6020) (Nat.le_of_ble_eq_true rfl) (Nat.le_of_ble_eq_true rfl) ?_
  obtain ⟨E28, hE28⟩ : ∃ F, F = va_up E27 (k + 11) (.inl (g.2.1 1, 24, .inl (fun _ => 0))) := ⟨_, rfl⟩
  have hP : Pn g (k + 12) E28 H := by rw [hE28]; exact hP
  have f0_E28 : E28 (k + 0) = .inr (10, [.ref (g.2.2.1 + (k + 1)), .ref (g.2.2.1 + (k + 2)), .int 0, .int 0, .ref (g.2.2.1 + (k + 3)), .ref (g.2.2.1 + (k + 4)), .int 0, .int 0, .int 0, .int 0, .int 0, .ref (g.2.2.1 + (k + 5)), .ref (g.2.2.1 + (k + 6)), .ref (g.2.2.1 + (k + 7)), .int 0, .int 0, .int 0, .int 0, .ref (g.2.2.1 + (k + 8)), .ref (g.2.2.1 + (k + 9)), .ref (g.2.2.1 + (k + 10)), .null]) := by rw [hE28, va_up_ne _ _ (by omega)]; exact f0_E27
  have f11_E28 : E28 (k + 11) = .inl (g.2.1 1, 24, .inl (fun _ => 0)) := by rw [hE28, va_up_self]
  refine n_putF hx hb hown hts hK.1 hP hS hin inu10 tyX10 tyX10_ok nmX10 (k := k + 0) (by omega) f0_E28 rfl 21 (by decide) q4_155 rfl rfl rfl rfl (Nat.le_of_ble_eq_true rfl) (fs2 := [.ref (g.2.2.1 + (k + 1)), .ref (g.2.2.1 + (k + 2)), .int 0, .int 0, .ref (g.2.2.1 + (k + 3)), .ref (g.2.2.1 + (k + 4)), .int 0, .int 0, .int 0, .int 0, .int 0, .ref (g.2.2.1 + (k + 5)), .ref (g.2.2.1 + (k + 6)), .ref (g.2.2.1 + (k + 7)), .int 0, .int 0, .int 0, .int 0, .ref (g.2.2.1 + (k + 8)), .ref (g.2.2.1 + (k + 9)), .ref (g.2.2.1 + (k + 10)), .ref (g.2.2.1 + (k + 11))]) rfl dX10_init_126 (fun H locs hP hS => ?_)
  obtain ⟨E29, hE29⟩ : ∃ F, F = va_up E28 (k + 0) (.inr (10, [.ref (g.2.2.1 + (k + 1)), .ref (g.2.2.1 + (k + 2)), .int 0, .int 0, .ref (g.2.2.1 + (k + 3)), .ref (g.2.2.1 + (k + 4)), .int 0, .int 0, .int 0, .int 0, .int 0, .ref (g.2.2.1 + (k + 5)), .ref (g.2.2.1 + (k + 6)), .ref (g.2.2.1 + (k + 7)), .int 0, .int 0, .int 0, .int 0, .ref (g.2.2.1 + (k + 8)), .ref (g.2.2.1 + (k + 9)), .ref (g.2.2.1 + (k + 10)), .ref (g.2.2.1 + (k + 11))])) := ⟨_, rfl⟩
  have hP : Pn g (k + 12) E29 H := by rw [hE29]; exact hP
  have f0_E29 : E29 (k + 0) = .inr (10, [.ref (g.2.2.1 + (k + 1)), .ref (g.2.2.1 + (k + 2)), .int 0, .int 0, .ref (g.2.2.1 + (k + 3)), .ref (g.2.2.1 + (k + 4)), .int 0, .int 0, .int 0, .int 0, .int 0, .ref (g.2.2.1 + (k + 5)), .ref (g.2.2.1 + (k + 6)), .ref (g.2.2.1 + (k + 7)), .int 0, .int 0, .int 0, .int 0, .ref (g.2.2.1 + (k + 8)), .ref (g.2.2.1 + (k + 9)), .ref (g.2.2.1 + (k + 10)), .ref (g.2.2.1 + (k + 11))]) := by rw [hE29, va_up_self]
  refine hend H locs ls 129 ?_ hS dX10_init_129
  have hF : mk10 g E k = E29 := by
    unfold mk10
    rw [← hE1, ← hE2, ← hE3, ← hE4, ← hE5, ← hE6, ← hE7, ← hE8, ← hE9, ← hE10, ← hE11, ← hE12, ← hE13, ← hE14, ← hE15, ← hE16, ← hE17, ← hE18, ← hE19, ← hE20, ← hE21, ← hE22, ← hE23, ← hE24, ← hE25, ← hE26, ← hE27, ← hE28, ← hE29]
  rw [hF]
  exact hP
