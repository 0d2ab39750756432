/-! the start: the classes, the static arrays, the two objects -/
theorem tb1_30 : (Jvm.Cond.arrayOver (Jvm.ClassFile.FieldType.object "CoinMeter$Meter")) ∈ lw_tbl := List.mem_append_right _ (List.mem_append_left _ (List.mem_of_getElem? (i := 30) rfl))
theorem tb1_33 : (Jvm.Cond.methodLinkNest "CoinMeter$Town" (19 : Nat) ({ cls := "CoinMeter$Shops", name := "<init>", desc := "()V" } : Jvm.MethodName) "CoinMeter") ∈ lw_tbl := List.mem_append_right _ (List.mem_append_left _ (List.mem_of_getElem? (i := 33) rfl))
theorem tb1_57 : (Jvm.Cond.methodLinkNest "CoinMeter$Town" (26 : Nat) ({ cls := "CoinMeter$Laws", name := "<init>", desc := "()V" } : Jvm.MethodName) "CoinMeter") ∈ lw_tbl := List.mem_append_right _ (List.mem_append_left _ (List.mem_of_getElem? (i := 57) rfl))
theorem tb1_83 : (Jvm.Cond.methodLinkNest "CoinMeter$Town" (33 : Nat) ({ cls := "CoinMeter$Readings", name := "<init>", desc := "()V" } : Jvm.MethodName) "CoinMeter") ∈ lw_tbl := List.mem_append_right _ (List.mem_append_left _ (List.mem_of_getElem? (i := 83) rfl))
theorem tb1_108 : (Jvm.Cond.methodLinkNest "CoinMeter$Town" (40 : Nat) ({ cls := "CoinMeter$Toppings", name := "<init>", desc := "()V" } : Jvm.MethodName) "CoinMeter") ∈ lw_tbl := List.mem_append_right _ (List.mem_append_left _ (List.mem_of_getElem? (i := 108) rfl))
theorem tb1_135 : (Jvm.Cond.methodLinkNest "CoinMeter$Town" (49 : Nat) ({ cls := "CoinMeter$Meter", name := "<init>", desc := "()V" } : Jvm.MethodName) "CoinMeter") ∈ lw_tbl := List.mem_append_right _ (List.mem_append_left _ (List.mem_of_getElem? (i := 135) rfl))
theorem tb2_18 : (Jvm.Cond.methodLinkNest "CoinMeter" (21 : Nat) ({ cls := "CoinMeter$Meter", name := "<init>", desc := "()V" } : Jvm.MethodName) "CoinMeter") ∈ lw_tbl := List.mem_append_right _ (List.mem_append_right _ (List.mem_append_left _ (List.mem_of_getElem? (i := 18) rfl)))
theorem tb2_21 : (Jvm.Cond.methodLinkNest "CoinMeter" (28 : Nat) ({ cls := "CoinMeter$LawReader", name := "<init>", desc := "()V" } : Jvm.MethodName) "CoinMeter") ∈ lw_tbl := List.mem_append_right _ (List.mem_append_right _ (List.mem_append_left _ (List.mem_of_getElem? (i := 21) rfl)))
theorem tb2_48 : (Jvm.Cond.methodLinkNest "CoinMeter" (35 : Nat) ({ cls := "CoinMeter$Voices", name := "<init>", desc := "()V" } : Jvm.MethodName) "CoinMeter") ∈ lw_tbl := List.mem_append_right _ (List.mem_append_right _ (List.mem_append_left _ (List.mem_of_getElem? (i := 48) rfl)))
theorem tb2_62 : (Jvm.Cond.arrayOver (Jvm.ClassFile.FieldType.object "CoinMeter$Sheet")) ∈ lw_tbl := List.mem_append_right _ (List.mem_append_right _ (List.mem_append_left _ (List.mem_of_getElem? (i := 62) rfl)))
theorem tb2_64 : (Jvm.Cond.methodLinkNest "CoinMeter" (53 : Nat) ({ cls := "CoinMeter$Sheet", name := "<init>", desc := "()V" } : Jvm.MethodName) "CoinMeter") ∈ lw_tbl := List.mem_append_right _ (List.mem_append_right _ (List.mem_append_left _ (List.mem_of_getElem? (i := 64) rfl)))
theorem tb2_148 : (Jvm.Cond.methodLinkNest "CoinMeter$Meter" (65 : Nat) ({ cls := "CoinMeter", name := "isKind", desc := "(I)Z" } : Jvm.MethodName) "CoinMeter") ∈ lw_tbl := List.mem_append_right _ (List.mem_append_right _ (List.mem_append_left _ (List.mem_of_getElem? (i := 148) rfl)))
theorem tb2_149 : (Jvm.Cond.fieldLinkNest "CoinMeter$Meter" (69 : Nat) "CoinMeter" "KIND_ABOVE" "[I" "CoinMeter") ∈ lw_tbl := List.mem_append_right _ (List.mem_append_right _ (List.mem_append_left _ (List.mem_of_getElem? (i := 149) rfl)))
theorem tb2_150 : (Jvm.Cond.laysStatic "CoinMeter" "KIND_ABOVE" "[I") ∈ lw_tbl := List.mem_append_right _ (List.mem_append_right _ (List.mem_append_left _ (List.mem_of_getElem? (i := 150) rfl)))
theorem tb3_38 : (Jvm.Cond.methodLinkNest "CoinMeter$Laws" (49 : Nat) ({ cls := "CoinMeter", name := "within", desc := "(III)I" } : Jvm.MethodName) "CoinMeter") ∈ lw_tbl := List.mem_append_right _ (List.mem_append_right _ (List.mem_append_right _ (List.mem_append_left _ (List.mem_of_getElem? (i := 38) rfl))))
theorem tb3_172 : (Jvm.Cond.methodLinkNest "CoinMeter$Town" (112 : Nat) ({ cls := "CoinMeter", name := "isFriendly", desc := "(I)Z" } : Jvm.MethodName) "CoinMeter") ∈ lw_tbl := List.mem_append_right _ (List.mem_append_right _ (List.mem_append_right _ (List.mem_append_left _ (List.mem_of_getElem? (i := 172) rfl))))
theorem tb4_37 : (Jvm.Cond.methodLinkNest "CoinMeter$Voices" (32 : Nat) ({ cls := "CoinMeter", name := "isKind", desc := "(I)Z" } : Jvm.MethodName) "CoinMeter") ∈ lw_tbl := List.mem_append_right _ (List.mem_append_right _ (List.mem_append_right _ (List.mem_append_right _ (List.mem_append_left _ (List.mem_of_getElem? (i := 37) rfl)))))
theorem tb4_39 : (Jvm.Cond.laysStatic "CoinMeter$Voices" "BODIES" "[I") ∈ lw_tbl := List.mem_append_right _ (List.mem_append_right _ (List.mem_append_right _ (List.mem_append_right _ (List.mem_append_left _ (List.mem_of_getElem? (i := 39) rfl)))))
theorem tb4_40 : (Jvm.Cond.fieldLinkNest "CoinMeter$Voices" (39 : Nat) "CoinMeter" "KIND_ABOVE" "[I" "CoinMeter") ∈ lw_tbl := List.mem_append_right _ (List.mem_append_right _ (List.mem_append_right _ (List.mem_append_right _ (List.mem_append_left _ (List.mem_of_getElem? (i := 40) rfl)))))
theorem tb4_57 : (Jvm.Cond.methodLinkNest "CoinMeter$Sheet" (19 : Nat) ({ cls := "CoinMeter", name := "within", desc := "(III)I" } : Jvm.MethodName) "CoinMeter") ∈ lw_tbl := List.mem_append_right _ (List.mem_append_right _ (List.mem_append_right _ (List.mem_append_right _ (List.mem_append_left _ (List.mem_of_getElem? (i := 57) rfl)))))
set_option maxRecDepth 100000 in
set_option maxHeartbeats 4000000 in
theorem start_g {s : State} {b : Nat} (htsL : ∀ w ∈ lw_tbl, w.before #[Value.ref b] s = true) (hgv : (Jvm.Cond.and given_1 narrow_1).before #[Value.ref b] s = true) : ∃ g : Gx, g.2.2.1 = s.heap.size ∧ Kn g s ∧ KL g s := by
  have hts : ∀ w ∈ UW, w.before #[Value.ref b] s = true := fun w h => htsL w (UW_tbl h)
  obtain ⟨c0, i0, k0⟩ := u_known (C := RX0) (T := TX0) (N := 6) (n := 6) hts inu0 (hts _ q2_20)
  obtain ⟨c1, i1, k1⟩ := u_known (C := RX1) (T := TX1) (N := 6) (n := 6) hts inu1 (hts _ q1_56)
  obtain ⟨c2, i2, k2⟩ := u_known (C := RX2) (T := TX2) (N := 15) (n := 15) hts inu2 (hts _ q1_134)
  obtain ⟨c3, i3, k3⟩ := u_known (C := RX3) (T := TX3) (N := 5) (n := 5) hts inu3 (hts _ q1_82)
  obtain ⟨c4, i4, k4⟩ := u_known (C := RX4) (T := TX4) (N := 3) (n := 3) hts inu4 (hts _ q2_63)
  obtain ⟨c5, i5, k5⟩ := u_known (C := RX5) (T := TX5) (N := 5) (n := 5) hts inu5 (hts _ q1_32)
  obtain ⟨c6, i6, k6⟩ := u_known (C := RX6) (T := TX6) (N := 6) (n := 6) hts inu6 (hts _ q1_107)
  obtain ⟨c7, i7, k7⟩ := u_known (C := RX7) (T := TX7) (N := 9) (n := 9) hts inu7 (hts _ q1_24)
  obtain ⟨c8, i8, k8⟩ := u_known (C := RX8) (T := TX8) (N := 2) (n := 2) hts inu8 (hts _ q2_47)
  obtain ⟨c9, i9, k9⟩ := u_known (C := RX9) (T := TX9) (N := 9) (n := 9) hts inu9 (hts _ q1_16)
  obtain ⟨c10, i10, k10⟩ := u_known (C := RX10) (T := TX10) (N := 22) (n := 22) hts inu10 (hts _ q4_129)
  obtain ⟨cB, kB, pB, aB1, aB2, aB3⟩ := Cond.arrayClass_spec (hts _ q1_219)
  obtain ⟨cI, kI, pI, aI1, aI2, aI3⟩ := Cond.arrayClass_spec (hts _ q1_54)
  obtain ⟨pM, cM, kM, aM1, -, aM2, aM3, aM4⟩ := Cond.arrayOver_spec (htsL _ tb1_30)
  obtain ⟨pS, cS, kS, aS1, -, aS2, aS3, aS4⟩ := Cond.arrayOver_spec (htsL _ tb2_62)
  have hAn : ∀ a : Nat, a < s.heap.size → ¬ (fun q : Nat => s.heap.size ≤ q) a := fun a h q => Nat.not_le.mpr h q
  have hf := flat_of_before _ hgv
  obtain ⟨t0, e0, T0⟩ := va_Tof (tm := (.static "CoinMeter" "KIND_ABOVE" "[I")) (ty := .int) (N := 6) (f := fun j => .int (KA j)) (A := fun q : Nat => s.heap.size ≤ q) (by decide) (hf (.arrayOf (.static "CoinMeter" "KIND_ABOVE" "[I") .int) (by decide +kernel)) (va_eqt (hf (.eq (.length (.static "CoinMeter" "KIND_ABOVE" "[I")) (.int 6)) (by decide +kernel))) (fun j hj => by
    rcases (show j = 0 ∨ j = 1 ∨ j = 2 ∨ j = 3 ∨ j = 4 ∨ j = 5 by omega) with rfl | rfl | rfl | rfl | rfl | rfl
    · exact va_eqt (hf (.eq (.elem (.static "CoinMeter" "KIND_ABOVE" "[I") (.int 0)) (.int (-1))) (by decide +kernel))
    · exact va_eqt (hf (.eq (.elem (.static "CoinMeter" "KIND_ABOVE" "[I") (.int 1)) (.int (0))) (by decide +kernel))
    · exact va_eqt (hf (.eq (.elem (.static "CoinMeter" "KIND_ABOVE" "[I") (.int 2)) (.int (0))) (by decide +kernel))
    · exact va_eqt (hf (.eq (.elem (.static "CoinMeter" "KIND_ABOVE" "[I") (.int 3)) (.int (1))) (by decide +kernel))
    · exact va_eqt (hf (.eq (.elem (.static "CoinMeter" "KIND_ABOVE" "[I") (.int 4)) (.int (2))) (by decide +kernel))
    · exact va_eqt (hf (.eq (.elem (.static "CoinMeter" "KIND_ABOVE" "[I") (.int 5)) (.int (1))) (by decide +kernel))) hAn
  have Z0 := va_Zof (A := fun q : Nat => s.heap.size ≤ q) (htsL _ tb2_150) (hts _ q1_1) e0 hAn
  obtain ⟨t1, e1, T1⟩ := va_Tof (tm := (.static "CoinMeter$Voices" "BODIES" "[I")) (ty := .int) (N := 24) (f := fun j => .int (BO j)) (A := fun q : Nat => s.heap.size ≤ q) (by decide) (hf (.arrayOf (.static "CoinMeter$Voices" "BODIES" "[I") .int) (by decide +kernel)) (va_eqt (hf (.eq (.length (.static "CoinMeter$Voices" "BODIES" "[I")) (.int 24)) (by decide +kernel))) (fun j hj => by
    rcases (show j = 0 ∨ j = 1 ∨ j = 2 ∨ j = 3 ∨ j = 4 ∨ j = 5 ∨ j = 6 ∨ j = 7 ∨ j = 8 ∨ j = 9 ∨ j = 10 ∨ j = 11 ∨ j = 12 ∨ j = 13 ∨ j = 14 ∨ j = 15 ∨ j = 16 ∨ j = 17 ∨ j = 18 ∨ j = 19 ∨ j = 20 ∨ j = 21 ∨ j = 22 ∨ j = 23 by omega) with rfl | rfl | rfl | rfl | rfl | rfl | rfl | rfl | rfl | rfl | rfl | rfl | rfl | rfl | rfl | rfl | rfl | rfl | rfl | rfl | rfl | rfl | rfl | rfl
    · exact va_eqt (hf (.eq (.elem (.static "CoinMeter$Voices" "BODIES" "[I") (.int 0)) (.int (10))) (by decide +kernel))
    · exact va_eqt (hf (.eq (.elem (.static "CoinMeter$Voices" "BODIES" "[I") (.int 1)) (.int (11))) (by decide +kernel))
    · exact va_eqt (hf (.eq (.elem (.static "CoinMeter$Voices" "BODIES" "[I") (.int 2)) (.int (12))) (by decide +kernel))
    · exact va_eqt (hf (.eq (.elem (.static "CoinMeter$Voices" "BODIES" "[I") (.int 3)) (.int (13))) (by decide +kernel))
    · exact va_eqt (hf (.eq (.elem (.static "CoinMeter$Voices" "BODIES" "[I") (.int 4)) (.int (20))) (by decide +kernel))
    · exact va_eqt (hf (.eq (.elem (.static "CoinMeter$Voices" "BODIES" "[I") (.int 5)) (.int (0))) (by decide +kernel))
    · exact va_eqt (hf (.eq (.elem (.static "CoinMeter$Voices" "BODIES" "[I") (.int 6)) (.int (0))) (by decide +kernel))
    · exact va_eqt (hf (.eq (.elem (.static "CoinMeter$Voices" "BODIES" "[I") (.int 7)) (.int (21))) (by decide +kernel))
    · exact va_eqt (hf (.eq (.elem (.static "CoinMeter$Voices" "BODIES" "[I") (.int 8)) (.int (0))) (by decide +kernel))
    · exact va_eqt (hf (.eq (.elem (.static "CoinMeter$Voices" "BODIES" "[I") (.int 9)) (.int (30))) (by decide +kernel))
    · exact va_eqt (hf (.eq (.elem (.static "CoinMeter$Voices" "BODIES" "[I") (.int 10)) (.int (0))) (by decide +kernel))
    · exact va_eqt (hf (.eq (.elem (.static "CoinMeter$Voices" "BODIES" "[I") (.int 11)) (.int (0))) (by decide +kernel))
    · exact va_eqt (hf (.eq (.elem (.static "CoinMeter$Voices" "BODIES" "[I") (.int 12)) (.int (41))) (by decide +kernel))
    · exact va_eqt (hf (.eq (.elem (.static "CoinMeter$Voices" "BODIES" "[I") (.int 13)) (.int (0))) (by decide +kernel))
    · exact va_eqt (hf (.eq (.elem (.static "CoinMeter$Voices" "BODIES" "[I") (.int 14)) (.int (40))) (by decide +kernel))
    · exact va_eqt (hf (.eq (.elem (.static "CoinMeter$Voices" "BODIES" "[I") (.int 15)) (.int (0))) (by decide +kernel))
    · exact va_eqt (hf (.eq (.elem (.static "CoinMeter$Voices" "BODIES" "[I") (.int 16)) (.int (0))) (by decide +kernel))
    · exact va_eqt (hf (.eq (.elem (.static "CoinMeter$Voices" "BODIES" "[I") (.int 17)) (.int (51))) (by decide +kernel))
    · exact va_eqt (hf (.eq (.elem (.static "CoinMeter$Voices" "BODIES" "[I") (.int 18)) (.int (0))) (by decide +kernel))
    · exact va_eqt (hf (.eq (.elem (.static "CoinMeter$Voices" "BODIES" "[I") (.int 19)) (.int (50))) (by decide +kernel))
    · exact va_eqt (hf (.eq (.elem (.static "CoinMeter$Voices" "BODIES" "[I") (.int 20)) (.int (0))) (by decide +kernel))
    · exact va_eqt (hf (.eq (.elem (.static "CoinMeter$Voices" "BODIES" "[I") (.int 21)) (.int (0))) (by decide +kernel))
    · exact va_eqt (hf (.eq (.elem (.static "CoinMeter$Voices" "BODIES" "[I") (.int 22)) (.int (60))) (by decide +kernel))
    · exact va_eqt (hf (.eq (.elem (.static "CoinMeter$Voices" "BODIES" "[I") (.int 23)) (.int (0))) (by decide +kernel))) hAn
  have Z1 := va_Zof (A := fun q : Nat => s.heap.size ≤ q) (htsL _ tb4_39) (hts _ q1_9) e1 hAn
  obtain ⟨g, hg⟩ : ∃ g : Gx, g = ((fun k => if k = 0 then c0 else if k = 1 then c1 else if k = 2 then c2 else if k = 3 then c3 else if k = 4 then c4 else if k = 5 then c5 else if k = 6 then c6 else if k = 7 then c7 else if k = 8 then c8 else if k = 9 then c9 else c10, fun k => if k = 0 then i0 else if k = 1 then i1 else if k = 2 then i2 else if k = 3 then i3 else if k = 4 then i4 else if k = 5 then i5 else if k = 6 then i6 else if k = 7 then i7 else if k = 8 then i8 else if k = 9 then i9 else i10), (fun k => if k = 0 then cB else if k = 1 then cI else if k = 2 then cM else cS), s.heap.size, (fun k => if k = 0 then t0 else t1)) := ⟨_, rfl⟩
  have hV : va_K g.1 vwCl (tys g) s := by
    subst hg
    refine ⟨fun k q hq => ?_, fun k q hq => ?_⟩
    · match k, hq with
      | 0, hq => cases hq; exact k0
      | 1, hq => cases hq; exact k1
      | 2, hq => cases hq; exact k2
      | 3, hq => cases hq; exact k3
      | 4, hq => cases hq; exact k4
      | 5, hq => cases hq; exact k5
      | 6, hq => cases hq; exact k6
      | 7, hq => cases hq; exact k7
      | 8, hq => cases hq; exact k8
      | 9, hq => cases hq; exact k9
      | 10, hq => cases hq; exact k10
      | k + 11, hq => simp [vwCl] at hq
    · match k, hq with
      | 0, hq => cases hq; exact ⟨fun n z => ⟨fun k h => (by cases h), kB, aB2, pB, aB3⟩, aB1⟩
      | 1, hq => cases hq; exact ⟨fun n z => ⟨fun k h => (by cases h), kI, aI2, pI, aI3⟩, aI1⟩
      | 2, hq => cases hq; exact ⟨fun n z => ⟨fun k h => (by cases h), kM, aM2, pM, aM3⟩, kM, pM, aM2, aM3, aM1, aM4⟩
      | 3, hq => cases hq; exact ⟨fun n z => ⟨fun k h => (by cases h), kS, aS2, pS, aS3⟩, kS, pS, aS2, aS3, aS1, aS4⟩
      | k + 4, hq => simp [tys] at hq
  have hM : ∀ q ∈ nestM, va_Nw (.methodLinkNest q.1 q.2.1 q.2.2 "CoinMeter") s := by
    refine List.forall_mem_cons.mpr ⟨?_, List.forall_mem_cons.mpr ⟨?_, List.forall_mem_cons.mpr ⟨?_, List.forall_mem_cons.mpr ⟨?_, List.forall_mem_cons.mpr ⟨?_, List.forall_mem_cons.mpr ⟨?_, List.forall_mem_cons.mpr ⟨?_, List.forall_mem_cons.mpr ⟨?_, List.forall_mem_cons.mpr ⟨?_, List.forall_mem_cons.mpr ⟨?_, List.forall_mem_cons.mpr ⟨?_, List.forall_mem_cons.mpr ⟨?_, List.forall_mem_cons.mpr ⟨?_, List.forall_mem_cons.mpr ⟨?_, fun _ h => absurd h List.not_mem_nil⟩⟩⟩⟩⟩⟩⟩⟩⟩⟩⟩⟩⟩⟩
    · exact va_tabs (u := s) (U := s) rfl rfl (htsL _ tb1_33)
    · exact va_tabs (u := s) (U := s) rfl rfl (htsL _ tb1_57)
    · exact va_tabs (u := s) (U := s) rfl rfl (htsL _ tb1_83)
    · exact va_tabs (u := s) (U := s) rfl rfl (htsL _ tb1_108)
    · exact va_tabs (u := s) (U := s) rfl rfl (htsL _ tb1_135)
    · exact va_tabs (u := s) (U := s) rfl rfl (htsL _ tb2_18)
    · exact va_tabs (u := s) (U := s) rfl rfl (htsL _ tb2_21)
    · exact va_tabs (u := s) (U := s) rfl rfl (htsL _ tb2_48)
    · exact va_tabs (u := s) (U := s) rfl rfl (htsL _ tb2_64)
    · exact va_tabs (u := s) (U := s) rfl rfl (htsL _ tb2_148)
    · exact va_tabs (u := s) (U := s) rfl rfl (htsL _ tb3_38)
    · exact va_tabs (u := s) (U := s) rfl rfl (htsL _ tb3_172)
    · exact va_tabs (u := s) (U := s) rfl rfl (htsL _ tb4_37)
    · exact va_tabs (u := s) (U := s) rfl rfl (htsL _ tb4_57)
  have hN : ∀ q ∈ nestF, va_Nw (.fieldLinkNest q.1 q.2 "CoinMeter" "KIND_ABOVE" "[I" "CoinMeter") s := by
    refine List.forall_mem_cons.mpr ⟨?_, List.forall_mem_cons.mpr ⟨?_, fun _ h => absurd h List.not_mem_nil⟩⟩
    · exact va_tabs (u := s) (U := s) rfl rfl (htsL _ tb2_149)
    · exact va_tabs (u := s) (U := s) rfl rfl (htsL _ tb4_40)
  have hO1 : va_AO "CoinMeter$Meter" s := va_AO.of (htsL _ tb1_30)
  have hO2 : va_AO "CoinMeter$Sheet" s := va_AO.of (htsL _ tb2_62)
  refine ⟨g, by rw [hg], ⟨hV, hM, hO1, hO2⟩, hV, hM, hN, ?_⟩
  subst hg
  exact ⟨⟨Z0, T0⟩, Z1, T1⟩
def letF : Nat → Int32 := (upd (upd (upd (upd (upd (upd (upd (fun _ => 0) 0 (104 : Int32)) 1 (100 : Int32)) 2 (117 : Int32)) 3 (107 : Int32)) 4 (111 : Int32)) 5 (99 : Int32)) 6 (110 : Int32))
def mu0 : Mem := fun _ _ => 0
def nu0 : Mem := fun k => if k = 6 then letF else fun _ => 0
theorem cell_q {cA : ClassId} {n : Nat} {f f2 : Nat → Option Nat} (h : ∀ j, j < n → f j = f2 j) : vp_cell cA (n, .inr (.inr (.inr (.inr f)))) = vp_cell cA (n, .inr (.inr (.inr (.inr f2)))) := by
  rw [vp_cell_q, vp_cell_q]
  unfold arrV
  congr 2
  funext j
  exact congrArg va_rf (h j.val j.isLt)
def eX (g : Gx) (E : Nat → va_E) : Nat → va_E := mk9 g (va_up E 0 (.inr (9, [.null, .null, .null, .null, .null, .null, .null, .null, .int 0]))) 0
def eM (g : Gx) (E : Nat → va_E) : Nat → va_E := mk10 g (va_up E 96 (.inr (10, [.null, .null, .int 0, .int 0, .null, .null, .int 0, .int 0, .int 0, .int 0, .int 0, .null, .null, .null, .int 0, .int 0, .int 0, .int 0, .null, .null, .null, .null]))) 96
set_option maxRecDepth 100000 in
set_option maxHeartbeats 4000000 in
theorem eX_0 (g : Gx) (E : Nat → va_E) : eX g E 0 = Ex Lx (gB g g.2.2.1) mu0 0 := rfl
set_option maxRecDepth 100000 in
set_option maxHeartbeats 4000000 in
theorem eX_1 (g : Gx) (E : Nat → va_E) : eX g E 1 = Ex Lx (gB g g.2.2.1) mu0 1 := rfl
set_option maxRecDepth 100000 in
set_option maxHeartbeats 4000000 in
theorem eX_3 (g : Gx) (E : Nat → va_E) : eX g E 3 = Ex Lx (gB g g.2.2.1) mu0 3 := rfl
set_option maxRecDepth 100000 in
set_option maxHeartbeats 4000000 in
theorem eX_4 (g : Gx) (E : Nat → va_E) : eX g E 4 = Ex Lx (gB g g.2.2.1) mu0 4 := rfl
set_option maxRecDepth 100000 in
set_option maxHeartbeats 4000000 in
theorem eX_5 (g : Gx) (E : Nat → va_E) : eX g E 5 = Ex Lx (gB g g.2.2.1) mu0 5 := rfl
set_option maxRecDepth 100000 in
set_option maxHeartbeats 4000000 in
theorem eX_6 (g : Gx) (E : Nat → va_E) : eX g E 6 = Ex Lx (gB g g.2.2.1) mu0 6 := rfl
set_option maxRecDepth 100000 in
set_option maxHeartbeats 4000000 in
theorem eX_7 (g : Gx) (E : Nat → va_E) : eX g E 7 = Ex Lx (gB g g.2.2.1) mu0 7 := rfl
set_option maxRecDepth 100000 in
set_option maxHeartbeats 4000000 in
theorem eX_8 (g : Gx) (E : Nat → va_E) : eX g E 8 = Ex Lx (gB g g.2.2.1) mu0 8 := rfl
set_option maxRecDepth 100000 in
set_option maxHeartbeats 4000000 in
theorem eX_9 (g : Gx) (E : Nat → va_E) : eX g E 9 = Ex Lx (gB g g.2.2.1) mu0 9 := rfl
set_option maxRecDepth 100000 in
set_option maxHeartbeats 4000000 in
theorem eX_10 (g : Gx) (E : Nat → va_E) : eX g E 10 = Ex Lx (gB g g.2.2.1) mu0 10 := rfl
set_option maxRecDepth 100000 in
set_option maxHeartbeats 4000000 in
theorem eX_11 (g : Gx) (E : Nat → va_E) : eX g E 11 = Ex Lx (gB g g.2.2.1) mu0 11 := rfl
set_option maxRecDepth 100000 in
set_option maxHeartbeats 4000000 in
theorem eX_12 (g : Gx) (E : Nat → va_E) : eX g E 12 = Ex Lx (gB g g.2.2.1) mu0 12 := rfl
set_option maxRecDepth 100000 in
set_option maxHeartbeats 4000000 in
theorem eX_13 (g : Gx) (E : Nat → va_E) : eX g E 13 = Ex Lx (gB g g.2.2.1) mu0 13 := rfl
set_option maxRecDepth 100000 in
set_option maxHeartbeats 4000000 in
theorem eX_14 (g : Gx) (E : Nat → va_E) : eX g E 14 = Ex Lx (gB g g.2.2.1) mu0 14 := rfl
set_option maxRecDepth 100000 in
set_option maxHeartbeats 4000000 in
theorem eX_15 (g : Gx) (E : Nat → va_E) : eX g E 15 = Ex Lx (gB g g.2.2.1) mu0 15 := rfl
set_option maxRecDepth 100000 in
set_option maxHeartbeats 4000000 in
theorem eX_16 (g : Gx) (E : Nat → va_E) : eX g E 16 = Ex Lx (gB g g.2.2.1) mu0 16 := rfl
set_option maxRecDepth 100000 in
set_option maxHeartbeats 4000000 in
theorem eX_17 (g : Gx) (E : Nat → va_E) : eX g E 17 = Ex Lx (gB g g.2.2.1) mu0 17 := rfl
set_option maxRecDepth 100000 in
set_option maxHeartbeats 4000000 in
theorem eX_18 (g : Gx) (E : Nat → va_E) : eX g E 18 = Ex Lx (gB g g.2.2.1) mu0 18 := rfl
set_option maxRecDepth 100000 in
set_option maxHeartbeats 4000000 in
theorem eX_19 (g : Gx) (E : Nat → va_E) : eX g E 19 = Ex Lx (gB g g.2.2.1) mu0 19 := rfl
set_option maxRecDepth 100000 in
set_option maxHeartbeats 4000000 in
theorem eX_20 (g : Gx) (E : Nat → va_E) : eX g E 20 = Ex Lx (gB g g.2.2.1) mu0 20 := rfl
set_option maxRecDepth 100000 in
set_option maxHeartbeats 4000000 in
theorem eX_21 (g : Gx) (E : Nat → va_E) : eX g E 21 = Ex Lx (gB g g.2.2.1) mu0 21 := rfl
set_option maxRecDepth 100000 in
set_option maxHeartbeats 4000000 in
theorem eX_22 (g : Gx) (E : Nat → va_E) : eX g E 22 = Ex Lx (gB g g.2.2.1) mu0 22 := rfl
set_option maxRecDepth 100000 in
set_option maxHeartbeats 4000000 in
theorem eX_23 (g : Gx) (E : Nat → va_E) : eX g E 23 = Ex Lx (gB g g.2.2.1) mu0 23 := rfl
set_option maxRecDepth 100000 in
set_option maxHeartbeats 4000000 in
theorem eX_24 (g : Gx) (E : Nat → va_E) : eX g E 24 = Ex Lx (gB g g.2.2.1) mu0 24 := rfl
set_option maxRecDepth 100000 in
set_option maxHeartbeats 4000000 in
theorem eX_25 (g : Gx) (E : Nat → va_E) : eX g E 25 = Ex Lx (gB g g.2.2.1) mu0 25 := rfl
set_option maxRecDepth 100000 in
set_option maxHeartbeats 4000000 in
theorem eX_26 (g : Gx) (E : Nat → va_E) : eX g E 26 = Ex Lx (gB g g.2.2.1) mu0 26 := rfl
set_option maxRecDepth 100000 in
set_option maxHeartbeats 4000000 in
theorem eX_27 (g : Gx) (E : Nat → va_E) : eX g E 27 = Ex Lx (gB g g.2.2.1) mu0 27 := rfl
set_option maxRecDepth 100000 in
set_option maxHeartbeats 4000000 in
theorem eX_28 (g : Gx) (E : Nat → va_E) : eX g E 28 = Ex Lx (gB g g.2.2.1) mu0 28 := rfl
set_option maxRecDepth 100000 in
set_option maxHeartbeats 4000000 in
theorem eX_29 (g : Gx) (E : Nat → va_E) : eX g E 29 = Ex Lx (gB g g.2.2.1) mu0 29 := rfl
set_option maxRecDepth 100000 in
set_option maxHeartbeats 4000000 in
theorem eX_30 (g : Gx) (E : Nat → va_E) : eX g E 30 = Ex Lx (gB g g.2.2.1) mu0 30 := rfl
set_option maxRecDepth 100000 in
set_option maxHeartbeats 4000000 in
theorem eX_31 (g : Gx) (E : Nat → va_E) : eX g E 31 = Ex Lx (gB g g.2.2.1) mu0 31 := rfl
set_option maxRecDepth 100000 in
set_option maxHeartbeats 4000000 in
theorem eX_32 (g : Gx) (E : Nat → va_E) : eX g E 32 = Ex Lx (gB g g.2.2.1) mu0 32 := rfl
set_option maxRecDepth 100000 in
set_option maxHeartbeats 4000000 in
theorem eX_33 (g : Gx) (E : Nat → va_E) : eX g E 33 = Ex Lx (gB g g.2.2.1) mu0 33 := rfl
set_option maxRecDepth 100000 in
set_option maxHeartbeats 4000000 in
theorem eX_34 (g : Gx) (E : Nat → va_E) : eX g E 34 = Ex Lx (gB g g.2.2.1) mu0 34 := rfl
set_option maxRecDepth 100000 in
set_option maxHeartbeats 4000000 in
theorem eX_35 (g : Gx) (E : Nat → va_E) : eX g E 35 = Ex Lx (gB g g.2.2.1) mu0 35 := rfl
set_option maxRecDepth 100000 in
set_option maxHeartbeats 4000000 in
theorem eX_36 (g : Gx) (E : Nat → va_E) : eX g E 36 = Ex Lx (gB g g.2.2.1) mu0 36 := rfl
set_option maxRecDepth 100000 in
set_option maxHeartbeats 4000000 in
theorem eX_37 (g : Gx) (E : Nat → va_E) : eX g E 37 = Ex Lx (gB g g.2.2.1) mu0 37 := rfl
set_option maxRecDepth 100000 in
set_option maxHeartbeats 4000000 in
theorem eX_38 (g : Gx) (E : Nat → va_E) : eX g E 38 = Ex Lx (gB g g.2.2.1) mu0 38 := rfl
set_option maxRecDepth 100000 in
set_option maxHeartbeats 4000000 in
theorem eX_39 (g : Gx) (E : Nat → va_E) : eX g E 39 = Ex Lx (gB g g.2.2.1) mu0 39 := rfl
set_option maxRecDepth 100000 in
set_option maxHeartbeats 4000000 in
theorem eX_40 (g : Gx) (E : Nat → va_E) : eX g E 40 = Ex Lx (gB g g.2.2.1) mu0 40 := rfl
set_option maxRecDepth 100000 in
set_option maxHeartbeats 4000000 in
theorem eX_42 (g : Gx) (E : Nat → va_E) : eX g E 42 = Ex Lx (gB g g.2.2.1) mu0 42 := rfl
set_option maxRecDepth 100000 in
set_option maxHeartbeats 4000000 in
theorem eX_43 (g : Gx) (E : Nat → va_E) : eX g E 43 = Ex Lx (gB g g.2.2.1) mu0 43 := rfl
set_option maxRecDepth 100000 in
set_option maxHeartbeats 4000000 in
theorem eX_44 (g : Gx) (E : Nat → va_E) : eX g E 44 = Ex Lx (gB g g.2.2.1) mu0 44 := rfl
set_option maxRecDepth 100000 in
set_option maxHeartbeats 4000000 in
theorem eX_45 (g : Gx) (E : Nat → va_E) : eX g E 45 = Ex Lx (gB g g.2.2.1) mu0 45 := rfl
set_option maxRecDepth 100000 in
set_option maxHeartbeats 4000000 in
theorem eX_46 (g : Gx) (E : Nat → va_E) : eX g E 46 = Ex Lx (gB g g.2.2.1) mu0 46 := rfl
set_option maxRecDepth 100000 in
set_option maxHeartbeats 4000000 in
theorem eX_47 (g : Gx) (E : Nat → va_E) : eX g E 47 = Ex Lx (gB g g.2.2.1) mu0 47 := rfl
set_option maxRecDepth 100000 in
set_option maxHeartbeats 4000000 in
theorem eX_48 (g : Gx) (E : Nat → va_E) : eX g E 48 = Ex Lx (gB g g.2.2.1) mu0 48 := rfl
set_option maxRecDepth 100000 in
set_option maxHeartbeats 4000000 in
theorem eX_49 (g : Gx) (E : Nat → va_E) : eX g E 49 = Ex Lx (gB g g.2.2.1) mu0 49 := rfl
set_option maxRecDepth 100000 in
set_option maxHeartbeats 4000000 in
theorem eX_50 (g : Gx) (E : Nat → va_E) : eX g E 50 = Ex Lx (gB g g.2.2.1) mu0 50 := rfl
set_option maxRecDepth 100000 in
set_option maxHeartbeats 4000000 in
theorem eX_51 (g : Gx) (E : Nat → va_E) : eX g E 51 = Ex Lx (gB g g.2.2.1) mu0 51 := rfl
set_option maxRecDepth 100000 in
set_option maxHeartbeats 4000000 in
theorem eX_52 (g : Gx) (E : Nat → va_E) : eX g E 52 = Ex Lx (gB g g.2.2.1) mu0 52 := rfl
set_option maxRecDepth 100000 in
set_option maxHeartbeats 4000000 in
theorem eX_53 (g : Gx) (E : Nat → va_E) : eX g E 53 = Ex Lx (gB g g.2.2.1) mu0 53 := rfl
set_option maxRecDepth 100000 in
set_option maxHeartbeats 4000000 in
theorem eX_54 (g : Gx) (E : Nat → va_E) : eX g E 54 = Ex Lx (gB g g.2.2.1) mu0 54 := rfl
set_option maxRecDepth 100000 in
set_option maxHeartbeats 4000000 in
theorem eX_55 (g : Gx) (E : Nat → va_E) : eX g E 55 = Ex Lx (gB g g.2.2.1) mu0 55 := rfl
set_option maxRecDepth 100000 in
set_option maxHeartbeats 4000000 in
theorem eX_56 (g : Gx) (E : Nat → va_E) : eX g E 56 = Ex Lx (gB g g.2.2.1) mu0 56 := rfl
set_option maxRecDepth 100000 in
set_option maxHeartbeats 4000000 in
theorem eX_57 (g : Gx) (E : Nat → va_E) : eX g E 57 = Ex Lx (gB g g.2.2.1) mu0 57 := rfl
set_option maxRecDepth 100000 in
set_option maxHeartbeats 4000000 in
theorem eX_58 (g : Gx) (E : Nat → va_E) : eX g E 58 = Ex Lx (gB g g.2.2.1) mu0 58 := rfl
set_option maxRecDepth 100000 in
set_option maxHeartbeats 4000000 in
theorem eX_59 (g : Gx) (E : Nat → va_E) : eX g E 59 = Ex Lx (gB g g.2.2.1) mu0 59 := rfl
set_option maxRecDepth 100000 in
set_option maxHeartbeats 4000000 in
theorem eX_60 (g : Gx) (E : Nat → va_E) : eX g E 60 = Ex Lx (gB g g.2.2.1) mu0 60 := rfl
set_option maxRecDepth 100000 in
set_option maxHeartbeats 4000000 in
theorem eX_61 (g : Gx) (E : Nat → va_E) : eX g E 61 = Ex Lx (gB g g.2.2.1) mu0 61 := rfl
set_option maxRecDepth 100000 in
set_option maxHeartbeats 4000000 in
theorem eX_62 (g : Gx) (E : Nat → va_E) : eX g E 62 = Ex Lx (gB g g.2.2.1) mu0 62 := rfl
set_option maxRecDepth 100000 in
set_option maxHeartbeats 4000000 in
theorem eX_63 (g : Gx) (E : Nat → va_E) : eX g E 63 = Ex Lx (gB g g.2.2.1) mu0 63 := rfl
set_option maxRecDepth 100000 in
set_option maxHeartbeats 4000000 in
theorem eX_64 (g : Gx) (E : Nat → va_E) : eX g E 64 = Ex Lx (gB g g.2.2.1) mu0 64 := rfl
set_option maxRecDepth 100000 in
set_option maxHeartbeats 4000000 in
theorem eX_65 (g : Gx) (E : Nat → va_E) : eX g E 65 = Ex Lx (gB g g.2.2.1) mu0 65 := rfl
set_option maxRecDepth 100000 in
set_option maxHeartbeats 4000000 in
theorem eX_66 (g : Gx) (E : Nat → va_E) : eX g E 66 = Ex Lx (gB g g.2.2.1) mu0 66 := rfl
set_option maxRecDepth 100000 in
set_option maxHeartbeats 4000000 in
theorem eX_67 (g : Gx) (E : Nat → va_E) : eX g E 67 = Ex Lx (gB g g.2.2.1) mu0 67 := rfl
set_option maxRecDepth 100000 in
set_option maxHeartbeats 4000000 in
theorem eX_68 (g : Gx) (E : Nat → va_E) : eX g E 68 = Ex Lx (gB g g.2.2.1) mu0 68 := rfl
set_option maxRecDepth 100000 in
set_option maxHeartbeats 4000000 in
theorem eX_69 (g : Gx) (E : Nat → va_E) : eX g E 69 = Ex Lx (gB g g.2.2.1) mu0 69 := rfl
set_option maxRecDepth 100000 in
set_option maxHeartbeats 4000000 in
theorem eX_70 (g : Gx) (E : Nat → va_E) : eX g E 70 = Ex Lx (gB g g.2.2.1) mu0 70 := rfl
set_option maxRecDepth 100000 in
set_option maxHeartbeats 4000000 in
theorem eX_71 (g : Gx) (E : Nat → va_E) : eX g E 71 = Ex Lx (gB g g.2.2.1) mu0 71 := rfl
set_option maxRecDepth 100000 in
set_option maxHeartbeats 4000000 in
theorem eX_72 (g : Gx) (E : Nat → va_E) : eX g E 72 = Ex Lx (gB g g.2.2.1) mu0 72 := rfl
set_option maxRecDepth 100000 in
set_option maxHeartbeats 4000000 in
theorem eX_73 (g : Gx) (E : Nat → va_E) : eX g E 73 = Ex Lx (gB g g.2.2.1) mu0 73 := rfl
set_option maxRecDepth 100000 in
set_option maxHeartbeats 4000000 in
theorem eX_74 (g : Gx) (E : Nat → va_E) : eX g E 74 = Ex Lx (gB g g.2.2.1) mu0 74 := rfl
set_option maxRecDepth 100000 in
set_option maxHeartbeats 4000000 in
theorem eX_75 (g : Gx) (E : Nat → va_E) : eX g E 75 = Ex Lx (gB g g.2.2.1) mu0 75 := rfl
set_option maxRecDepth 100000 in
set_option maxHeartbeats 4000000 in
theorem eX_76 (g : Gx) (E : Nat → va_E) : eX g E 76 = Ex Lx (gB g g.2.2.1) mu0 76 := rfl
set_option maxRecDepth 100000 in
set_option maxHeartbeats 4000000 in
theorem eX_77 (g : Gx) (E : Nat → va_E) : eX g E 77 = Ex Lx (gB g g.2.2.1) mu0 77 := rfl
set_option maxRecDepth 100000 in
set_option maxHeartbeats 4000000 in
theorem eX_78 (g : Gx) (E : Nat → va_E) : eX g E 78 = Ex Lx (gB g g.2.2.1) mu0 78 := rfl
set_option maxRecDepth 100000 in
set_option maxHeartbeats 4000000 in
theorem eX_79 (g : Gx) (E : Nat → va_E) : eX g E 79 = Ex Lx (gB g g.2.2.1) mu0 79 := rfl
set_option maxRecDepth 100000 in
set_option maxHeartbeats 4000000 in
theorem eX_80 (g : Gx) (E : Nat → va_E) : eX g E 80 = Ex Lx (gB g g.2.2.1) mu0 80 := rfl
set_option maxRecDepth 100000 in
set_option maxHeartbeats 4000000 in
theorem eX_81 (g : Gx) (E : Nat → va_E) : eX g E 81 = Ex Lx (gB g g.2.2.1) mu0 81 := rfl
set_option maxRecDepth 100000 in
set_option maxHeartbeats 4000000 in
theorem eX_82 (g : Gx) (E : Nat → va_E) : eX g E 82 = Ex Lx (gB g g.2.2.1) mu0 82 := rfl
set_option maxRecDepth 100000 in
set_option maxHeartbeats 4000000 in
theorem eX_83 (g : Gx) (E : Nat → va_E) : eX g E 83 = Ex Lx (gB g g.2.2.1) mu0 83 := rfl
set_option maxRecDepth 100000 in
set_option maxHeartbeats 4000000 in
theorem eX_84 (g : Gx) (E : Nat → va_E) : eX g E 84 = Ex Lx (gB g g.2.2.1) mu0 84 := rfl
set_option maxRecDepth 100000 in
set_option maxHeartbeats 4000000 in
theorem eX_86 (g : Gx) (E : Nat → va_E) : eX g E 86 = Ex Lx (gB g g.2.2.1) mu0 86 := rfl
set_option maxRecDepth 100000 in
set_option maxHeartbeats 4000000 in
theorem eX_87 (g : Gx) (E : Nat → va_E) : eX g E 87 = Ex Lx (gB g g.2.2.1) mu0 87 := rfl
set_option maxRecDepth 100000 in
set_option maxHeartbeats 4000000 in
theorem eX_88 (g : Gx) (E : Nat → va_E) : eX g E 88 = Ex Lx (gB g g.2.2.1) mu0 88 := rfl
set_option maxRecDepth 100000 in
set_option maxHeartbeats 4000000 in
theorem eX_89 (g : Gx) (E : Nat → va_E) : eX g E 89 = Ex Lx (gB g g.2.2.1) mu0 89 := rfl
set_option maxRecDepth 100000 in
set_option maxHeartbeats 4000000 in
theorem eX_90 (g : Gx) (E : Nat → va_E) : eX g E 90 = Ex Lx (gB g g.2.2.1) mu0 90 := rfl
set_option maxRecDepth 100000 in
set_option maxHeartbeats 4000000 in
theorem eX_91 (g : Gx) (E : Nat → va_E) : eX g E 91 = Ex Lx (gB g g.2.2.1) mu0 91 := rfl
set_option maxRecDepth 100000 in
set_option maxHeartbeats 4000000 in
theorem eX_92 (g : Gx) (E : Nat → va_E) : eX g E 92 = Ex Lx (gB g g.2.2.1) mu0 92 := rfl
set_option maxRecDepth 100000 in
set_option maxHeartbeats 4000000 in
theorem eX_93 (g : Gx) (E : Nat → va_E) : eX g E 93 = Ex Lx (gB g g.2.2.1) mu0 93 := rfl
set_option maxRecDepth 100000 in
set_option maxHeartbeats 4000000 in
theorem eX_94 (g : Gx) (E : Nat → va_E) : eX g E 94 = Ex Lx (gB g g.2.2.1) mu0 94 := rfl
set_option maxRecDepth 100000 in
set_option maxHeartbeats 4000000 in
theorem eX_95 (g : Gx) (E : Nat → va_E) : eX g E 95 = Ex Lx (gB g g.2.2.1) mu0 95 := rfl
set_option maxRecDepth 100000 in
set_option maxHeartbeats 4000000 in
theorem eM_0 (g : Gx) (E : Nat → va_E) : eM g E 96 = Ex Lm (gB g (g.2.2.1 + 96)) nu0 0 := rfl
set_option maxRecDepth 100000 in
set_option maxHeartbeats 4000000 in
theorem eM_1 (g : Gx) (E : Nat → va_E) : eM g E 97 = Ex Lm (gB g (g.2.2.1 + 96)) nu0 1 := rfl
set_option maxRecDepth 100000 in
set_option maxHeartbeats 4000000 in
theorem eM_2 (g : Gx) (E : Nat → va_E) : eM g E 98 = Ex Lm (gB g (g.2.2.1 + 96)) nu0 2 := rfl
set_option maxRecDepth 100000 in
set_option maxHeartbeats 4000000 in
theorem eM_3 (g : Gx) (E : Nat → va_E) : eM g E 99 = Ex Lm (gB g (g.2.2.1 + 96)) nu0 3 := rfl
set_option maxRecDepth 100000 in
set_option maxHeartbeats 4000000 in
theorem eM_4 (g : Gx) (E : Nat → va_E) : eM g E 100 = Ex Lm (gB g (g.2.2.1 + 96)) nu0 4 := rfl
set_option maxRecDepth 100000 in
set_option maxHeartbeats 4000000 in
theorem eM_5 (g : Gx) (E : Nat → va_E) : eM g E 101 = Ex Lm (gB g (g.2.2.1 + 96)) nu0 5 := rfl
set_option maxRecDepth 100000 in
set_option maxHeartbeats 4000000 in
theorem eM_6 (g : Gx) (E : Nat → va_E) : eM g E 102 = Ex Lm (gB g (g.2.2.1 + 96)) nu0 6 := rfl
set_option maxRecDepth 100000 in
set_option maxHeartbeats 4000000 in
theorem eM_7 (g : Gx) (E : Nat → va_E) : eM g E 103 = Ex Lm (gB g (g.2.2.1 + 96)) nu0 7 := rfl
set_option maxRecDepth 100000 in
set_option maxHeartbeats 4000000 in
theorem eM_8 (g : Gx) (E : Nat → va_E) : eM g E 104 = Ex Lm (gB g (g.2.2.1 + 96)) nu0 8 := rfl
set_option maxRecDepth 100000 in
set_option maxHeartbeats 4000000 in
theorem eM_9 (g : Gx) (E : Nat → va_E) : eM g E 105 = Ex Lm (gB g (g.2.2.1 + 96)) nu0 9 := rfl
set_option maxRecDepth 100000 in
set_option maxHeartbeats 4000000 in
theorem eM_10 (g : Gx) (E : Nat → va_E) : eM g E 106 = Ex Lm (gB g (g.2.2.1 + 96)) nu0 10 := rfl
set_option maxRecDepth 100000 in
set_option maxHeartbeats 4000000 in
theorem eM_11 (g : Gx) (E : Nat → va_E) : eM g E 107 = Ex Lm (gB g (g.2.2.1 + 96)) nu0 11 := rfl
set_option maxRecDepth 100000 in
set_option maxHeartbeats 4000000 in
theorem eX_2 {g : Gx} {E : Nat → va_E} {H : Heap} (h : va_at g.1 vwCl (g.2.2.1 + 2, eX g E 2) H) : va_at g.1 vwCl (g.2.2.1 + 2, Ex Lx (gB g g.2.2.1) mu0 2) H := by
  have h1 : H[g.2.2.1 + 2]? = _ := h
  show H[g.2.2.1 + 2]? = some (vp_cell (g.2.1 2) (8, .inr (.inr (.inr (.inr (fun j => some (g.2.2.1 + (2 + 22 + 2 * j))))))))
  rw [h1]
  refine congrArg some (cell_q (fun j hj => ?_))
  rcases (show j = 0 ∨ j = 1 ∨ j = 2 ∨ j = 3 ∨ j = 4 ∨ j = 5 ∨ j = 6 ∨ j = 7 by omega) with rfl | rfl | rfl | rfl | rfl | rfl | rfl | rfl <;> rfl
set_option maxRecDepth 100000 in
set_option maxHeartbeats 4000000 in
theorem eX_41 {g : Gx} {E : Nat → va_E} {H : Heap} (h : va_at g.1 vwCl (g.2.2.1 + 41, eX g E 41) H) : va_at g.1 vwCl (g.2.2.1 + 41, Ex Lx (gB g g.2.2.1) mu0 41) H := by
  have h1 : H[g.2.2.1 + 41]? = _ := h
  show H[g.2.2.1 + 41]? = some (vp_cell (g.2.1 2) (8, .inr (.inr (.inr (.inr (fun j => some (g.2.2.1 + (41 + 22 + 2 * j))))))))
  rw [h1]
  refine congrArg some (cell_q (fun j hj => ?_))
  rcases (show j = 0 ∨ j = 1 ∨ j = 2 ∨ j = 3 ∨ j = 4 ∨ j = 5 ∨ j = 6 ∨ j = 7 by omega) with rfl | rfl | rfl | rfl | rfl | rfl | rfl | rfl <;> rfl
set_option maxRecDepth 100000 in
set_option maxHeartbeats 4000000 in
theorem eX_85 {g : Gx} {E : Nat → va_E} {H : Heap} (h : va_at g.1 vwCl (g.2.2.1 + 85, eX g E 85) H) : va_at g.1 vwCl (g.2.2.1 + 85, Ex Lx (gB g g.2.2.1) mu0 85) H := by
  have h1 : H[g.2.2.1 + 85]? = _ := h
  show H[g.2.2.1 + 85]? = some (vp_cell (g.2.1 3) (4, .inr (.inr (.inr (.inr (fun j => some (g.2.2.1 + (85 + 3 + 2 * j))))))))
  rw [h1]
  refine congrArg some (cell_q (fun j hj => ?_))
  rcases (show j = 0 ∨ j = 1 ∨ j = 2 ∨ j = 3 by omega) with rfl | rfl | rfl | rfl <;> rfl
set_option maxRecDepth 100000 in
set_option maxHeartbeats 4000000 in
theorem to_x {g : Gx} {E : Nat → va_E} {H : Heap} (h : ∀ k, k < 96 → va_at g.1 vwCl (g.2.2.1 + k, eX g E k) H) : Px Lx (gB g g.2.2.1) mu0 H := by
  intro k q hq
  obtain ⟨h1, h2⟩ := Ws_len hq
  rw [Ws_get h1] at hq
  cases hq
  have hk : k < 96 := h1
  have hh := h k hk
  clear h h2 h1
  match k, hk, hh with
  | 0, _, hh => exact (eX_0 g E) ▸ hh
  | 1, _, hh => exact (eX_1 g E) ▸ hh
  | 2, _, hh => exact eX_2 hh
  | 3, _, hh => exact (eX_3 g E) ▸ hh
  | 4, _, hh => exact (eX_4 g E) ▸ hh
  | 5, _, hh => exact (eX_5 g E) ▸ hh
  | 6, _, hh => exact (eX_6 g E) ▸ hh
  | 7, _, hh => exact (eX_7 g E) ▸ hh
  | 8, _, hh => exact (eX_8 g E) ▸ hh
  | 9, _, hh => exact (eX_9 g E) ▸ hh
  | 10, _, hh => exact (eX_10 g E) ▸ hh
  | 11, _, hh => exact (eX_11 g E) ▸ hh
  | 12, _, hh => exact (eX_12 g E) ▸ hh
  | 13, _, hh => exact (eX_13 g E) ▸ hh
  | 14, _, hh => exact (eX_14 g E) ▸ hh
  | 15, _, hh => exact (eX_15 g E) ▸ hh
  | 16, _, hh => exact (eX_16 g E) ▸ hh
  | 17, _, hh => exact (eX_17 g E) ▸ hh
  | 18, _, hh => exact (eX_18 g E) ▸ hh
  | 19, _, hh => exact (eX_19 g E) ▸ hh
  | 20, _, hh => exact (eX_20 g E) ▸ hh
  | 21, _, hh => exact (eX_21 g E) ▸ hh
  | 22, _, hh => exact (eX_22 g E) ▸ hh
  | 23, _, hh => exact (eX_23 g E) ▸ hh
  | 24, _, hh => exact (eX_24 g E) ▸ hh
  | 25, _, hh => exact (eX_25 g E) ▸ hh
  | 26, _, hh => exact (eX_26 g E) ▸ hh
  | 27, _, hh => exact (eX_27 g E) ▸ hh
  | 28, _, hh => exact (eX_28 g E) ▸ hh
  | 29, _, hh => exact (eX_29 g E) ▸ hh
  | 30, _, hh => exact (eX_30 g E) ▸ hh
  | 31, _, hh => exact (eX_31 g E) ▸ hh
  | 32, _, hh => exact (eX_32 g E) ▸ hh
  | 33, _, hh => exact (eX_33 g E) ▸ hh
  | 34, _, hh => exact (eX_34 g E) ▸ hh
  | 35, _, hh => exact (eX_35 g E) ▸ hh
  | 36, _, hh => exact (eX_36 g E) ▸ hh
  | 37, _, hh => exact (eX_37 g E) ▸ hh
  | 38, _, hh => exact (eX_38 g E) ▸ hh
  | 39, _, hh => exact (eX_39 g E) ▸ hh
  | 40, _, hh => exact (eX_40 g E) ▸ hh
  | 41, _, hh => exact eX_41 hh
  | 42, _, hh => exact (eX_42 g E) ▸ hh
  | 43, _, hh => exact (eX_43 g E) ▸ hh
  | 44, _, hh => exact (eX_44 g E) ▸ hh
  | 45, _, hh => exact (eX_45 g E) ▸ hh
  | 46, _, hh => exact (eX_46 g E) ▸ hh
  | 47, _, hh => exact (eX_47 g E) ▸ hh
  | 48, _, hh => exact (eX_48 g E) ▸ hh
  | 49, _, hh => exact (eX_49 g E) ▸ hh
  | 50, _, hh => exact (eX_50 g E) ▸ hh
  | 51, _, hh => exact (eX_51 g E) ▸ hh
  | 52, _, hh => exact (eX_52 g E) ▸ hh
  | 53, _, hh => exact (eX_53 g E) ▸ hh
  | 54, _, hh => exact (eX_54 g E) ▸ hh
  | 55, _, hh => exact (eX_55 g E) ▸ hh
  | 56, _, hh => exact (eX_56 g E) ▸ hh
  | 57, _, hh => exact (eX_57 g E) ▸ hh
  | 58, _, hh => exact (eX_58 g E) ▸ hh
  | 59, _, hh => exact (eX_59 g E) ▸ hh
  | 60, _, hh => exact (eX_60 g E) ▸ hh
  | 61, _, hh => exact (eX_61 g E) ▸ hh
  | 62, _, hh => exact (eX_62 g E) ▸ hh
  | 63, _, hh => exact (eX_63 g E) ▸ hh
  | 64, _, hh => exact (eX_64 g E) ▸ hh
  | 65, _, hh => exact (eX_65 g E) ▸ hh
  | 66, _, hh => exact (eX_66 g E) ▸ hh
  | 67, _, hh => exact (eX_67 g E) ▸ hh
  | 68, _, hh => exact (eX_68 g E) ▸ hh
  | 69, _, hh => exact (eX_69 g E) ▸ hh
  | 70, _, hh => exact (eX_70 g E) ▸ hh
  | 71, _, hh => exact (eX_71 g E) ▸ hh
  | 72, _, hh => exact (eX_72 g E) ▸ hh
  | 73, _, hh => exact (eX_73 g E) ▸ hh
  | 74, _, hh => exact (eX_74 g E) ▸ hh
  | 75, _, hh => exact (eX_75 g E) ▸ hh
  | 76, _, hh => exact (eX_76 g E) ▸ hh
  | 77, _, hh => exact (eX_77 g E) ▸ hh
  | 78, _, hh => exact (eX_78 g E) ▸ hh
  | 79, _, hh => exact (eX_79 g E) ▸ hh
  | 80, _, hh => exact (eX_80 g E) ▸ hh
  | 81, _, hh => exact (eX_81 g E) ▸ hh
  | 82, _, hh => exact (eX_82 g E) ▸ hh
  | 83, _, hh => exact (eX_83 g E) ▸ hh
  | 84, _, hh => exact (eX_84 g E) ▸ hh
  | 85, _, hh => exact eX_85 hh
  | 86, _, hh => exact (eX_86 g E) ▸ hh
  | 87, _, hh => exact (eX_87 g E) ▸ hh
  | 88, _, hh => exact (eX_88 g E) ▸ hh
  | 89, _, hh => exact (eX_89 g E) ▸ hh
  | 90, _, hh => exact (eX_90 g E) ▸ hh
  | 91, _, hh => exact (eX_91 g E) ▸ hh
  | 92, _, hh => exact (eX_92 g E) ▸ hh
  | 93, _, hh => exact (eX_93 g E) ▸ hh
  | 94, _, hh => exact (eX_94 g E) ▸ hh
  | 95, _, hh => exact (eX_95 g E) ▸ hh
  | k + 96, hk, _ => omega
set_option maxRecDepth 100000 in
set_option maxHeartbeats 4000000 in
theorem to_m {g : Gx} {E : Nat → va_E} {H : Heap} (h : ∀ k, k < 12 → va_at g.1 vwCl (g.2.2.1 + 96 + k, eM g E (96 + k)) H) : Px Lm (gB g (g.2.2.1 + 96)) nu0 H := by
  intro k q hq
  obtain ⟨h1, h2⟩ := Ws_len hq
  rw [Ws_get h1] at hq
  cases hq
  have hk : k < 12 := h1
  have hh := h k hk
  clear h h2 h1
  match k, hk, hh with
  | 0, _, hh => exact (eM_0 g E) ▸ hh
  | 1, _, hh => exact (eM_1 g E) ▸ hh
  | 2, _, hh => exact (eM_2 g E) ▸ hh
  | 3, _, hh => exact (eM_3 g E) ▸ hh
  | 4, _, hh => exact (eM_4 g E) ▸ hh
  | 5, _, hh => exact (eM_5 g E) ▸ hh
  | 6, _, hh => exact (eM_6 g E) ▸ hh
  | 7, _, hh => exact (eM_7 g E) ▸ hh
  | 8, _, hh => exact (eM_8 g E) ▸ hh
  | 9, _, hh => exact (eM_9 g E) ▸ hh
  | 10, _, hh => exact (eM_10 g E) ▸ hh
  | 11, _, hh => exact (eM_11 g E) ▸ hh
  | k + 12, hk, _ => omega
set_option maxRecDepth 100000 in
set_option maxHeartbeats 4000000 in
theorem start_of {Sim : Nat → Mem → Mem → Prop} (O : OpsOK Sim) (hlim : ∀ j μ ν, Sim j μ ν → Sim (j + 1) μ ν) (h0 : Sim 0 mu0 nu0) {p : Program} {e : Env} {s : State} {m : MethodId} {below : List Frame} {meth : Method} {c : Code} (l : Launch) {b L : Nat} {xs : Nat → Int32} (hL : L ≤ 3072) (C0 : lw_At p s m meth c b L xs) : W p l e room_1 s m #[Value.ref b] below meth c s.heap [] 0 0 (lw_Z below #[Value.ref b] s) (entryFrame m ([Value.ref b] : List Value).toArray 4) := by
  obtain ⟨hx, hb, hr, hml, hown, htsL, hX, hbl, hlocks, hgv⟩ := id C0
  have hown : s.vm.findClass "CoinMeterLaw" = some m.cls := hown
  have hts : ∀ w ∈ UW, w.before #[Value.ref b] s = true := fun w h => htsL w (UW_tbl h)
  obtain ⟨g, hbase, hKn, hKL⟩ := start_g htsL hgv
  have hS : va_S (An g) s.heap s.heap [] := va_S.rf
  obtain ⟨E, -⟩ : ∃ E : Nat → va_E, E = E := ⟨fun _ => .inr (0, []), rfl⟩
  have hP : Pn g 0 E s.heap := ⟨fun k q h => by simp [Wn] at h, hbase.symm⟩
  have hl := lv_entry ([.ref b]) (n := 4) (Nat.le_of_ble_eq_true rfl)
  rw [lg_entry_eq]
  generalize (lg_sl ([.ref b]) ++ List.replicate (4 - (lg_sl ([.ref b])).length) Slot.unset).toArray = ls at hl ⊢
  have hl : lv_has ls 4 [(0, .ref b)] := hl
  refine n_new hx hb hown hts hKn.1 hP hS (ci := 9) (fs := [.null, .null, .null, .null, .null, .null, .null, .null, .int 0]) inu9 tyX9 tyX9_ok q1_15 q1_16 q1_1 rfl (fun j hj => by rcases (show j = 0 ∨ j = 1 ∨ j = 2 ∨ j = 3 ∨ j = 4 ∨ j = 5 ∨ j = 6 ∨ j = 7 ∨ j = 8 by omega) with rfl | rfl | rfl | rfl | rfl | rfl | rfl | rfl | rfl <;> rfl) (Nat.le_of_ble_eq_true rfl) (Nat.le_of_ble_eq_true rfl) dL_law_0 (fun H hP hS => ?_)
  refine lv_dup hx hb dL_law_3 rfl ?_
  refine n_callI hx hb hml hown hts hKn (rest := [.ref (g.2.2.1 + 0)]) (k := 0) (i_X9 l g 0 (va_up E 0 (.inr (9, [.null, .null, .null, .null, .null, .null, .null, .null, .int 0]))) (va_up_self _ _ _)) q1_19 q1_17 q1_18 q1_1 (by decide +kernel) (by decide +kernel) ⟨rfl, rfl⟩ ⟨(Nat.le_of_ble_eq_true rfl), (Nat.le_of_ble_eq_true rfl)⟩ hP hS hl.1 rfl (Nat.le_of_ble_eq_true rfl) dL_law_4 ⟨(Nat.le_of_ble_eq_true rfl), (Nat.le_of_ble_eq_true rfl)⟩ (fun H locs hP hS => ?_)
  refine lv_astore_n (lv' := [(1, .ref (g.2.2.1 + 0)), (0, .ref b)]) hx hb dL_law_7 rfl hl (by decide) rfl (fun ls hl => ?_)
  have hP : Pn g 96 (eX g E) H := hP
  refine W.widen (k := 96) (n := 4320) (Nat.le_of_ble_eq_true rfl) (Nat.le_of_ble_eq_true rfl) ?_
  refine n_new hx hb hown hts hKn.1 hP hS (ci := 10) (fs := [.null, .null, .int 0, .int 0, .null, .null, .int 0, .int 0, .int 0, .int 0, .int 0, .null, .null, .null, .int 0, .int 0, .int 0, .int 0, .null, .null, .null, .null]) inu10 tyX10 tyX10_ok q4_128 q4_129 q1_11 rfl (fun j hj => by rcases (show j = 0 ∨ j = 1 ∨ j = 2 ∨ j = 3 ∨ j = 4 ∨ j = 5 ∨ j = 6 ∨ j = 7 ∨ j = 8 ∨ j = 9 ∨ j = 10 ∨ j = 11 ∨ j = 12 ∨ j = 13 ∨ j = 14 ∨ j = 15 ∨ j = 16 ∨ j = 17 ∨ j = 18 ∨ j = 19 ∨ j = 20 ∨ j = 21 by omega) with rfl | rfl | rfl | rfl | rfl | rfl | rfl | rfl | rfl | rfl | rfl | rfl | rfl | rfl | rfl | rfl | rfl | rfl | rfl | rfl | rfl | rfl <;> rfl) (Nat.le_of_ble_eq_true rfl) (Nat.le_of_ble_eq_true rfl) dL_law_8 (fun H hP hS => ?_)
  refine lv_dup hx hb dL_law_11 rfl ?_
  refine n_callI hx hb hml hown hts hKn (rest := [.ref (g.2.2.1 + 96)]) (k := 96) (i_X10 l g 96 (va_up (eX g E) 96 (.inr (10, [.null, .null, .int 0, .int 0, .null, .null, .int 0, .int 0, .int 0, .int 0, .int 0, .null, .null, .null, .int 0, .int 0, .int 0, .int 0, .null, .null, .null, .null]))) (va_up_self _ _ _)) q4_132 q4_130 q4_131 q1_11 (by decide +kernel) (by decide +kernel) ⟨rfl, rfl⟩ ⟨(Nat.le_of_ble_eq_true rfl), (Nat.le_of_ble_eq_true rfl)⟩ hP hS hl.1 rfl (Nat.le_of_ble_eq_true rfl) dL_law_12 ⟨(Nat.le_of_ble_eq_true rfl), (Nat.le_of_ble_eq_true rfl)⟩ (fun H locs hP hS => ?_)
  refine lv_astore_n (lv' := [(2, .ref (g.2.2.1 + 96)), (1, .ref (g.2.2.1 + 0)), (0, .ref b)]) hx hb dL_law_15 rfl hl (by decide) rfl (fun ls hl => ?_)
  have hP : Pn g 108 (eM g (eX g E)) H := hP
  refine W.widen (k := 108) (n := 10362) (Nat.le_of_ble_eq_true rfl) (Nat.le_of_ble_eq_true rfl) ?_
  refine lv_iconst (v := (0 : Int32)) hx hb dL_law_16 rfl ?_
  refine lv_istore_n (lv' := [(3, .int (0 : Int32)), (2, .ref (g.2.2.1 + 96)), (1, .ref (g.2.2.1 + 0)), (0, .ref b)]) hx hb dL_law_17 rfl hl (by decide) rfl (fun ls hl => ?_)
  have h1 : Px Lx (gB g g.2.2.1) mu0 H := to_x (E := E) (fun k hk => hP.at (by omega) (by unfold eM; rw [mk10_lo g _ hk, va_up_ne _ _ (by omega)]))
  have h2 : Px Lm (gB g (g.2.2.1 + 96)) nu0 H := to_m (E := eX g E) (fun k hk => by have := hP.at (k := 96 + k) (by omega) rfl; rw [show g.2.2.1 + 96 + k = g.2.2.1 + (96 + k) by omega]; exact this)
  exact law_loop hL ⟨hx, hb, hml, hown, hts, hX, hbl, hbase, hKL⟩ O hr hlocks hlim 514 0 0 (by omega) (by omega) nI_0.symm mu0 nu0 h0 H _ ls h1 h2 hS (lv_sub hl [3, 2, 1, 0] rfl)
