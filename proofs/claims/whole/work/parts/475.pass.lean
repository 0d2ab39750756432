/-! an hour of a meter -/
section PA
variable {c i nl h : Nat} {μ0 ν0 μ ν : Mem}
theorem HR.same (R : HR c i nl μ0 ν0 μ ν) {w : Nat} (hw : w < 12) {v : Int32} (hv : v = μ c (w + 2)) : HR c i nl μ0 ν0 μ (st ν 1 (16 + 40 * i + w) v) := by
  refine ⟨?_, R.2.1, R.2.2.st (by omega) _⟩
  obtain ⟨⟨r1, r2, r3, r4, r5⟩, -, -⟩ := R
  refine ⟨r1, fun x hx => ?_, ?_, fun x hx => ?_, r5⟩
  · dsimp only
    rw [st_at]
    by_cases hxw : x = w
    · subst hxw
      rw [if_pos ⟨rfl, rfl⟩, hv]
    · rw [if_neg (by omega)]
      exact r2 x hx
  · rcases r3 with r3 | r3
    · exact Or.inl r3
    · refine Or.inr ?_
      dsimp only
      rw [st_at, if_neg (by omega)]
      exact r3
  · dsimp only
    rw [st_at, if_neg (by omega)]
    exact r4 x hx
/-- a field and its twin get one value; both states get names -/
theorem HR.pt (hi : i < 8) (R : HR c i nl μ0 ν0 μ ν) (w j : Nat) (hj : j = w + 2) (hw : w < 12) (hw0 : w ≠ 0) {v v2 : Int32} (hv : v2 = v) (hb : MB nl (upd (μ c) j v)) : HR c i nl μ0 ν0 (st μ c j v) (st ν 1 (16 + 40 * i + w) v2) := by
  subst hj
  exact R.put hi hw hw0 hv hb
theorem clk (hh : h ≤ 9001) : nI h - nI h / 24 * 24 = nI (h % 24) := pk_rem (d := 24) (by omega) (by decide) (by decide)
theorem nI_z {k : Nat} (hk : k < 100000) : nI k = 0 ↔ k = 0 := by
  rw [i_eq, i_n k (by omega)]
  show (k : Int) = 0 ↔ k = 0
  omega
theorem sub_neg' (a b : Int32) : a + -b = a - b := (Int32.sub_eq_add_neg a b).symm
/-- what a day begins with -/
theorem day_ok (X : HX c i nl h μ0 ν0) (R : HR c i nl μ0 ν0 μ ν) : ∃ μ2 ν2, HR c i nl μ0 ν0 μ2 ν2 ∧ X7_endHour c (nI h) μ = X7_endHour_13 c (nI h) μ2 ∧ X10_passes (nI i) ν = X10_passes_92 (nI i) (nI (h % 24)) ν2 := by
  have hi := X.2.2.1
  have hc := X.2.2.2.1
  have hh := X.2.2.2.2.2
  unfold X7_endHour X10_passes
  rw [X.hr R, clk hh]
  by_cases h0 : h % 24 = 0
  · have hz : nI (h % 24) = 0 := (nI_z (by omega)).mpr h0
    rw [if_pos hz, if_pos hz]
    obtain ⟨p, μ1, ν1, s1, s2, s3, s4⟩ := standing_ok X R
    have R1 := R.xs hc s3 s4
    have e5 : μ1 c 5 = μ c 5 := congrFun (s3 c (by omega)) 5
    have R2 := R1.pt hi 3 5 rfl (by decide) (by decide) (v := μ c 5 - p) (v2 := ν1 1 (16 + 40 * i + 3) + -p) (by rw [R1.q (w := 3) (by decide)]; show μ1 c 5 + -p = _; rw [e5, sub_neg']) (MB_free R1.mb (Or.inl rfl))
    unfold X7_beginDay
    rw [ob2_of s1, lt_of, ob2_of s2, ob_of (more_ok (w := 3) hi (by decide) _ _), ob2_of (of_ok (w := 6) hi (by decide) _)]
    generalize st μ1 c 5 (μ c 5 - p) = μ2 at R2 ⊢
    generalize st ν1 1 (16 + 40 * i + 3) (ν1 1 (16 + 40 * i + 3) + -p) = ν2 at R2 ⊢
    have q6 : ν2 1 (16 + 40 * i + 6) = μ2 c 8 := R2.q (w := 6) (by decide)
    rw [q6]
    -- the day's end of it: used today is 0
    have fin : ∀ μ3 ν3, HR c i nl μ0 ν0 μ3 ν3 → HR c i nl μ0 ν0 (st μ3 c 11 0) (st ν3 1 (16 + 40 * i + 9) 0) ∧ X7_beginDay_57 c μ3 = some (st μ3 c 11 0) ∧ X10_passes_84 (nI i) (nI (h % 24)) ν3 = X10_passes_92 (nI i) (nI (h % 24)) (st ν3 1 (16 + 40 * i + 9) 0) := by
      intro μ3 ν3 R3
      refine ⟨R3.pt hi 9 11 rfl (by decide) (by decide) rfl (MB_free R3.mb (Or.inr ⟨by decide, by decide⟩)), rfl, ?_⟩
      unfold X10_passes_84
      rw [ob_of (set_ok (w := 9) hi (by decide) _ _)]
    rcases R2.mb.2.2.2.2.2.1 with h8 | h8
    · rw [if_pos h8, if_neg (by rw [h8]; decide)]
      obtain ⟨f1, f2, f3⟩ := fin μ2 ν2 R2
      exact ⟨_, _, f1, by rw [ob_of f2], f3⟩
    · rw [if_neg (by rw [h8]; decide), if_pos h8, lt_of, lt_of, ob2_of (of_ok (w := 5) hi (by decide) _), ob2_of (of_ok (w := 4) hi (by decide) _)]
      have q5 : ν2 1 (16 + 40 * i + 5) = μ2 c 7 := R2.q (w := 5) (by decide)
      have q4 : ν2 1 (16 + 40 * i + 4) = μ2 c 6 := R2.q (w := 4) (by decide)
      rw [q5, q4]
      obtain ⟨pd, hpd⟩ : ∃ x : Int32, x = (if μ2 c 6 < μ2 c 7 then μ2 c 6 else μ2 c 7) := ⟨_, rfl⟩
      rw [← hpd]
      have hm : (if μ2 c 6 ≤ μ2 c 7 then ob2 (X10_of (nI i) 4 ν2) fun r32 μ32 => X10_passes_67 (nI i) (nI (h % 24)) r32 μ32 else ob2 (X10_of (nI i) 5 ν2) fun r35 μ35 => X10_passes_67 (nI i) (nI (h % 24)) r35 μ35) = X10_passes_67 (nI i) (nI (h % 24)) pd ν2 := by
        by_cases h1 : μ2 c 6 ≤ μ2 c 7
        · rw [if_pos h1, ob2_of (of_ok (w := 4) hi (by decide) _), q4, hpd]
          by_cases h2 : μ2 c 6 < μ2 c 7
          · rw [if_pos h2]
          · rw [if_neg h2]
            rw [i_le] at h1
            rw [i_lt] at h2
            rw [i_eq.mpr (show (μ2 c 6).toInt = (μ2 c 7).toInt by omega)]
        · rw [if_neg h1, ob2_of (of_ok (w := 5) hi (by decide) _), q5, hpd, if_neg (fun q => h1 (by rw [i_le]; rw [i_lt] at q; omega))]
      rw [hm]
      have R3 := R2.pt hi 3 5 rfl (by decide) (by decide) (v := μ2 c 5 - pd) (v2 := ν2 1 (16 + 40 * i + 3) + -pd) (by rw [R2.q (w := 3) (by decide), sub_neg']) (MB_free R2.mb (Or.inl rfl))
      have hdebt : ∃ o, o ≤ 99999 ∧ μ2 c 6 - pd = nI o := by
        obtain ⟨o, ho1, ho2⟩ := R2.mb.2.2.2.1
        obtain ⟨p2, hp1, hp2⟩ := R2.mb.2.2.2.2.1
        rw [hpd, ho2, hp2]
        by_cases h1 : nI o < nI p2
        · rw [if_pos h1]
          exact ⟨0, by omega, by rw [pk_sub (Nat.le_refl o), Nat.sub_self]⟩
        · rw [if_neg h1]
          rw [i_lt, i_n _ (by omega), i_n _ (by omega)] at h1
          exact ⟨o - p2, by omega, pk_sub (by omega)⟩
      have e6 : st μ2 c 5 (μ2 c 5 - pd) c 6 = μ2 c 6 := by rw [st_at, if_neg (by omega)]
      have R4 := R3.pt hi 4 6 rfl (by decide) (by decide) (v := st μ2 c 5 (μ2 c 5 - pd) c 6 - pd) (v2 := st ν2 1 (16 + 40 * i + 3) (ν2 1 (16 + 40 * i + 3) + -pd) 1 (16 + 40 * i + 4) + -pd) (by rw [R3.q (w := 4) (by decide), sub_neg']) (MB_6 R3.mb (by rw [e6]; exact hdebt))
      unfold X10_passes_67
      rw [ob_of (more_ok (w := 3) hi (by decide) _ _), ob_of (more_ok (w := 4) hi (by decide) _ _)]
      obtain ⟨f1, f2, f3⟩ := fin _ _ R4
      exact ⟨_, _, f1, by rw [ob_of f2], f3⟩
  · have hz : ¬ nI (h % 24) = 0 := fun q => h0 ((nI_z (by omega)).mp q)
    rw [if_neg hz, if_neg hz]
    exact ⟨μ, ν, R, rfl, rfl⟩
theorem smart_c (c : Nat) (μ : Mem) : (smart (μ c) ∧ X2_isSmart c μ = some (1, μ)) ∨ (¬ smart (μ c) ∧ X2_isSmart c μ = some (0, μ)) := by
  unfold X2_isSmart smart
  by_cases h1 : μ c 2 = 2
  · exact Or.inl ⟨Or.inl h1, by rw [if_pos h1]⟩
  · by_cases h2 : μ c 2 = 4
    · exact Or.inl ⟨Or.inr h2, by rw [if_neg h1, if_pos h2]⟩
    · exact Or.inr ⟨fun q => q.elim h1 h2, by rw [if_neg h1, if_neg h2]⟩
theorem smart_m (hi : i < 8) (R : HR c i nl μ0 ν0 μ ν) : (smart (μ c) ∧ X10_isSmart (nI i) ν = some (1, ν)) ∨ (¬ smart (μ c) ∧ X10_isSmart (nI i) ν = some (0, ν)) := by
  have q0 : ν 1 (16 + 40 * i + 0) = μ c 2 := R.q (w := 0) (by decide)
  unfold X10_isSmart smart
  rw [ob2_of (of_ok (w := 0) hi (by decide) ν), q0]
  by_cases h1 : μ c 2 = 2
  · exact Or.inl ⟨Or.inl h1, by rw [if_pos h1]⟩
  · rw [if_neg h1, ob2_of (of_ok (w := 0) hi (by decide) ν), q0]
    by_cases h2 : μ c 2 = 4
    · exact Or.inl ⟨Or.inr h2, by rw [if_pos h2]⟩
    · exact Or.inr ⟨fun q => q.elim h1 h2, by rw [if_neg h2]⟩
/-- the law that a meter has loaded, under the one in force -/
theorem loaded_ok (X : HX c i nl h μ0 ν0) (R : HR c i nl μ0 ν0 μ ν) {r : Int32} (hr : LD nl r) (hf : X10_forceIn 0 (nI h) ν = some (r, ν)) : ∃ r2, LD nl r2 ∧ X2_loadedUnder c r μ = some (r2, μ) ∧ X10_loadedOf (nI i) ν = some (r2, ν) := by
  unfold X2_loadedUnder X10_loadedOf
  rcases smart_c c μ with ⟨hs, e1⟩ | ⟨hs, e1⟩
  · rcases smart_m X.2.2.1 R with ⟨-, e2⟩ | ⟨hn, -⟩
    · rw [ob2_of e1, ob2_of e2, if_neg (by decide), if_neg (by decide), X.hr R, ob2_of hf]
      exact ⟨r, hr, rfl, rfl⟩
    · exact absurd hs hn
  · rcases smart_m X.2.2.1 R with ⟨hn, -⟩ | ⟨-, e2⟩
    · exact absurd hn hs
    · rw [ob2_of e1, ob2_of e2, if_pos rfl, if_pos rfl, ob2_of (of_ok (w := 12) X.2.2.1 (by decide) ν)]
      have q12 : ν 1 (16 + 40 * i + 12) = μ c 14 := R.1.2.2.1.resolve_left hs
      rw [q12]
      exact ⟨_, R.mb.2.2.2.2.2.2.2, rfl, rfl⟩
/-- an hour's use, and the cut behind it -/
theorem use_ok (X : HX c i nl h μ0 ν0) (R : HR c i nl μ0 ν0 μ ν) : ∃ z μ2 ν2, HR c i nl μ0 ν0 μ2 ν2 ∧ X7_endHour_13 c (nI h) μ = some (z, μ2) ∧ X10_passes_92 (nI i) (nI (h % 24)) ν = some (z, ν2) ∧ (z = 0 ∨ z = 1) := by
  have hi := X.2.2.1
  have hc := X.2.2.2.1
  have hh := X.2.2.2.2.2
  unfold X7_endHour_13 X10_passes_92
  have q6 : ν 1 (16 + 40 * i + 6) = μ c 8 := R.q (w := 6) (by decide)
  rw [ob2_of (of_ok (w := 6) hi (by decide) ν), q6]
  rcases R.mb.2.2.2.2.2.1 with h8 | h8
  · -- it sits dark
    rw [if_pos h8, if_pos h8, lt_of, ob_of (more_ok (w := 10) hi (by decide) _ _)]
    have R1 := R.pt hi 10 12 rfl (by decide) (by decide) (v := μ c 12 + 1) (v2 := ν 1 (16 + 40 * i + 10) + 1) (by rw [R.q (w := 10) (by decide)]) (MB_free R.mb (Or.inr ⟨by decide, by decide⟩))
    refine ⟨0, _, _, R1, ?_, rfl, Or.inl rfl⟩
    unfold X7_endHour_39
    rw [if_pos (by rw [st_at, if_neg (by omega)]; exact h8)]
    rfl
  · rw [if_neg (by rw [h8]; decide), if_neg (by rw [h8]; decide)]
    -- what is used, and the prices
    have hk : (13 : Int32) + nI (h % 24) = nI (13 + h % 24) := nI_add 13 (h % 24)
    have hu : ν 1 (16 + 40 * i + (13 + h % 24)) = μ (c + 1) (h % 24) := R.1.2.2.2.1 (h % 24) (by omega)
    rw [ob2_of (of_ok (w := 13 + h % 24) hi (by omega) ν hk), hu]
    obtain ⟨r, hr, a1, a2⟩ := rul_ok (X.lr R) 0 (nI h)
    obtain ⟨r2, hr2, b1, b2⟩ := loaded_ok X R hr a2
    obtain ⟨p, μ1, ν1, p1, p2, p3, p4⟩ := price_ok X R hr2
    have R1 := R.xs hc p3 p4
    obtain ⟨p', μ2, ν2, d1, d2, d3, d4⟩ := price_ok X R1 hr
    obtain ⟨r3, hr3, a3, a4⟩ := rul_ok (X.lr R1) 0 (nI h)
    have er : r3 = r := by
      have ha : X1_ruling 0 (nI h) μ1 = some (r3, μ1) := a3
      -- the same rows
      have hrow : X10_forceIn 0 (nI h) ν1 = some (r3, ν1) := a4
      obtain ⟨r4, -, c1, c2⟩ := rul_ok (X.lr (R.xs hc (EqX.rf μ) p4)) 0 (nI h)
      have e1 : r4 = r := (Prod.mk.inj (Option.some.inj (c1.symm.trans a1))).1
      have e2 : r4 = r3 := (Prod.mk.inj (Option.some.inj (c2.symm.trans a4))).1
      exact e2.symm.trans e1
    rw [er] at a4
    generalize hu2 : μ (c + 1) (h % 24) = u
    rw [ob2_of b2, ob2_of p2, X.hr R1, ob2_of a4, ob2_of d2]
    -- the class's own price in force
    have hcl : X7_useLoad c (nI h) μ = X7_useLoad_65 c u p p' μ1 ∨ X7_useLoad c (nI h) μ = X7_useLoad_65 c u p p' μ2 := by
      unfold X7_useLoad
      rw [clk hh, gd_pos (i_in (by omega) (by omega)), i_tn (by omega), ob2_of a1, ob2_of b1, ob2_of p1, hu2]
      by_cases hrr : r = r2
      · refine Or.inl ?_
        rw [if_pos hrr]
        obtain ⟨p'', μ3, ν3, f1, f2, -, -⟩ := price_ok X (R.xs hc (EqX.rf μ) p4) hr
        rw [hrr] at f1
        have e1 : p'' = p := (Prod.mk.inj (Option.some.inj (f1.symm.trans p1))).1
        have e2 : p'' = p' := (Prod.mk.inj (Option.some.inj (f2.symm.trans d2))).1
        rw [← e2, e1]
      · refine Or.inr ?_
        rw [if_neg hrr, ob2_of d1]
    -- from one memory of the class or the other
    have go : ∀ μ3, HR c i nl μ0 ν0 μ3 ν2 → μ3 c = μ c → ∃ z μ4 ν4, HR c i nl μ0 ν0 μ4 ν4 ∧ (ob (X7_useLoad_65 c u p p' μ3) fun μ13 => X7_endHour_39 c (nI h) μ13) = some (z, μ4) ∧ (ob (X10_more (nI i) 3 ((-u) * p) ν2) fun μ10 => ob (X10_more (nI i) 11 (u * (p' - p)) μ10) fun μ11 => ob (X10_more (nI i) 9 u μ11) fun μ12 => ob (X10_more (nI i) 8 u μ12) fun μ13 => ob2 (X10_of (nI i) 0 μ13) fun r14 μ14 => (if r14 = 4 then X10_passes_235 (nI i) μ14 else ob2 (X10_of (nI i) 3 μ14) fun r19 μ19 => ob2 (X10_limit (nI i) μ19) fun r20 μ20 => (if r20 ≤ r19 then X10_passes_235 (nI i) μ20 else ob2 (X10_isFriendly ((μ20 1 0) + 1) μ20) fun r22 μ22 => (if r22 = 0 then X10_passes_236 (nI i) 1 μ22 else X10_passes_235 (nI i) μ22)))) = some (z, ν4) ∧ (z = 0 ∨ z = 1) := by
      intro μ3 R3 hμ3
      have k3 : μ3 c 8 = 1 := by rw [hμ3]; exact h8
      unfold X7_useLoad_65
      rw [lt_of, lt_of, lt_of, lt_of, ob_of (more_ok (w := 3) hi (by decide) _ _), ob_of (more_ok (w := 11) hi (by decide) _ _), ob_of (more_ok (w := 9) hi (by decide) _ _), ob_of (more_ok (w := 8) hi (by decide) _ _)]
      have R4 := R3.pt hi 3 5 rfl (by decide) (by decide) (v := μ3 c 5 - u * p) (v2 := ν2 1 (16 + 40 * i + 3) + (-u) * p) (by rw [R3.q (w := 3) (by decide), Int32.neg_mul, sub_neg']) (MB_free R3.mb (Or.inl rfl))
      have k4 : st μ3 c 5 (μ3 c 5 - u * p) c 8 = 1 := by rw [st_at, if_neg (by omega)]; exact k3
      generalize st μ3 c 5 (μ3 c 5 - u * p) = μ4 at R4 k4 ⊢
      generalize st ν2 1 (16 + 40 * i + 3) (ν2 1 (16 + 40 * i + 3) + (-u) * p) = ν4 at R4 ⊢
      have R5 := R4.pt hi 11 13 rfl (by decide) (by decide) (v := μ4 c 13 + u * (p' - p)) (v2 := ν4 1 (16 + 40 * i + 11) + u * (p' - p)) (by rw [R4.q (w := 11) (by decide)]) (MB_free R4.mb (Or.inr ⟨by decide, by decide⟩))
      have k5 : st μ4 c 13 (μ4 c 13 + u * (p' - p)) c 8 = 1 := by rw [st_at, if_neg (by omega)]; exact k4
      generalize st μ4 c 13 (μ4 c 13 + u * (p' - p)) = μ5 at R5 k5 ⊢
      generalize st ν4 1 (16 + 40 * i + 11) (ν4 1 (16 + 40 * i + 11) + u * (p' - p)) = ν5 at R5 ⊢
      have R6 := R5.pt hi 9 11 rfl (by decide) (by decide) (v := μ5 c 11 + u) (v2 := ν5 1 (16 + 40 * i + 9) + u) (by rw [R5.q (w := 9) (by decide)]) (MB_free R5.mb (Or.inr ⟨by decide, by decide⟩))
      have k6 : st μ5 c 11 (μ5 c 11 + u) c 8 = 1 := by rw [st_at, if_neg (by omega)]; exact k5
      generalize st μ5 c 11 (μ5 c 11 + u) = μ6 at R6 k6 ⊢
      generalize st ν5 1 (16 + 40 * i + 9) (ν5 1 (16 + 40 * i + 9) + u) = ν6 at R6 ⊢
      have R7 := R6.pt hi 8 10 rfl (by decide) (by decide) (v := μ6 c 10 + u) (v2 := ν6 1 (16 + 40 * i + 8) + u) (by rw [R6.q (w := 8) (by decide)]) (MB_free R6.mb (Or.inr ⟨by decide, by decide⟩))
      have k7 : st μ6 c 10 (μ6 c 10 + u) c 8 = 1 := by rw [st_at, if_neg (by omega)]; exact k6
      generalize st μ6 c 10 (μ6 c 10 + u) = μ7 at R7 k7 ⊢
      generalize st ν6 1 (16 + 40 * i + 8) (ν6 1 (16 + 40 * i + 8) + u) = ν7 at R7 ⊢
      have q0 : ν7 1 (16 + 40 * i + 0) = μ7 c 2 := R7.q (w := 0) (by decide)
      have q3 : ν7 1 (16 + 40 * i + 3) = μ7 c 5 := R7.q (w := 3) (by decide)
      -- not cut
      have no : HR c i nl μ0 ν0 μ7 (st ν7 1 (16 + 40 * i + 6) 1) ∧ X7_endHour_78 c μ7 = some (0, μ7) ∧ X10_passes_235 (nI i) ν7 = some (0, st ν7 1 (16 + 40 * i + 6) 1) := by
        refine ⟨R7.same (w := 6) (by decide) k7.symm, rfl, ?_⟩
        unfold X10_passes_235 X10_passes_236
        rw [if_pos rfl]
        unfold X10_passes_252
        rw [ob_of (set_ok (w := 6) hi (by decide) _ _), gd_pos (by decide)]
      have yes : HR c i nl μ0 ν0 (st μ7 c 8 0) (st ν7 1 (16 + 40 * i + 6) 0) ∧ X7_endHour_79 c 1 μ7 = some (1, st μ7 c 8 0) ∧ X10_passes_236 (nI i) 1 ν7 = some (1, st ν7 1 (16 + 40 * i + 6) 0) := by
        refine ⟨R7.pt hi 6 8 rfl (by decide) (by decide) rfl (MB_8 R7.mb (Or.inl rfl)), rfl, ?_⟩
        unfold X10_passes_236
        rw [if_neg (by decide)]
        unfold X10_passes_252
        rw [ob_of (set_ok (w := 6) hi (by decide) _ _), gd_pos (by decide)]
      rw [ob_of (show some μ7 = some μ7 from rfl), ob2_of (of_ok (w := 0) hi (by decide) ν7), q0]
      unfold X7_endHour_39
      rw [if_neg (by rw [k7]; decide)]
      by_cases h4 : μ7 c 2 = 4
      · rw [if_pos h4, if_pos h4]
        exact ⟨0, _, _, no.1, no.2.1, no.2.2, Or.inl rfl⟩
      · rw [if_neg h4, if_neg h4, ob2_of (limit_c c μ7), ob2_of (of_ok (w := 3) hi (by decide) ν7), q3, ob2_of (limit_m hi R7)]
        by_cases hl : lim (μ7 c) ≤ μ7 c 5
        · rw [if_pos hl, if_pos hl]
          exact ⟨0, _, _, no.1, no.2.1, no.2.2, Or.inl rfl⟩
        · rw [if_neg hl, if_neg hl, X.hr R7, nI_1]
          obtain ⟨z, f1, f2⟩ := friendly_ok (h := h + 1) (by omega) μ7 ν7
          rw [ob2_of f1, ob2_of f2]
          by_cases hz : z = 0
          · rw [if_pos hz, if_pos hz]
            exact ⟨1, _, _, yes.1, yes.2.1, yes.2.2, Or.inr rfl⟩
          · rw [if_neg hz, if_neg hz]
            exact ⟨0, _, _, no.1, no.2.1, no.2.2, Or.inl rfl⟩
    rcases hcl with hcl | hcl
    · rw [hcl]
      exact go μ1 (R1.xs hc (EqX.rf μ1) d4) (p3 c (by omega))
    · rw [hcl]
      exact go μ2 (R1.xs hc d3 d4) ((d3 c (by omega)).trans (p3 c (by omega)))
/-- AN HOUR OF A METER: both do the same -/
theorem pass_ok (X : HX c i nl h μ0 ν0) (R : HR c i nl μ0 ν0 μ ν) : ∃ z μ2 ν2, HR c i nl μ0 ν0 μ2 ν2 ∧ X7_endHour c (nI h) μ = some (z, μ2) ∧ X10_passes (nI i) ν = some (z, ν2) ∧ (z = 0 ∨ z = 1) := by
  obtain ⟨μ1, ν1, R1, e1, e2⟩ := day_ok X R
  rw [e1, e2]
  exact use_ok X R1
theorem connects_ok (hi : i < 8) (R : HR c i nl μ0 ν0 μ ν) : ∃ μ2 ν2, HR c i nl μ0 ν0 μ2 ν2 ∧ X2_connectAboveLimit c μ = some μ2 ∧ X10_connects (nI i) ν = some ν2 := by
  have q3 : ν 1 (16 + 40 * i + 3) = μ c 5 := R.q (w := 3) (by decide)
  unfold X2_connectAboveLimit X10_connects
  rw [ob2_of (limit_c c μ), ob2_of (of_ok (w := 3) hi (by decide) ν), q3, ob2_of (limit_m hi R)]
  by_cases hl : μ c 5 < lim (μ c)
  · rw [if_pos hl, if_pos hl]
    exact ⟨μ, ν, R, rfl, rfl⟩
  · rw [if_neg hl, if_neg hl, lt_of, ob_of (set_ok (w := 6) hi (by decide) _ _)]
    exact ⟨_, _, R.pt hi 6 8 rfl (by decide) (by decide) rfl (MB_8 R.mb (Or.inr rfl)), rfl, rfl⟩
theorem wcl_r {V n : Int32} (hn : 0 ≤ n) : 0 ≤ (wcl V n).toInt ∧ (wcl V n).toInt ≤ n.toInt := by
  have e0 : (0 : Int32).toInt = 0 := rfl
  rw [i_le, e0] at hn
  unfold wcl
  by_cases h1 : 0 ≤ V
  · rw [if_pos h1]
    rw [i_le, e0] at h1
    by_cases h2 : V ≤ n
    · rw [if_pos h2]
      rw [i_le] at h2
      omega
    · rw [if_neg h2]
      omega
  · rw [if_neg h1, e0]
    omega
/-- TOPPING UP A METER: both do the same -/
theorem tops_ok (X : HX c i nl h μ0 ν0) (R : HR c i nl μ0 ν0 μ ν) {n : Nat} (hn : n ≤ 9999) : ∃ z μ2 ν2, HR c i nl μ0 ν0 μ2 ν2 ∧ X7_topUp c (nI h) (nI n) μ = some (z, μ2) ∧ X10_tops (nI i) (nI n) ν = some (z, ν2) := by
  have hi := X.2.2.1
  have hc := X.2.2.2.1
  have hL := X.lr R
  have h85 : μ 8 5 = nI nl := hL.2.1
  obtain ⟨o, ho1, ho2⟩ := R.mb.2.2.2.1
  have hn0 : (0 : Int32) ≤ nI n := by rw [i_le, i_n _ (by omega)]; show 0 ≤ (n : Int); omega
  -- what is taken
  have htake : ∃ t μ1 ν1, EqX μ μ1 ∧ EqS ν ν1 ∧ (∃ k, k ≤ o ∧ t = nI k) ∧ X1_takenFrom c (nI h) (nI n) μ = some (t, μ1) ∧ X10_tops (nI i) (nI n) ν = X10_tops_62 (nI i) (nI n) t ν1 := by
    obtain ⟨r, hr, r1, r2⟩ := rul_ok hL 2 (nI h)
    unfold X1_takenFrom X10_tops
    rw [ob2_of r1, ob2_of (has_ok h85 hL.1 hr), X.hr R, ob2_of r2]
    have q4 : ν 1 (16 + 40 * i + 4) = μ c 6 := R.q (w := 4) (by decide)
    by_cases hnr : r = -1
    · refine ⟨0, μ, ν, EqX.rf μ, EqS.rf ν, ⟨0, by omega, rfl⟩, ?_, ?_⟩
      · rw [if_pos hnr, if_pos rfl]
      · rw [if_neg (fun q => (LD_neg hL.1 hr).mp q hnr)]
        unfold X10_tops_38
        rw [ob2_of (of_ok (w := 4) hi (by decide) ν), q4, ho2]
        by_cases hz : nI o ≤ 0
        · have : o = 0 := by
            rw [i_le, i_n _ (by omega)] at hz
            have e0 : (0 : Int32).toInt = 0 := rfl
            omega
          rw [if_pos hz, ob2_of (of_ok (w := 4) hi (by decide) ν), q4, ho2, this]
          rfl
        · rw [if_neg hz]
    · obtain ⟨V, μ1, ν1, a1, a2, a3, a4, a5, a6⟩ := ask_ok X R hr hnr (nI n) (nI n) hn0
      have e6 : μ1 c 6 = nI o := by rw [a5 c (by omega)]; exact ho2
      have q41 : ν1 1 (16 + 40 * i + 4) = nI o := by rw [a6.1 1 (by decide) (by decide), q4, ho2]
      have hw := wcl_r (V := V) hn0
      obtain ⟨k, hk1, hk2⟩ : ∃ k : Nat, k ≤ 9999 ∧ wcl V (nI n) = nI k := by
        rw [i_n _ (by omega)] at hw
        refine ⟨(wcl V (nI n)).toInt.toNat, by omega, i_eq.mpr ?_⟩
        rw [i_n _ (by omega)]
        omega
      refine ⟨if nI o < nI k then nI o else nI k, μ1, ν1, a5, a6, ?_, ?_, ?_⟩
      · by_cases hlt : nI o < nI k
        · rw [if_pos hlt]; exact ⟨o, Nat.le_refl o, rfl⟩
        · rw [if_neg hlt]
          rw [i_lt, i_n _ (by omega), i_n _ (by omega)] at hlt
          exact ⟨k, by omega, rfl⟩
      · rw [if_neg hnr, if_neg (by decide), ob2_of a1, ob2_of a2, e6, hk2]
      · rw [if_pos ((LD_neg hL.1 hr).mpr hnr), ob2_of a3, ob2_of a4, hk2]
        unfold X10_tops_38
        rw [ob2_of (of_ok (w := 4) hi (by decide) ν1), q41]
        by_cases hle : nI o ≤ nI k
        · rw [if_pos hle, ob2_of (of_ok (w := 4) hi (by decide) ν1), q41]
          by_cases hlt : nI o < nI k
          · rw [if_pos hlt]
          · rw [if_neg hlt]
            rw [i_le, i_n _ (by omega), i_n _ (by omega)] at hle
            rw [i_lt, i_n _ (by omega), i_n _ (by omega)] at hlt
            rw [show o = k by omega]
        · rw [if_neg hle, if_neg (fun q => hle (by rw [i_le]; rw [i_lt] at q; omega))]
  obtain ⟨t, μ1, ν1, t1, t2, ⟨k, hk1, hk2⟩, t4, t5⟩ := htake
  have R1 := R.xs hc t1 t2
  have e6 : μ1 c 6 = nI o := by rw [t1 c (by omega)]; exact ho2
  rw [t5]
  unfold X7_topUp X10_tops_62
  rw [ob2_of t4, lt_of, lt_of, ob_of (more_ok (w := 4) hi (by decide) _ _), ob_of (more_ok (w := 3) hi (by decide) _ _)]
  have R2 := R1.pt hi 4 6 rfl (by decide) (by decide) (v := μ1 c 6 - t) (v2 := ν1 1 (16 + 40 * i + 4) + -t) (by rw [R1.q (w := 4) (by decide), sub_neg']) (MB_6 R1.mb ⟨o - k, by omega, by rw [e6, hk2, pk_sub hk1]⟩)
  generalize st μ1 c 6 (μ1 c 6 - t) = μ2 at R2 ⊢
  generalize st ν1 1 (16 + 40 * i + 4) (ν1 1 (16 + 40 * i + 4) + -t) = ν2 at R2 ⊢
  have R3 := R2.pt hi 3 5 rfl (by decide) (by decide) (v := μ2 c 5 + (nI n - t)) (v2 := ν2 1 (16 + 40 * i + 3) + (nI n - t)) (by rw [R2.q (w := 3) (by decide)]) (MB_free R2.mb (Or.inl rfl))
  generalize st μ2 c 5 (μ2 c 5 + (nI n - t)) = μ3 at R3 ⊢
  generalize st ν2 1 (16 + 40 * i + 3) (ν2 1 (16 + 40 * i + 3) + (nI n - t)) = ν3 at R3 ⊢
  obtain ⟨r, hr, b1, b2⟩ := rul_ok (X.lr R3) 0 (nI h)
  rw [ob2_of b1, lt_of]
  -- behind the loading
  have fin : ∀ ν4, HR c i nl μ0 ν0 (st μ3 c 14 r) ν4 → ∃ z μ5 ν5, HR c i nl μ0 ν0 μ5 ν5 ∧ (if (st μ3 c 14 r c 5) < 0 then X7_topUp_61 c t (st μ3 c 14 r) else lt (st (st μ3 c 14 r) c 9 0) fun μ8 => X7_topUp_61 c t μ8) = some (z, μ5) ∧ X10_tops_109 (nI i) t ν4 = some (z, ν5) := by
    intro ν4 R4
    generalize st μ3 c 14 r = μ4 at R4 ⊢
    unfold X10_tops_109
    have q3 : ν4 1 (16 + 40 * i + 3) = μ4 c 5 := R4.q (w := 3) (by decide)
    rw [ob2_of (of_ok (w := 3) hi (by decide) ν4), q3]
    by_cases hz : μ4 c 5 < 0
    · rw [if_pos hz, if_pos hz]
      obtain ⟨μ5, ν5, R5, c1, c2⟩ := connects_ok hi R4
      refine ⟨t, μ5, ν5, R5, ?_, ?_⟩
      · unfold X7_topUp_61
        rw [ob_of c1]
      · unfold X10_tops_126
        rw [ob_of c2]
    · rw [if_neg hz, if_neg hz, lt_of, ob_of (set_ok (w := 7) hi (by decide) _ _)]
      obtain ⟨μ5, ν5, R5, c1, c2⟩ := connects_ok hi (R4.pt hi 7 9 rfl (by decide) (by decide) (v := 0) (v2 := 0) rfl (MB_9 R4.mb (Or.inl rfl)))
      refine ⟨t, μ5, ν5, R5, ?_, ?_⟩
      · unfold X7_topUp_61
        rw [ob_of c1]
      · unfold X10_tops_126
        rw [ob_of c2]
  rcases smart_m hi R3 with ⟨hs, e2⟩ | ⟨hs, e2⟩
  · rw [ob2_of e2, if_neg (show ¬ (1 : Int32) = 0 by decide)]
    exact fin ν3 (R3.put14s hs hr)
  · rw [ob2_of e2, if_pos (show (0 : Int32) = 0 from rfl), X.hr R3, ob2_of b2, ob_of (set_ok (w := 12) hi (by decide) _ _)]
    exact fin _ (R3.put14 hr)
end PA
