/-! the calls, one by one: meters -/
theorem in_r {x lo hi : Int32} {a b : Int} (ha : lo.toInt = a) (hb : hi.toInt = b) (m : Mem) : X10_in x lo hi m = some (rg x a b, m) := by
  rw [in_rg, ha, hb]
theorem i_ne {x : Int32} {k : Nat} (hk : k < 1000000) (h : ¬ x.toInt = (k : Int)) : ¬ x = nI k := fun q => h (by rw [q, i_n _ (by omega)])
theorem m8 {i nm : Nat} (hi : i < nm) (hn : nm ≤ 8) : inB (nI i) 8 ∧ (nI i).toNatClampNeg = i := ⟨i_in (by omega) (by omega), i_tn (by omega)⟩
def isT (k q : Nat) : Int32 := if q = 0 ∨ k = q ∨ (q = 1 ∧ (k = 3 ∨ k = 5)) ∨ (q = 2 ∧ k = 4) then 1 else 0
theorem isOf_ok (f : Nat) (μ : Mem) : ∀ k, k < 6 → ∀ q, q < 6 → X2_isOf_7 (f + 10) (nI q) (nI k) 0 μ = some (isT k q, μ) := by
  intro k hk q hq
  rcases (show k = 0 ∨ k = 1 ∨ k = 2 ∨ k = 3 ∨ k = 4 ∨ k = 5 by omega) with rfl | rfl | rfl | rfl | rfl | rfl <;> rcases (show q = 0 ∨ q = 1 ∨ q = 2 ∨ q = 3 ∨ q = 4 ∨ q = 5 by omega) with rfl | rfl | rfl | rfl | rfl | rfl <;> rfl
theorem as_if {α : Type} {A B : α} {k q : Nat} (hk : k < 6) (hq : q < 6) : (if nI q = 0 then A else (if nI k = nI q then A else (if nI q = 1 then (if nI k = 3 then A else (if nI k = 5 then A else (if nI q = 2 then (if nI k = 4 then A else B) else B))) else (if nI q = 2 then (if nI k = 4 then A else B) else B)))) = if isT k q = 0 then B else A := by
  rcases (show k = 0 ∨ k = 1 ∨ k = 2 ∨ k = 3 ∨ k = 4 ∨ k = 5 by omega) with rfl | rfl | rfl | rfl | rfl | rfl <;> rcases (show q = 0 ∨ q = 1 ∨ q = 2 ∨ q = 3 ∨ q = 4 ∨ q = 5 by omega) with rfl | rfl | rfl | rfl | rfl | rfl <;> rfl
section O1
variable {j : Nat} {μ ν : Mem}
theorem op_as (a0 a1 : Int32) (hS : Sim j μ ν) : ∃ r μ2 ν2, X9_as a0 a1 μ = some (r, μ2) ∧ X10_as a0 a1 ν = some (r, ν2) ∧ Sim (j + 1) μ2 ν2 := by
  obtain ⟨⟨h, nm, ns, nl, nr, nt, tl, t⟩, o⟩ := id hS
  have b := t.1
  unfold X9_as X10_as
  rcases isM t a0 with ⟨i, hi, rfl, e1, e2⟩ | ⟨e1, e2⟩
  · obtain ⟨X, R⟩ := hx_of t o.2.2.2.2 hi
    have i8 := X.2.2.1
    rw [ob2_of e1, ob2_of e2, if_neg (show ¬ (1 : Int32) = 0 by decide), if_neg (show ¬ (1 : Int32) = 0 by decide), ob2_of (isKind_rg _ _), ob2_of (in_r (a := 0) (b := 5) (by decide) (by decide) _)]
    rcases rg_cases a1 0 5 with ⟨r, -⟩ | ⟨r, r1, r2⟩
    · rw [r, if_pos (show (0 : Int32) = 0 from rfl), if_pos (show (0 : Int32) = 0 from rfl)]
      exact find_ok hS 1 (by decide)
    · rw [r, if_neg (show ¬ (1 : Int32) = 0 by decide), if_neg (show ¬ (1 : Int32) = 0 by decide), gd_pos (m8 hi b.2.1).1, (m8 hi b.2.1).2, ob2_of (of_ok (w := 0) i8 (by decide) ν)]
      obtain ⟨q, hq, rfl, -⟩ := to_nat (hi := 5) ⟨r1, r2⟩ (by decide)
      obtain ⟨k, hk, hk2⟩ := R.mb.1
      have q0 : ν 1 (16 + 40 * i + 0) = nI k := (R.q (w := 0) (by decide)).trans hk2
      have q3 : ν 1 (16 + 40 * i + 3) = μ (24 + 2 * i) 5 := R.q (w := 3) (by decide)
      have ec : X2_isOf (24 + 2 * i) (nI q) μ = some (isT k q, μ) := by
        obtain ⟨f, hf⟩ : ∃ f, FU = f + 10 := ⟨FU - 10, by have := FU_ge; omega⟩
        unfold X2_isOf
        rw [hk2, hf]
        exact isOf_ok f μ k hk q (by omega)
      rw [q0, ob2_of ec]
      unfold X10_as_54
      rw [as_if hk (by omega)]
      unfold X10_as_64 X10_as_68 X10_as_69
      rw [if_neg (show ¬ (1 : Int32) = 0 by decide), if_pos (show (0 : Int32) = 0 from rfl)]
      by_cases hz : isT k q = 0
      · rw [if_pos hz, if_pos hz]
        exact find_ok hS 5 (by decide)
      · rw [if_neg hz, if_neg hz, ob2_of (of_ok (w := 3) i8 (by decide) ν), q3]
        exact ⟨_, _, _, rfl, rfl, hS.up⟩
  · rw [ob2_of e1, ob2_of e2, if_pos rfl, if_pos rfl]
    exact find_ok hS 1 (by decide)
theorem op_load (a0 a1 a2 : Int32) (hS : Sim j μ ν) : ∃ r μ2 ν2, X9_load a0 a1 a2 μ = some (r, μ2) ∧ X10_load a0 a1 a2 ν = some (r, ν2) ∧ Sim (j + 1) μ2 ν2 := by
  obtain ⟨⟨h, nm, ns, nl, nr, nt, tl, t⟩, o⟩ := id hS
  have b := t.1
  unfold X9_load X10_load
  rcases isM t a0 with ⟨i, hi, rfl, e1, e2⟩ | ⟨e1, e2⟩
  · obtain ⟨X, R⟩ := hx_of t o.2.2.2.2 hi
    have i8 := X.2.2.1
    rw [ob2_of e1, ob2_of e2, if_neg (show ¬ (1 : Int32) = 0 by decide), if_neg (show ¬ (1 : Int32) = 0 by decide), ob2_of (isClock_rg _ _), ob2_of (in_r (a := 0) (b := 23) (by decide) (by decide) _)]
    rcases rg_cases a1 0 23 with ⟨r, -⟩ | ⟨r, r1, r2⟩
    · rw [r, if_pos (show (0 : Int32) = 0 from rfl), if_pos (show (0 : Int32) = 0 from rfl)]
      exact find_ok hS 1 (by decide)
    · rw [r, if_neg (show ¬ (1 : Int32) = 0 by decide), if_neg (show ¬ (1 : Int32) = 0 by decide), ob2_of (in_r (a := 0) (b := 9) (by decide) (by decide) _)]
      have e0 : (0 : Int32).toInt = 0 := rfl
      have e9 : (9 : Int32).toInt = 9 := rfl
      rcases rg_cases a2 0 9 with ⟨r', r3⟩ | ⟨r', r3, r4⟩
      · rw [r', if_pos (show (0 : Int32) = 0 from rfl)]
        by_cases hz : a2 < 0
        · rw [if_pos hz]
          exact find_ok hS 1 (by decide)
        · rw [if_neg hz, if_neg (show ¬ a2 ≤ 9 by rw [i_le, e9]; rw [i_lt, e0] at hz; omega)]
          exact find_ok hS 1 (by decide)
      · rw [r', if_neg (show ¬ (1 : Int32) = 0 by decide), if_neg (show ¬ a2 < 0 by rw [i_lt, e0]; omega), if_pos (show a2 ≤ 9 by rw [i_le, e9]; omega)]
        obtain ⟨q, hq, rfl, -⟩ := to_nat (hi := 23) ⟨r1, r2⟩ (by decide)
        have hk : (13 : Int32) + nI q = nI (13 + q) := nI_add 13 q
        rw [gd_pos (m8 hi b.2.1).1, (m8 hi b.2.1).2, gd_pos (i_in (by omega) (by omega)), gd_pos (i_in (by omega) (by omega)), i_tn (by omega), lt_of, ob2_of (of_ok (w := 13 + q) i8 (by omega) ν hk), ob_of (set_ok (w := 13 + q) i8 (by omega) _ _ hk)]
        have hq2 : ν 1 (16 + 40 * i + (13 + q)) = μ (24 + 2 * i + 1) q := R.1.2.2.2.1 q (by omega)
        rw [hq2]
        refine ⟨_, _, _, rfl, rfl, ?_⟩
        -- the row of loads is another cell than the meter's own
        have oxx : ∀ a, a ≠ 24 + 2 * i + 1 → st μ (24 + 2 * i + 1) q a2 a = μ a := fun a ha => st_other _ _ _ ha
        have omm : ∀ a, a ≠ 1 → st ν 1 (16 + 40 * i + (13 + q)) a2 a = ν a := fun a ha => st_other _ _ _ ha
        have odd : ∀ w, w ≠ 16 + 40 * i + (13 + q) → st ν 1 (16 + 40 * i + (13 + q)) a2 1 w = ν 1 w := fun w hw => by rw [st_at, if_neg (by omega)]
        obtain ⟨bb, h1, h2, h3, h4, h5, h6, h7, h8, h9, h10, h11, h12, h13⟩ := t
        have hl := h4.1
        refine ⟨⟨h, nm, ns, nl, nr, nt, tl, bb, ?_, ?_, ?_, h4.c (fun a q1 q2 => oxx a (by omega)) (fun w hw => odd w (by omega)), ?_, ?_, ?_, ?_, fun k hk => ?_, fun s hs => ?_, fun r hr => ?_, fun k hk => ?_, fun k hk => ?_⟩, o.fr (fun a ha => oxx a (by omega)) ⟨fun a ha => omm a (by omega), fun k _ => by rw [omm 0 (by decide)]⟩⟩
        · rw [oxx 1 (by omega), odd 0 (by omega)]; exact h1
        · rw [oxx 1 (by omega), odd 1 (by omega)]; exact h2
        · rw [oxx (1 + 2) (by omega), odd 2 (by omega)]; exact h3
        · rw [oxx (1 + 13) (by omega), odd 4 (by omega)]; exact h5
        · rw [oxx (1 + 18) (by omega), odd 5 (by omega)]; exact h6
        · rw [oxx 1 (by omega), odd 6 (by omega)]; exact h7
        · rw [oxx (1 + 18) (by omega), odd 7 (by omega), odd 8 (by omega)]; exact h8
        · have hm := h9 k hk
          rw [show 1 + 23 + 2 * k = 24 + 2 * k by omega] at hm ⊢
          by_cases hki : k = i
          · subst hki
            obtain ⟨m1, m2, m3, m4, m5⟩ := hm
            rw [oxx (24 + 2 * k) (by omega), st_same]
            refine ⟨m1, fun w hw => by dsimp only; rw [odd _ (by omega)]; exact m2 w hw, m3.imp_right (fun m => by dsimp only; rw [odd _ (by omega)]; exact m), fun w hw => ?_, m5⟩
            dsimp only
            by_cases hwq : w = q
            · subst hwq
              rw [st_at, if_pos ⟨rfl, rfl⟩, pk_us]
            · rw [odd _ (by omega), pk_un hwq]
              exact m4 w hw
          · exact hm.cong (oxx _ (by omega)) (oxx _ (by omega)) (fun w hw => odd _ (by omega))
        · unfold ShR
          rw [oxx (1 + 3) (by omega), oxx (1 + 4) (by omega), oxx (1 + 5) (by omega), oxx (1 + 6) (by omega), odd _ (by omega), odd _ (by omega), odd _ (by omega), odd _ (by omega)]
          exact h10 s hs
        · unfold RdR
          rw [oxx (1 + 14) (by omega), oxx (1 + 15) (by omega), oxx (1 + 16) (by omega), oxx (1 + 17) (by omega), odd _ (by omega), odd _ (by omega), odd _ (by omega), odd _ (by omega)]
          exact h11 r hr
        · unfold TpR
          rw [oxx (1 + 19) (by omega), oxx (1 + 20) (by omega), oxx (1 + 21) (by omega), odd _ (by omega), odd _ (by omega), odd _ (by omega)]
          exact h12 k hk
        · unfold TaR
          rw [oxx (1 + 22) (by omega), odd _ (by omega)]
          exact h13 k hk
  · rw [ob2_of e1, ob2_of e2, if_pos rfl, if_pos rfl]
    exact find_ok hS 1 (by decide)
theorem op_owe (a0 a1 : Int32) (hS : Sim j μ ν) : ∃ r μ2 ν2, X9_owe a0 a1 μ = some (r, μ2) ∧ X10_owe a0 a1 ν = some (r, ν2) ∧ Sim (j + 1) μ2 ν2 := by
  obtain ⟨⟨h, nm, ns, nl, nr, nt, tl, t⟩, o⟩ := id hS
  have b := t.1
  unfold X9_owe X10_owe
  rcases isM t a0 with ⟨i, hi, rfl, e1, e2⟩ | ⟨e1, e2⟩
  · obtain ⟨X, R⟩ := hx_of t o.2.2.2.2 hi
    have i8 := X.2.2.1
    rw [ob2_of e1, ob2_of e2, if_neg (show ¬ (1 : Int32) = 0 by decide), if_neg (show ¬ (1 : Int32) = 0 by decide), ob2_of (isPence_rg _ _), ob2_of (in_r (a := 1) (b := 9999) (by decide) (by decide) _)]
    rcases rg_cases a1 1 9999 with ⟨r, -⟩ | ⟨r, r1, r2⟩
    · rw [r, if_pos (show (0 : Int32) = 0 from rfl), if_pos (show (0 : Int32) = 0 from rfl)]
      exact find_ok hS 1 (by decide)
    · obtain ⟨q, hq, rfl, -⟩ := to_nat (x := a1) (hi := 9999) ⟨by omega, r2⟩ (by decide)
      obtain ⟨k, hk, hk2⟩ := R.mb.2.2.2.1
      have q4 : ν 1 (16 + 40 * i + 4) = μ (24 + 2 * i) 6 := R.q (w := 4) (by decide)
      rw [r, if_neg (show ¬ (1 : Int32) = 0 by decide), if_neg (show ¬ (1 : Int32) = 0 by decide), gd_pos (m8 hi b.2.1).1, (m8 hi b.2.1).2, ob2_of (of_ok (w := 4) i8 (by decide) ν), q4]
      by_cases hz : μ (24 + 2 * i) 6 + nI q ≤ 99999
      · rw [if_pos hz, if_pos hz, lt_of, ob_of (more_ok (w := 4) i8 (by decide) _ _), ob2_of (of_ok (w := 4) i8 (by decide) _)]
        have hb : ∃ o2, o2 ≤ 99999 ∧ μ (24 + 2 * i) 6 + nI q = nI o2 := by
          rw [hk2, nI_add] at hz ⊢
          rw [i_le, i_n _ (by omega)] at hz
          have e : (99999 : Int32).toInt = 99999 := by decide
          exact ⟨k + q, by omega, rfl⟩
        have R2 := R.pt i8 4 6 rfl (by decide) (by decide) (v := μ (24 + 2 * i) 6 + nI q) (v2 := ν 1 (16 + 40 * i + 4) + nI q) (by rw [q4]) (MB_6 R.mb hb)
        refine ⟨_, _, _, rfl, ?_, sim_meter t o hi R2⟩
        rw [R2.q (w := 4) (by decide)]
      · rw [if_neg hz, if_neg hz]
        exact find_ok hS 4 (by decide)
  · rw [ob2_of e1, ob2_of e2, if_pos rfl, if_pos rfl]
    exact find_ok hS 1 (by decide)
theorem op_part (a0 a1 : Int32) (hS : Sim j μ ν) : ∃ r μ2 ν2, X9_part a0 a1 μ = some (r, μ2) ∧ X10_part a0 a1 ν = some (r, ν2) ∧ Sim (j + 1) μ2 ν2 := by
  obtain ⟨⟨h, nm, ns, nl, nr, nt, tl, t⟩, o⟩ := id hS
  have b := t.1
  unfold X9_part X10_part
  rcases isM t a0 with ⟨i, hi, rfl, e1, e2⟩ | ⟨e1, e2⟩
  · obtain ⟨X, R⟩ := hx_of t o.2.2.2.2 hi
    have i8 := X.2.2.1
    rw [ob2_of e1, ob2_of e2, if_neg (show ¬ (1 : Int32) = 0 by decide), if_neg (show ¬ (1 : Int32) = 0 by decide), ob2_of (isPart_rg _ _), ob2_of (in_r (a := 0) (b := 200) (by decide) (by decide) _)]
    rcases rg_cases a1 0 200 with ⟨r, -⟩ | ⟨r, r1, r2⟩
    · rw [r, if_pos (show (0 : Int32) = 0 from rfl), if_pos (show (0 : Int32) = 0 from rfl)]
      exact find_ok hS 1 (by decide)
    · obtain ⟨q, hq, rfl, -⟩ := to_nat (x := a1) (hi := 200) ⟨by omega, r2⟩ (by decide)
      rw [r, if_neg (show ¬ (1 : Int32) = 0 by decide), if_neg (show ¬ (1 : Int32) = 0 by decide), gd_pos (m8 hi b.2.1).1, (m8 hi b.2.1).2, ob2_of (of_ok (w := 5) i8 (by decide) ν), ob_of (set_ok (w := 5) i8 (by decide) _ _), lt_of]
      refine ⟨_, _, _, rfl, ?_, sim_meter t o hi (R.pt i8 5 7 rfl (by decide) (by decide) (v := nI q) (v2 := nI q) rfl (MB_7 R.mb ⟨q, hq, rfl⟩))⟩
      rw [R.q (w := 5) (by decide)]
  · rw [ob2_of e1, ob2_of e2, if_pos rfl, if_pos rfl]
    exact find_ok hS 1 (by decide)
theorem op_moveIn (a0 : Int32) (hS : Sim j μ ν) : ∃ r μ2 ν2, X9_moveIn a0 μ = some (r, μ2) ∧ X10_moveIn a0 ν = some (r, ν2) ∧ Sim (j + 1) μ2 ν2 := by
  obtain ⟨⟨h, nm, ns, nl, nr, nt, tl, t⟩, o⟩ := id hS
  have b := t.1
  unfold X9_moveIn X10_moveIn
  rcases isM t a0 with ⟨i, hi, rfl, e1, e2⟩ | ⟨e1, e2⟩
  · obtain ⟨X, R⟩ := hx_of t o.2.2.2.2 hi
    have i8 := X.2.2.1
    rw [ob2_of e1, ob2_of e2, if_neg (show ¬ (1 : Int32) = 0 by decide), if_neg (show ¬ (1 : Int32) = 0 by decide), gd_pos (m8 hi b.2.1).1, (m8 hi b.2.1).2, lt_of, lt_of, lt_of, ob2_of (of_ok (w := 4) i8 (by decide) ν), ob_of (set_ok (w := 4) i8 (by decide) _ _), ob2_of (of_ok (w := 3) i8 (by decide) _)]
    have q4 : ν 1 (16 + 40 * i + 4) = μ (24 + 2 * i) 6 := R.q (w := 4) (by decide)
    have R2 := R.pt i8 4 6 rfl (by decide) (by decide) (v := 0) (v2 := 0) rfl (MB_6 R.mb ⟨0, by omega, rfl⟩)
    rw [q4]
    generalize st μ (24 + 2 * i) 6 0 = μ2 at R2 ⊢
    generalize st ν 1 (16 + 40 * i + 4) 0 = ν2 at R2 ⊢
    have q3 : ν2 1 (16 + 40 * i + 3) = μ2 (24 + 2 * i) 5 := R2.q (w := 3) (by decide)
    rw [q3]
    obtain ⟨z, hz⟩ : ∃ z : Int32, z = (if μ2 (24 + 2 * i) 5 < 0 then 0 else μ2 (24 + 2 * i) 5) := ⟨_, rfl⟩
    rw [← hz]
    have R3 := R2.pt i8 3 5 rfl (by decide) (by decide) (v := z) (v2 := z) rfl (MB_free R2.mb (Or.inl rfl))
    have R4 := R3.pt i8 11 13 rfl (by decide) (by decide) (v := 0) (v2 := 0) rfl (MB_free R3.mb (Or.inr ⟨by decide, by decide⟩))
    have hm : (if (0 : Int32) ≤ μ2 (24 + 2 * i) 5 then ob2 (X10_of (nI i) 3 ν2) fun r7 μ7 => X10_moveIn_50 (nI i) (μ (24 + 2 * i) 6) (nI i) 3 r7 μ7 else X10_moveIn_50 (nI i) (μ (24 + 2 * i) 6) (nI i) 3 0 ν2) = X10_moveIn_50 (nI i) (μ (24 + 2 * i) 6) (nI i) 3 z ν2 := by
      have e0 : (0 : Int32).toInt = 0 := rfl
      by_cases h0 : (0 : Int32) ≤ μ2 (24 + 2 * i) 5
      · rw [if_pos h0, ob2_of (of_ok (w := 3) i8 (by decide) _), q3, hz, if_neg (by rw [i_lt, e0]; rw [i_le, e0] at h0; omega)]
      · rw [if_neg h0, hz, if_pos (by rw [i_lt, e0]; rw [i_le, e0] at h0; omega)]
    rw [hm]
    unfold X10_moveIn_50
    rw [ob_of (set_ok (w := 3) i8 (by decide) _ _), ob_of (set_ok (w := 11) i8 (by decide) _ _)]
    exact ⟨_, _, _, rfl, rfl, sim_meter t o hi R4⟩
  · rw [ob2_of e1, ob2_of e2, if_pos rfl, if_pos rfl]
    exact find_ok hS 1 (by decide)
theorem op_press (a0 : Int32) (hS : Sim j μ ν) : ∃ r μ2 ν2, X9_press a0 μ = some (r, μ2) ∧ X10_press a0 ν = some (r, ν2) ∧ Sim (j + 1) μ2 ν2 := by
  obtain ⟨⟨h, nm, ns, nl, nr, nt, tl, t⟩, o⟩ := id hS
  have b := t.1
  unfold X9_press X10_press
  rcases isM t a0 with ⟨i, hi, rfl, e1, e2⟩ | ⟨e1, e2⟩
  · obtain ⟨X, R⟩ := hx_of t o.2.2.2.2 hi
    have i8 := X.2.2.1
    have q0 : ν 1 (16 + 40 * i + 0) = μ (24 + 2 * i) 2 := R.q (w := 0) (by decide)
    have q7 : ν 1 (16 + 40 * i + 7) = μ (24 + 2 * i) 9 := R.q (w := 7) (by decide)
    have q3 : ν 1 (16 + 40 * i + 3) = μ (24 + 2 * i) 5 := R.q (w := 3) (by decide)
    rw [ob2_of e1, ob2_of e2, if_neg (show ¬ (1 : Int32) = 0 by decide), if_neg (show ¬ (1 : Int32) = 0 by decide), gd_pos (m8 hi b.2.1).1, (m8 hi b.2.1).2, ob2_of (of_ok (w := 0) i8 (by decide) ν), q0]
    by_cases h3 : μ (24 + 2 * i) 2 = 3
    · rw [if_pos h3, if_pos h3]
      exact find_ok hS 5 (by decide)
    · rw [if_neg h3, if_neg h3, ob2_of (of_ok (w := 7) i8 (by decide) ν), q7]
      rcases R.mb.2.2.2.2.2.2.1 with h9 | h9
      · rw [if_pos h9, if_neg (show ¬ μ (24 + 2 * i) 9 = 1 by rw [h9]; decide), ob2_of (of_ok (w := 3) i8 (by decide) ν), q3]
        by_cases hz : μ (24 + 2 * i) 5 ≤ 100
        · rw [if_pos hz, if_pos hz, lt_of, ob_of (set_ok (w := 7) i8 (by decide) _ _)]
          have R2 := R.pt i8 7 9 rfl (by decide) (by decide) (v := 1) (v2 := 1) rfl (MB_9 R.mb (Or.inr rfl))
          obtain ⟨μ3, ν3, R3, c1, c2⟩ := connects_ok i8 R2
          rw [ob_of c1, ob_of c2, ob2_of (limit_c _ _), ob2_of (limit_m i8 R3)]
          exact ⟨_, _, _, rfl, rfl, sim_meter t o hi R3⟩
        · rw [if_neg hz, if_neg hz]
          exact find_ok hS 3 (by decide)
      · rw [if_neg (by rw [h9]; decide), if_pos h9]
        exact find_ok hS 3 (by decide)
  · rw [ob2_of e1, ob2_of e2, if_pos rfl, if_pos rfl]
    exact find_ok hS 1 (by decide)
end O1
