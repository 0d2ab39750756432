/-! calls that ask the laws -/
section O2
variable {j : Nat} {μ ν : Mem}
theorem Sim.xs {μ2 ν2 : Mem} (h : Sim j μ ν) (hx : EqX μ μ2) (hs : EqS ν ν2) : Sim (j + 1) μ2 ν2 := h.sc (fun a ha => hx a (by omega)) (hs.1 1 (by decide) (by decide)) ⟨fun a ha => hs.1 a (by omega) (by omega), hs.2⟩
theorem sim_t (hS : Sim j μ ν) : ∃ h nm ns nl nr nt tl, TS 1 μ (ν 1) h nm ns nl nr nt tl := hS.1
theorem HR.kind {c i nl : Nat} {μ0 ν0 : Mem} (R : HR c i nl μ0 ν0 μ ν) (h1 : μ c 2 = 1) : HR c i nl μ0 ν0 (st μ c 2 3) (st ν 1 (16 + 40 * i + 0) 3) := by
  refine ⟨?_, R.2.1.st _ _, R.2.2.st (by omega) _⟩
  obtain ⟨⟨r1, r2, r3, r4, b1, b2, b3, b4, b5, b6, b7, b8⟩, -, -⟩ := R
  have hns : ¬ smart (μ c) := by
    unfold smart
    rw [h1]
    decide
  have r3 := r3.resolve_left hns
  rw [st_same, st_other _ _ _ (by omega : c + 1 ≠ c)]
  refine ⟨by rw [pk_un (by omega)]; exact r1, fun x hx => ?_, Or.inr ?_, fun x hx => ?_, ?_⟩
  · dsimp only
    rw [st_at]
    by_cases hxw : x = 0
    · subst hxw
      rw [if_pos ⟨rfl, rfl⟩, pk_us]
    · rw [if_neg (by omega), pk_un (by omega)]
      exact r2 x hx
  · dsimp only
    rw [st_at, if_neg (by omega), pk_un (by omega)]
    exact r3
  · dsimp only
    rw [st_at, if_neg (by omega)]
    exact r4 x hx
  · unfold MB
    rw [pk_us, pk_un (by omega), pk_un (by omega), pk_un (by omega), pk_un (by omega), pk_un (by omega), pk_un (by omega), pk_un (by omega)]
    exact ⟨⟨3, by omega, rfl⟩, b2, b3, b4, b5, b6, b7, b8⟩
theorem Sim.x0 {μ2 ν2 : Mem} (hS : Sim j μ ν) (k3 : EqX μ μ2) (k4 : EqS ν ν2) : Sim j μ2 ν2 := by
  obtain ⟨⟨hh', nm', ns', nl', nr', nt', tl', t'⟩, f1, ⟨n, v1, v2, v3, v4⟩, s1, ⟨n2, i1, i2, i3, i4, i5, i6⟩, l1⟩ := hS
  have kx : ∀ a, a ≠ 13 → μ2 a = μ a := k3
  have km : ∀ a, a ≠ 0 → a ≠ 5 → ν2 a = ν a := k4.1
  refine ⟨⟨hh', nm', ns', nl', nr', nt', tl', t'.c (fun a q1 q2 q3 => kx a (by omega)) (fun w _ => by rw [km 1 (by decide) (by decide)])⟩, fun k x1 x2 => ?_, ⟨n, v1, ?_, ?_, fun k hk => ?_⟩, fun s hs => ?_, ⟨n2, i1, i2, ?_, ?_, ?_, fun hn => ?_⟩, ?_⟩
  · rw [kx 86 (by decide), km 4 (by decide) (by decide)]; exact f1 k x1 x2
  · rw [kx 83 (by decide)]; exact v2
  · rw [k4.2 14 (by omega)]; exact v3
  · rw [kx 84 (by decide), km 7 (by decide) (by decide)]; exact v4 k hk
  · rw [kx _ (by omega), kx _ (by omega), km 8 (by decide) (by decide), km 9 (by decide) (by decide), km 10 (by decide) (by decide)]; exact s1 s hs
  · rw [kx 0 (by decide)]; exact i3
  · rw [k4.2 3 (by omega)]; exact i4
  · rw [k4.2 2 (by omega)]; exact i5
  · obtain ⟨x1, x2, x3, x4, x5, x6, x7, x8⟩ := i6 hn
    exact ⟨x1, x2, x3, x4, x5, x6, x7, x8.c (fun a q1 q2 q3 => kx a (by omega)) (fun w _ => by rw [km 2 (by decide) (by decide)])⟩
  · rw [km 6 (by decide) (by decide)]; exact l1
theorem op_meterIs (a0 a1 : Int32) (hS : Sim j μ ν) : ∃ r μ2 ν2, X9_meterIs a0 a1 μ = some (r, μ2) ∧ X10_meterIs a0 a1 ν = some (r, ν2) ∧ Sim (j + 1) μ2 ν2 := by
  obtain ⟨⟨h, nm, ns, nl, nr, nt, tl, t⟩, o⟩ := id hS
  have b := t.1
  unfold X9_meterIs X10_meterIs
  rcases isM t a0 with ⟨i, hi, rfl, e1, e2⟩ | ⟨e1, e2⟩
  · obtain ⟨X, R⟩ := hx_of t o.2.2.2.2 hi
    have i8 := X.2.2.1
    have hh : μ 1 8 = nI h := t.2.1.1
    rw [ob2_of e1, ob2_of e2, if_neg (show ¬ (1 : Int32) = 0 by decide), if_neg (show ¬ (1 : Int32) = 0 by decide), ob2_of (in_r (a := 0) (b := 11) (by decide) (by decide) _), gd_pos (m8 hi b.2.1).1, (m8 hi b.2.1).2]
    rcases rg_cases a1 0 11 with ⟨r, hr⟩ | ⟨r, r1, r2⟩
    · have hne : ∀ k : Nat, k ≤ 11 → ¬ a1 = nI k := fun k hk => i_ne (by omega) (by omega)
      rw [r, if_pos (show (0 : Int32) = 0 from rfl), if_neg (show ¬ a1 = 0 from hne 0 (by decide)), if_neg (show ¬ a1 = 1 from hne 1 (by decide)), if_neg (show ¬ a1 = 2 from hne 2 (by decide)), if_neg (show ¬ a1 = 3 from hne 3 (by decide)), if_neg (show ¬ a1 = 4 from hne 4 (by decide)), if_neg (show ¬ a1 = 5 from hne 5 (by decide)), if_neg (show ¬ a1 = 6 from hne 6 (by decide)), if_neg (show ¬ a1 = 7 from hne 7 (by decide)), if_neg (show ¬ a1 = 8 from hne 8 (by decide)), if_neg (show ¬ a1 = 9 from hne 9 (by decide)), if_neg (show ¬ a1 = 10 from hne 10 (by decide)), if_neg (show ¬ a1 = 11 from hne 11 (by decide))]
      exact find_ok hS 1 (by decide)
    · rw [r, if_neg (show ¬ (1 : Int32) = 0 by decide)]
      obtain ⟨q, hq, rfl, -⟩ := to_nat (hi := 11) ⟨r1, r2⟩ (by decide)
      have d : ∀ (q k : Nat), k ≤ 11 → q ≤ 11 → ¬ q = k → ¬ nI q = nI k := fun q k hk hq h => i_ne (by omega) (by rw [i_n _ (by omega)]; omega)
      have qq : ∀ w, w < 12 → ν 1 (16 + 40 * i + w) = μ (24 + 2 * i) (w + 2) := fun w hw => R.q hw
      obtain ⟨lr, hld, c1, c2⟩ := rul_ok (X.lr R) 0 (nI h)
      obtain ⟨r2', hld2, d1, d2⟩ := loaded_ok X R hld c2
      have b8 := R.mb.2.2.2.2.2.1
      have b9 := R.mb.2.2.2.2.2.2.1
      have e8 : (if μ (24 + 2 * i) 8 = 0 then some ((0 : Int32), μ) else some (1, μ)) = some (μ (24 + 2 * i) 8, μ) := by
        rcases b8 with e | e <;> rw [e] <;> rfl
      have e9 : (if μ (24 + 2 * i) 9 = 0 then some ((0 : Int32), μ) else some (1, μ)) = some (μ (24 + 2 * i) 9, μ) := by
        rcases b9 with e | e <;> rw [e] <;> rfl
      rw [ob2_of (of_ok (w := 0) i8 (by decide) ν), ob2_of (of_ok (w := 3) i8 (by decide) ν), ob2_of (of_ok (w := 4) i8 (by decide) ν), ob2_of (of_ok (w := 5) i8 (by decide) ν), ob2_of (of_ok (w := 6) i8 (by decide) ν), ob2_of (of_ok (w := 7) i8 (by decide) ν), ob2_of (of_ok (w := 8) i8 (by decide) ν), ob2_of (of_ok (w := 9) i8 (by decide) ν), ob2_of (of_ok (w := 10) i8 (by decide) ν), ob2_of (of_ok (w := 11) i8 (by decide) ν), hh, ob2_of c1, ob2_of d1, ob2_of d2, ob2_of (limit_c _ _), ob2_of (limit_m i8 R), e8, e9, qq 0 (by decide), qq 3 (by decide), qq 4 (by decide), qq 5 (by decide), qq 6 (by decide), qq 7 (by decide), qq 8 (by decide), qq 9 (by decide), qq 10 (by decide), qq 11 (by decide)]
      rcases (show q = 0 ∨ q = 1 ∨ q = 2 ∨ q = 3 ∨ q = 4 ∨ q = 5 ∨ q = 6 ∨ q = 7 ∨ q = 8 ∨ q = 9 ∨ q = 10 ∨ q = 11 by omega) with rfl | rfl | rfl | rfl | rfl | rfl | rfl | rfl | rfl | rfl | rfl | rfl <;> exact ⟨_, _, _, rfl, rfl, hS.up⟩
  · rw [ob2_of e1, ob2_of e2, if_pos rfl, if_pos rfl]
    exact find_ok hS 1 (by decide)
theorem op_force (a0 : Int32) (hS : Sim j μ ν) : ∃ r μ2 ν2, X9_force a0 μ = some (r, μ2) ∧ X10_force a0 ν = some (r, ν2) ∧ Sim (j + 1) μ2 ν2 := by
  obtain ⟨⟨h, nm, ns, nl, nr, nt, tl, t⟩, o⟩ := id hS
  have b := t.1
  unfold X9_force X10_force
  rcases isM t a0 with ⟨i, hi, rfl, e1, e2⟩ | ⟨e1, e2⟩
  · obtain ⟨X, R⟩ := hx_of t o.2.2.2.2 hi
    have i8 := X.2.2.1
    have hl12 := X.1.1
    have hh : μ 1 8 = nI h := t.2.1.1
    have hh2 : ν 1 0 = nI h := t.2.1.2
    have q0 : ν 1 (16 + 40 * i + 0) = μ (24 + 2 * i) 2 := R.q (w := 0) (by decide)
    have q4 : ν 1 (16 + 40 * i + 4) = μ (24 + 2 * i) 6 := R.q (w := 4) (by decide)
    rw [ob2_of e1, ob2_of e2, if_neg (show ¬ (1 : Int32) = 0 by decide), if_neg (show ¬ (1 : Int32) = 0 by decide), gd_pos (m8 hi b.2.1).1, (m8 hi b.2.1).2, ob2_of (of_ok (w := 0) i8 (by decide) ν), q0, hh]
    by_cases hk : μ (24 + 2 * i) 2 = 1
    · rw [if_pos hk, if_pos hk]
      obtain ⟨lr, hld, c1, c2⟩ := rul_ok (X.lr R) 3 (nI h)
      -- what both say, and where they stand then
      have key : ∃ z μ2 ν2, X1_allowForcing (24 + 2 * i) (nI h) μ = some (z, μ2) ∧ (ob2 (X10_forceIn 3 (ν 1 0) ν) fun r5 μ5 => (if 0 ≤ r5 then ob2 (X10_saysOf r5 (nI i) (μ5 1 0) 0 μ5) fun r7 μ7 => (if r7 = 0 then X10_force_95 (nI i) μ7 else ob2 (X10_of (nI i) 4 μ7) fun r13 μ13 => (if r13 ≤ 0 then X10_force_95 (nI i) μ13 else X10_force_96 (nI i) 1 μ13)) else ob2 (X10_of (nI i) 4 μ5) fun r15 μ15 => (if r15 ≤ 10000 then X10_force_96 (nI i) 0 μ15 else X10_force_96 (nI i) 1 μ15))) = X10_force_96 (nI i) z ν2 ∧ EqX μ μ2 ∧ EqS ν ν2 := by
        rw [hh2, ob2_of c2]
        unfold X1_allowForcing X10_force_95
        rw [ob2_of c1, ob2_of (has_ok X.1.2.1 hl12 hld)]
        by_cases hn : lr = -1
        · rw [if_pos hn, if_pos rfl, if_neg (fun q => absurd hn ((LD_neg hl12 hld).mp q)), ob2_of (of_ok (w := 4) i8 (by decide) ν), q4]
          by_cases hz : μ (24 + 2 * i) 6 ≤ 10000
          · rw [if_pos hz, if_pos hz]
            exact ⟨_, _, _, rfl, rfl, EqX.rf _, EqS.rf _⟩
          · rw [if_neg hz, if_neg hz]
            exact ⟨_, _, _, rfl, rfl, EqX.rf _, EqS.rf _⟩
        · rw [if_neg hn, if_neg (show ¬ (1 : Int32) = 0 by decide), if_pos ((LD_neg hl12 hld).mpr hn)]
          obtain ⟨V, μ2, ν2, a1, -, a3, -, a5, a6⟩ := ask_ok X R hld hn 0 0 (by decide)
          have q42 : ν2 1 (16 + 40 * i + 4) = μ (24 + 2 * i) 6 := by
            rw [a6.1 1 (by decide) (by decide)]
            exact q4
          rw [ob2_of a1, ob2_of a3, ob2_of (of_ok (w := 4) i8 (by decide) ν2), q42]
          by_cases hz : μ (24 + 2 * i) 6 ≤ 0
          · rw [if_pos hz, if_pos hz]
            refine ⟨0, μ, ν2, rfl, ?_, EqX.rf _, a6⟩
            by_cases hV : V = 0
            · rw [if_pos hV]
            · rw [if_neg hV]
          · rw [if_neg hz, if_neg hz]
            by_cases hV : V = 0
            · rw [if_pos hV, if_pos hV]
              exact ⟨_, _, _, rfl, rfl, a5, a6⟩
            · rw [if_neg hV, if_neg hV]
              exact ⟨_, _, _, rfl, rfl, a5, a6⟩
      obtain ⟨z, μ2, ν2, k1, k2, k3, k4⟩ := key
      rw [ob2_of k1, k2]
      unfold X10_force_96
      have R2 := R.xs X.2.2.2.1 k3 k4
      by_cases hz : z = 0
      · rw [if_pos hz, if_pos hz]
        exact find_ok (hS.x0 k3 k4) 3 (by decide)
      · rw [if_neg hz, if_neg hz, lt_of, lt_of, ob_of (set_ok (w := 0) i8 (by decide) _ _), ob_of (set_ok (w := 7) i8 (by decide) _ _)]
        have R3 := R2.kind (by rw [k3 _ (by omega)]; exact hk)
        have R4 := R3.pt i8 7 9 rfl (by decide) (by decide) (v := 0) (v2 := 0) rfl (MB_9 R3.mb (Or.inl rfl))
        exact ⟨_, _, _, rfl, rfl, sim_meter t o hi R4⟩
    · rw [if_neg hk, if_neg hk]
      exact find_ok hS 5 (by decide)
  · rw [ob2_of e1, ob2_of e2, if_pos rfl, if_pos rfl]
    exact find_ok hS 1 (by decide)
theorem isUse_rg (x : Int32) (m : Mem) : X9_isUse x m = some (rg x 0 3, m) := two_rg x 0 4 (by decide) m
theorem isHour_rg (x : Int32) (m : Mem) : X9_isHour x m = some (rg x 0 9000, m) := in_rg x 0 9000 m
theorem isUse_m (x : Int32) (m : Mem) : X10_isUse x m = some (rg x 0 3, m) := by
  unfold X10_isUse
  rw [ob2_of (in_r (a := 0) (b := 3) (by decide) (by decide) _)]
  rcases rg_cases x 0 3 with ⟨r, -⟩ | ⟨r, -⟩
  · rw [gd_pos (Or.inl r)]
  · rw [gd_pos (Or.inr r)]
theorem op_inForce (a0 a1 : Int32) (hS : Sim j μ ν) : ∃ r μ2 ν2, X9_inForce a0 a1 μ = some (r, μ2) ∧ X10_inForce a0 a1 ν = some (r, ν2) ∧ Sim (j + 1) μ2 ν2 := by
  obtain ⟨⟨h, nm, ns, nl, nr, nt, tl, t⟩, o⟩ := id hS
  have b := t.1
  unfold X9_inForce X10_inForce
  rw [ob2_of (isUse_rg _ _), ob2_of (isUse_m _ _)]
  rcases rg_cases a0 0 3 with ⟨r, -⟩ | ⟨r, -, -⟩
  · rw [r, if_pos (show (0 : Int32) = 0 from rfl), if_pos (show (0 : Int32) = 0 from rfl)]
    exact find_ok hS 1 (by decide)
  · rw [r, if_neg (show ¬ (1 : Int32) = 0 by decide), if_neg (show ¬ (1 : Int32) = 0 by decide), ob2_of (isHour_rg _ _), ob2_of (in_r (a := 0) (b := 9000) (by decide) (by decide) _)]
    rcases rg_cases a1 0 9000 with ⟨r, -⟩ | ⟨r, -, -⟩
    · rw [r, if_pos (show (0 : Int32) = 0 from rfl), if_pos (show (0 : Int32) = 0 from rfl)]
      exact find_ok hS 1 (by decide)
    · obtain ⟨lr, hld, c1, c2⟩ := rul_ok t.2.2.2.2.1 a0 a1
      rw [r, if_neg (show ¬ (1 : Int32) = 0 by decide), if_neg (show ¬ (1 : Int32) = 0 by decide), ob2_of c1, ob2_of c2]
      by_cases hz : 0 ≤ lr
      · rw [if_pos hz, if_pos hz]
        exact ⟨_, _, _, rfl, rfl, hS.up⟩
      · rw [if_neg hz, if_neg hz]
        exact find_ok hS 2 (by decide)
theorem op_says (a0 a1 a2 : Int32) (hS : Sim j μ ν) : ∃ r μ2 ν2, X9_says a0 a1 a2 μ = some (r, μ2) ∧ X10_says a0 a1 a2 ν = some (r, ν2) ∧ Sim (j + 1) μ2 ν2 := by
  obtain ⟨⟨h, nm, ns, nl, nr, nt, tl, t⟩, o⟩ := id hS
  have b := t.1
  have hL := t.2.2.2.2.1
  have h12 := hL.1
  have l5 : μ 8 5 = nI nl := hL.2.1
  have l3 : ν 1 3 = nI nl := hL.2.2.1
  unfold X9_says X10_says
  have e3 : (nI nl - 1).toInt = (nl : Int) - 1 := by
    rw [i_sub (by rw [i_n _ (by omega)]; show _ ≤ (nl : Int) - 1; omega) (by rw [i_n _ (by omega)]; show (nl : Int) - 1 < _; omega), i_n _ (by omega)]
    rfl
  have c1 : X1_has a0 μ = some (rg a0 0 ((nl : Int) - 1), μ) := by
    unfold X1_has
    rw [l5]
    exact two_rg a0 0 (nI nl) (by rw [i_n _ (by omega)]; omega) μ
  rw [l3, ob2_of c1, ob2_of (in_r (a := 0) (b := (nl : Int) - 1) (by decide) e3 _)]
  rcases rg_cases a0 0 ((nl : Int) - 1) with ⟨r, -⟩ | ⟨r, r1, r2⟩
  · rw [r, if_pos (show (0 : Int32) = 0 from rfl), if_pos (show (0 : Int32) = 0 from rfl)]
    exact find_ok hS 1 (by decide)
  · rw [r, if_neg (show ¬ (1 : Int32) = 0 by decide), if_neg (show ¬ (1 : Int32) = 0 by decide)]
    obtain ⟨l, hl, rfl⟩ : ∃ l, l < nl ∧ a0 = nI l := ⟨a0.toInt.toNat, by omega, i_eq.mpr (by rw [i_n _ (by omega)]; omega)⟩
    rcases isM t a1 with ⟨i, hi, rfl, e1, e2⟩ | ⟨e1, e2⟩
    · obtain ⟨X, R⟩ := hx_of t o.2.2.2.2 hi
      have hh : μ 1 8 = nI h := t.2.1.1
      have hh2 : ν 1 0 = nI h := t.2.1.2
      rw [ob2_of e1, ob2_of e2, if_neg (show ¬ (1 : Int32) = 0 by decide), if_neg (show ¬ (1 : Int32) = 0 by decide), gd_pos (m8 hi b.2.1).1, (m8 hi b.2.1).2, hh, hh2]
      obtain ⟨V, μ2, ν2, a1, a2, a3, a4⟩ := says_ok (hr := nI h) (n := a2) hL o.2.2.2.2 X.2.2.1 (show 24 + 2 * i ≠ 13 by omega) (fun w hw => R.q hw) hl
      rw [ob2_of a1, ob2_of a3]
      exact ⟨_, _, _, rfl, rfl, hS.xs a2 a4⟩
    · rw [ob2_of e1, ob2_of e2, if_pos (show (0 : Int32) = 0 from rfl), if_pos (show (0 : Int32) = 0 from rfl)]
      exact find_ok hS 1 (by decide)
theorem op_rate (a0 a1 : Int32) (hS : Sim j μ ν) : ∃ r μ2 ν2, X9_rate a0 a1 μ = some (r, μ2) ∧ X10_rate a0 a1 ν = some (r, ν2) ∧ Sim (j + 1) μ2 ν2 := by
  obtain ⟨⟨h, nm, ns, nl, nr, nt, tl, t⟩, o⟩ := id hS
  have b := t.1
  unfold X9_rate X10_rate
  rcases isM t a0 with ⟨i, hi, rfl, e1, e2⟩ | ⟨e1, e2⟩
  · obtain ⟨X, R⟩ := hx_of t o.2.2.2.2 hi
    have i8 := X.2.2.1
    have hh : μ 1 8 = nI h := t.2.1.1
    have hh2 : ν 1 0 = nI h := t.2.1.2
    obtain ⟨lr, hld, c1, c2⟩ := rul_ok (X.lr R) 0 (nI h)
    obtain ⟨r2', hld2, d1, d2⟩ := loaded_ok X R hld c2
    rw [ob2_of e1, ob2_of e2, if_neg (show ¬ (1 : Int32) = 0 by decide), if_neg (show ¬ (1 : Int32) = 0 by decide), ob2_of (in_r (a := 0) (b := 2) (by decide) (by decide) _), gd_pos (m8 hi b.2.1).1, (m8 hi b.2.1).2, hh, hh2, ob2_of c1, ob2_of c2, ob2_of d1, ob2_of d2, hh]
    rcases rg_cases a1 0 2 with ⟨r, hr⟩ | ⟨r, r1, r2⟩
    · have hne : ∀ k : Nat, k ≤ 2 → ¬ a1 = nI k := fun k hk => i_ne (by omega) (by omega)
      rw [r, if_pos (show (0 : Int32) = 0 from rfl), if_neg (show ¬ a1 = 0 from hne 0 (by decide)), if_neg (show ¬ a1 = 1 from hne 1 (by decide)), if_neg (show ¬ a1 = 2 from hne 2 (by decide))]
      exact find_ok hS 1 (by decide)
    · rw [r, if_neg (show ¬ (1 : Int32) = 0 by decide)]
      obtain ⟨q, hq, rfl, -⟩ := to_nat (hi := 2) ⟨r1, r2⟩ (by decide)
      rcases (show q = 0 ∨ q = 1 ∨ q = 2 by omega) with rfl | rfl | rfl
      · obtain ⟨p, μ2, ν2, p1, p2, p3, p4⟩ := price_ok X R hld
        rw [if_pos (show nI 0 = 0 from rfl), if_pos (show nI 0 = 0 from rfl), ob2_of p1, ob2_of p2]
        exact ⟨_, _, _, rfl, rfl, hS.xs p3 p4⟩
      · obtain ⟨p, μ2, ν2, p1, p2, p3, p4⟩ := price_ok X R hld2
        rw [if_neg (show ¬ nI 1 = 0 by decide), if_neg (show ¬ nI 1 = 0 by decide), if_pos (show nI 1 = 1 from rfl), if_pos (show nI 1 = 1 from rfl), ob2_of p1, ob2_of p2]
        exact ⟨_, _, _, rfl, rfl, hS.xs p3 p4⟩
      · obtain ⟨p, μ2, ν2, p1, p2, p3, p4⟩ := standing_ok X R
        rw [if_neg (show ¬ nI 2 = 0 by decide), if_neg (show ¬ nI 2 = 0 by decide), if_neg (show ¬ nI 2 = 1 by decide), if_neg (show ¬ nI 2 = 1 by decide), if_pos (show nI 2 = 2 from rfl), ob2_of p1, ob2_of p2]
        exact ⟨_, _, _, rfl, rfl, hS.xs p3 p4⟩
  · rw [ob2_of e1, ob2_of e2, if_pos rfl, if_pos rfl]
    exact find_ok hS 1 (by decide)
end O2
