/-! hold, greatest -/
/-- only what doesn't count has changed -/
def SC (μ μ2 ν ν2 : Mem) : Prop := (∀ a, a ≠ 13 → a ≠ 79 → a ≠ 80 → μ2 a = μ a) ∧ (∀ a, a ≠ 0 → a ≠ 1 → a ≠ 3 → a ≠ 5 → ν2 a = ν a) ∧ (∀ j, (j < 6 ∨ 10 < j) → ν2 0 j = ν 0 j) ∧ ∀ w, w < 1944 → ν2 1 w = ν 1 w
section OH
variable {j : Nat} {μ ν : Mem}
theorem Sim.sc0 {μ2 ν2 : Mem} (hS : Sim j μ ν) (k : SC μ μ2 ν ν2) : Sim j μ2 ν2 := by
  obtain ⟨kx, km, k0, k1⟩ := k
  obtain ⟨⟨hh', nm', ns', nl', nr', nt', tl', t'⟩, f1, ⟨n, v1, v2, v3, v4⟩, s1, ⟨n2, i1, i2, i3, i4, i5, i6⟩, l1⟩ := hS
  refine ⟨⟨hh', nm', ns', nl', nr', nt', tl', t'.c (fun a q1 q2 q3 => kx a (by omega) (by omega) (by omega)) (fun w hw => k1 w hw)⟩, fun k x1 x2 => ?_, ⟨n, v1, ?_, ?_, fun k hk => ?_⟩, fun s hs => ?_, ⟨n2, i1, i2, ?_, ?_, ?_, fun hn => ?_⟩, ?_⟩
  · rw [kx 86 (by decide) (by decide) (by decide), km 4 (by decide) (by decide) (by decide) (by decide)]; exact f1 k x1 x2
  · rw [kx 83 (by decide) (by decide) (by decide)]; exact v2
  · rw [k0 14 (by omega)]; exact v3
  · rw [kx 84 (by decide) (by decide) (by decide), km 7 (by decide) (by decide) (by decide) (by decide)]; exact v4 k hk
  · rw [kx _ (by omega) (by omega) (by omega), kx _ (by omega) (by omega) (by omega), km 8 (by decide) (by decide) (by decide) (by decide), km 9 (by decide) (by decide) (by decide) (by decide), km 10 (by decide) (by decide) (by decide) (by decide)]; exact s1 s hs
  · rw [kx 0 (by decide) (by decide) (by decide)]; exact i3
  · rw [k0 3 (by omega)]; exact i4
  · rw [k0 2 (by omega)]; exact i5
  · obtain ⟨x1, x2, x3, x4, x5, x6, x7, x8⟩ := i6 hn
    exact ⟨x1, x2, x3, x4, x5, x6, x7, x8.c (fun a q1 q2 q3 => kx a (by omega) (by omega) (by omega)) (fun w _ => by rw [km 2 (by decide) (by decide) (by decide) (by decide)])⟩
  · rw [km 6 (by decide) (by decide) (by decide) (by decide)]; exact l1
theorem holding {h nm ns nl nr nt tl : Nat} (t : TS 1 μ (ν 1) h nm ns nl nr nt tl) (x1 x2 x3 : Int32) : (∃ i s D, i < nm ∧ x1 = nI i ∧ s < 4 ∧ x2 = nI s ∧ D ≤ 7 ∧ x3 = nI D ∧ h + 24 * D ≤ 9000 ∧ X9_isHolding x1 x2 x3 μ = some (1, μ) ∧ ∀ x4, X10_isHolding x1 x2 x3 x4 ν = some (rg x4 0 200, ν)) ∨ (X9_isHolding x1 x2 x3 μ = some (0, μ) ∧ ∀ x4, X10_isHolding x1 x2 x3 x4 ν = some (0, ν)) := by
  have b := t.1
  have hh : μ 1 8 = nI h := t.2.1.1
  have hh2 : ν 1 0 = nI h := t.2.1.2
  unfold X9_isHolding X10_isHolding
  rcases isM t x1 with ⟨i, hi, rfl, e1, e2⟩ | ⟨e1, e2⟩
  · rw [ob2_of e1, if_neg (show ¬ (1 : Int32) = 0 by decide), ob2_of (isSheet_rg _ _)]
    rcases rg_cases x2 0 3 with ⟨r, -⟩ | ⟨r, r1, r2⟩
    · refine Or.inr ⟨by rw [r, if_pos rfl], fun x4 => ?_⟩
      rw [ob2_of e2, if_neg (show ¬ (1 : Int32) = 0 by decide), ob2_of (in_r (a := 0) (b := 3) (by decide) (by decide) _), r, if_pos rfl]
    · obtain ⟨s, hs, rfl, -⟩ := to_nat (x := x2) (hi := 3) ⟨r1, r2⟩ (by decide)
      have m3 : ∀ x4, (ob2 (X10_isMeter (nI i) ν) fun r1 μ1 => (if r1 = 0 then some (0, μ1) else ob2 (X10_in (nI s) 0 3 μ1) fun r3 μ3 => (if r3 = 0 then some (0, μ3) else ob2 (X10_in x3 1 7 μ3) fun r5 μ5 => (if r5 = 0 then some (0, μ5) else ob2 (X10_in x4 0 200 μ5) fun r7 μ7 => (if r7 = 0 then some (0, μ7) else (if 9000 < ((μ7 1 0) + (24 * x3)) then some (0, μ7) else some (1, μ7))))))) = (if rg x3 1 7 = 0 then some ((0 : Int32), ν) else (if rg x4 0 200 = 0 then some (0, ν) else (if 9000 < (nI h + (24 * x3)) then some (0, ν) else some (1, ν)))) := fun x4 => by
        rw [ob2_of e2, if_neg (show ¬ (1 : Int32) = 0 by decide), ob2_of (in_r (a := 0) (b := 3) (by decide) (by decide) _), r, if_neg (show ¬ (1 : Int32) = 0 by decide), ob2_of (in_r (a := 1) (b := 7) (by decide) (by decide) _), ob2_of (in_r (a := 0) (b := 200) (by decide) (by decide) _), hh2]
      have c3 : (if x3 < 1 then some ((0 : Int32), μ) else (if 7 < x3 then some (0, μ) else (if 9000 < ((μ 1 8) + (24 * x3)) then some (0, μ) else some (1, μ)))) = (if rg x3 1 7 = 0 then some (0, μ) else (if 9000 < (nI h + (24 * x3)) then some (0, μ) else some (1, μ))) := by
        have e1 : (1 : Int32).toInt = 1 := rfl
        have e7 : (7 : Int32).toInt = 7 := rfl
        rw [hh]
        rcases rg_cases x3 1 7 with ⟨r, r1⟩ | ⟨r, r1, r2⟩
        · rw [r, if_pos (show (0 : Int32) = 0 from rfl)]
          by_cases q1 : x3 < 1
          · rw [if_pos q1]
          · rw [if_neg q1, if_pos (by rw [i_lt, e1] at q1; rw [i_lt, e7]; omega)]
        · rw [r, if_neg (show ¬ (1 : Int32) = 0 by decide), if_neg (by rw [i_lt, e1]; omega), if_neg (by rw [i_lt, e7]; omega)]
      simp only [m3]
      rw [r, if_neg (show ¬ (1 : Int32) = 0 by decide), c3]
      rcases rg_cases x3 1 7 with ⟨r, -⟩ | ⟨r, r1, r2⟩
      · exact Or.inr ⟨by rw [r, if_pos rfl], fun x4 => by rw [r, if_pos rfl]⟩
      · obtain ⟨D, hD, rfl, -⟩ := to_nat (x := x3) (hi := 7) ⟨by omega, r2⟩ (by decide)
        have e24 : nI h + 24 * nI D = nI (h + 24 * D) := by rw [show (24 : Int32) = nI 24 from rfl, pk_mul, nI_add]
        rw [r, if_neg (show ¬ (1 : Int32) = 0 by decide), e24]
        simp only [if_neg (show ¬ (1 : Int32) = 0 by decide)]
        by_cases h9 : h + 24 * D ≤ 9000
        · have n9 : ¬ (9000 : Int32) < nI (h + 24 * D) := nI_nlt (a := 9000) h9 (by decide)
          refine Or.inl ⟨i, s, D, hi, rfl, by omega, rfl, hD, rfl, h9, by rw [if_neg n9], fun x4 => ?_⟩
          rcases rg_cases x4 0 200 with ⟨r, -⟩ | ⟨r, -⟩
          · rw [r, if_pos rfl]
          · rw [r, if_neg (show ¬ (1 : Int32) = 0 by decide), if_neg n9]
        · have n9 : (9000 : Int32) < nI (h + 24 * D) := nI_lt (a := 9000) (by omega) (by omega)
          refine Or.inr ⟨by rw [if_pos n9], fun x4 => ?_⟩
          rcases rg_cases x4 0 200 with ⟨r, -⟩ | ⟨r, -⟩
          · rw [r, if_pos rfl]
          · rw [r, if_neg (show ¬ (1 : Int32) = 0 by decide), if_pos n9]
  · exact Or.inr ⟨by rw [ob2_of e1, if_pos rfl], fun x4 => by rw [ob2_of e2, if_pos rfl]⟩
/-- one trial with the part p: to its end on both sides, and the class's that stops at the first dark hour -/
theorem hold_do {h nm ns nl nr nt tl i s D p n : Nat} (t : TS 1 μ (ν 1) h nm ns nl nr nt tl) (hF : ν 6 = letF) (hi : i < nm) (hs : s < 4) (hD : D ≤ 7) (h9 : h + 24 * D ≤ 9000) (hp : p ≤ 200) (hn : n ≤ 24) (s2 : μ (88 + 2 * s) 2 = nI n) (s9 : ν 9 s = nI n) (sg : ∀ k, k < n → μ (88 + 2 * s + 1) k = ν 10 (24 * s + k)) : ∃ E, E ≤ 24 * D ∧ ∃ ν2, X10_holds (nI i) (nI s) (nI D) (nI p) ν = some (nI E, ν2) ∧ (∃ μ2, X9_darkMore (24 + 2 * i) (88 + 2 * s) (nI D) (nI p) 9000 μ = some (nI E, μ2) ∧ SC μ μ2 ν ν2) ∧ (∃ r μ2, X9_darkMore (24 + 2 * i) (88 + 2 * s) (nI D) (nI p) 1 μ = some (r, μ2) ∧ (r = 0 ↔ E = 0) ∧ SC μ μ2 ν ν2) ∧ SC μ μ ν ν2 := by
  have hFU := FU_ge
  have b := t.1
  have hL := t.2.2.2.2.1
  have h8 : μ 1 8 = nI h := t.2.1.1
  have h0 : ν 1 0 = nI h := t.2.1.2
  have M := t.2.2.2.2.2.2.2.2.2.1 i hi
  rw [show 1 + 23 + 2 * i = 24 + 2 * i by omega] at M
  obtain ⟨μ1, c1, c2, c3, c4⟩ := cp2 (μ := μ) (a0 := 79) (a1 := 24 + 2 * i) (by omega) M.2.2.2.2.2.2.2.2.2.1 M.2.2.2.2.2.2.2.2.2.2.1
  obtain ⟨ν1, d1, d2, d3⟩ := keeps_ok (b := 3) (by decide) ν
  have M1 : MR i nl (μ1 79) (μ1 (79 + 1)) (fun w => ν1 1 (16 + 40 * i + w)) := M.pw c3 c4 (fun w _ => by rw [d2 1 (by decide)])
  have R1 : HR 79 i nl μ1 ν1 μ1 ν1 := ⟨M1, EqC.rf _ _, EqD.rf _ _⟩
  have R2 := R1.pt (by omega) 5 7 rfl (by decide) (by decide) (v := nI p) (v2 := nI p) rfl (MB_7 R1.mb ⟨p, hp, rfl⟩)
  have q10 : ν1 1 (16 + 40 * i + 10) = μ (24 + 2 * i) 12 := (R1.q (w := 10) (by decide)).trans (c3 12 (by omega) (by omega))
  have H0 : HI i nl h μ ν1 0 (st μ1 79 7 (nI p)) (st ν1 1 (16 + 40 * i + 5) (nI p)) := by
    refine ⟨fun a q1 q2 q3 => ?_, R2.1, fun a q1 q2 q3 => ?_, fun k hk => ?_, fun w q1 q2 => ?_, ?_⟩
    · rw [st_other _ _ _ q2]; exact c2 a (by omega)
    · rw [st_other _ _ _ q2]
    · rw [st_other _ _ _ (by decide)]
    · rw [st_ne (by omega)]
    · rw [st_ne (by omega), d2 1 (by decide)]; exact h0
  have L1 : LR μ 1 (ν1 1) nl := hL.c (fun _ _ _ => rfl) (fun w _ => by rw [d2 1 (by decide)])
  have dk : st μ1 79 7 (nI p) 79 12 = μ (24 + 2 * i) 12 + nI 0 := by
    rw [st_ne (by omega), c3 12 (by omega) (by omega)]
    exact (Int32.add_zero _).symm
  obtain ⟨E, -, E2, ⟨μ2, x1, x2⟩, ⟨ν2, y1, y2, y3, y4⟩, z1⟩ := run (G := fun k => ν 10 (24 * s + k)) L1 (by rw [d2 6 (by decide)]; exact hF) (show i < 8 by omega) hs hn hD h9 h8 s2 sg (by rw [d2 9 (by decide)]; exact s9) (fun k hk => by rw [d2 10 (by decide)]) (a1 := 24 + 2 * i) ⟨by omega, by omega, by omega⟩ 300 0 FU FU FU 0 _ _ (by omega) (by omega) (by omega) (by omega) (by omega) H0 dk (by omega)
  obtain ⟨r, μ3, w1, w2, w3⟩ := z1 rfl
  have sm : (∀ a, a ≠ 0 → a ≠ 1 → a ≠ 3 → a ≠ 5 → ν2 a = ν a) ∧ (∀ j, (j < 6 ∨ 10 < j) → ν2 0 j = ν 0 j) ∧ ∀ w, w < 1944 → ν2 1 w = ν 1 w := ⟨fun a q1 q2 q3 q4 => (y2 a q1 q2 q4).trans (d2 a q3), fun j hj => by rw [y3 j hj, d2 0 (by decide)], fun w hw => (y4 w hw).trans (d3 w hw)⟩
  refine ⟨E, E2, ν2, ?_, ⟨μ2, ?_, x2, sm⟩, ⟨r, μ3, ?_, w3, w2, sm⟩, ⟨fun _ _ _ _ => rfl, sm⟩⟩
  · unfold X10_holds
    rw [ob_of d1, ob2_of (of_ok (w := 10) (by omega) (by decide) _), ob_of (set_ok (w := 5) (by omega) (by decide) _ _), q10]
    exact y1
  · unfold X9_darkMore
    rw [ob_of c1, lt_of]
    exact x1
  · unfold X9_darkMore
    rw [ob_of c1, lt_of]
    exact w1
theorem op_hold (a0 a1 a2 a3 : Int32) (hS : Sim j μ ν) : ∃ r μ2 ν2, X9_hold a0 a1 a2 a3 μ = some (r, μ2) ∧ X10_hold a0 a1 a2 a3 ν = some (r, ν2) ∧ Sim (j + 1) μ2 ν2 := by
  obtain ⟨⟨h, nm, ns, nl, nr, nt, tl, t⟩, o⟩ := id hS
  have b := t.1
  unfold X9_hold X10_hold
  rcases holding t a0 a1 a2 with ⟨i, s, D, hi, rfl, hs, rfl, hD, rfl, h9, e1, e2⟩ | ⟨e1, e2⟩
  · have hin : inB (nI s) 4 := i_in (by omega) (by omega)
    have hin8 : inB (nI i) 8 := i_in (by omega) (by omega)
    rw [ob2_of e1, ob2_of (e2 a3), if_neg (show ¬ (1 : Int32) = 0 by decide), ob2_of (isPart_rg _ _)]
    rcases rg_cases a3 0 200 with ⟨r, -⟩ | ⟨r, r1, r2⟩
    · rw [r, if_pos (show (0 : Int32) = 0 from rfl), if_pos (show (0 : Int32) = 0 from rfl)]
      exact find_ok hS 1 (by decide)
    · obtain ⟨p, hp, rfl, -⟩ := to_nat (x := a3) (hi := 200) ⟨r1, r2⟩ (by decide)
      obtain ⟨s1, s2, s3⟩ := hS.2.2.2.1 s hs
      rw [r, if_neg (show ¬ (1 : Int32) = 0 by decide), if_neg (show ¬ (1 : Int32) = 0 by decide)]
      simp only [gd_pos hin, gd_pos hin8, i_tn (show s < 2 ^ 31 by omega), i_tn (show i < 2 ^ 31 by omega)]
      rw [ob2_of (missing_c _), s1]
      by_cases h0 : ν 8 s = 0
      · rw [if_pos h0, if_pos h0, if_neg (show ¬ (1 : Int32) = 0 by decide)]
        exact find_ok hS 2 (by decide)
      · obtain ⟨n, n1, n2, n3, n4⟩ := s3 h0
        obtain ⟨E, -, ν2, y1, ⟨μ2, x1, x2⟩, -, -⟩ := hold_do t o.2.2.2.2 hi hs hD h9 hp n1 n2 n3 n4
        rw [if_neg h0, if_neg h0, if_pos (show (0 : Int32) = 0 from rfl), ob2_of x1, ob2_of y1]
        exact ⟨_, _, _, rfl, rfl, (hS.sc0 x2).up⟩
  · rw [ob2_of e1, ob2_of (e2 a3), if_pos rfl, if_pos rfl]
    exact find_ok hS 1 (by decide)
/-- all trials of parts that the debt doesn't reach come to the same -/
theorem hold_same {h nm ns nl nr nt tl i s D n : Nat} (t : TS 1 μ (ν 1) h nm ns nl nr nt tl) (hi : i < nm) (hs : s < 4) (hD : D ≤ 7) (h9 : h + 24 * D ≤ 9000) (hn : n ≤ 24) (s2 : μ (88 + 2 * s) 2 = nI n) (hdb : (μ (24 + 2 * i) 6).toInt ≤ 200) : ∃ E, E ≤ 24 * D ∧ ∀ μ', (∀ a, a ≠ 13 → a ≠ 79 → a ≠ 80 → μ' a = μ a) → ∀ p : Nat, p ≤ 200 → (μ (24 + 2 * i) 6).toInt ≤ (p : Int) → ∃ μ2, X9_darkMore (24 + 2 * i) (88 + 2 * s) (nI D) (nI p) 9000 μ' = some (nI E, μ2) := by
  have hFU := FU_ge
  have b := t.1
  have hL := t.2.2.2.2.1
  have hl := hL.1
  have h8 : μ 1 8 = nI h := t.2.1.1
  have M := t.2.2.2.2.2.2.2.2.2.1 i hi
  rw [show 1 + 23 + 2 * i = 24 + 2 * i by omega] at M
  have copy : ∀ μ', (∀ a, a ≠ 13 → a ≠ 79 → a ≠ 80 → μ' a = μ a) → ∃ μ1, X2_copyFrom 79 (24 + 2 * i) μ' = some μ1 ∧ (∀ a, a ≠ 13 → a ≠ 79 → a ≠ 80 → μ1 a = μ a) ∧ (∀ k, 1 ≤ k → k < 15 → μ1 79 k = μ (24 + 2 * i) k) ∧ ∀ k, k < 24 → μ1 80 k = μ (24 + 2 * i + 1) k := by
    intro μ' hμ
    have e1 : μ' (24 + 2 * i) = μ (24 + 2 * i) := hμ _ (by omega) (by omega) (by omega)
    have e2 : μ' (24 + 2 * i + 1) = μ (24 + 2 * i + 1) := hμ _ (by omega) (by omega) (by omega)
    obtain ⟨μ1, c1, c2, c3, c4⟩ := cp2 (μ := μ') (a0 := 79) (a1 := 24 + 2 * i) (by omega) (by rw [e1]; exact M.2.2.2.2.2.2.2.2.2.1) (by rw [e1]; exact M.2.2.2.2.2.2.2.2.2.2.1)
    refine ⟨μ1, c1, fun a q1 q2 q3 => (c2 a (by omega)).trans (hμ a q1 q2 q3), fun k k1 k2 => by rw [c3 k k1 k2, e1], fun k hk => ?_⟩
    have := c4 k hk
    rw [e2] at this
    exact this
  obtain ⟨μ1, c1, c2, c3, c4⟩ := copy μ (fun _ _ _ _ => rfl)
  obtain ⟨-, -, -, ⟨o, ho, d6⟩, -, -, -, dL⟩ := M.2.2.2.2
  have hDB : DB nl 79 (st μ1 79 7 (nI 200)) := ⟨o, 200, ho, by omega, by rw [st_ne (by omega), c3 6 (by omega) (by omega)]; exact d6, st_eq, by rw [st_ne (by omega), c3 14 (by omega) (by omega)]; exact dL⟩
  have fr : ∀ a, a ≠ 13 → a ≠ 79 → a ≠ 80 → st μ1 79 7 (nI 200) a = μ a := fun a q1 q2 q3 => (st_other _ _ _ q2).trans (c2 a q1 q2 q3)
  obtain ⟨E, E1, E2⟩ := run_all (h := h) (s := s) (n := n) (D := D) (G := fun k => μ (88 + 2 * s + 1) k) (d := ν 1) (nl := nl) hn hD h9 hs (a1 := 24 + 2 * i) ⟨by omega, by omega, by omega⟩ 300 0 FU 0 (st μ1 79 7 (nI 200)) (by omega) (by omega) (by omega) (hL.c (fun a q1 q2 => fr a (by omega) (by omega) (by omega)) (fun _ _ => rfl)) hDB (by rw [fr 1 (by decide) (by decide) (by decide)]; exact h8) (by rw [fr _ (by omega) (by omega) (by omega)]; exact s2) (fun k hk => by rw [fr _ (by omega) (by omega) (by omega)]) (by rw [st_ne (by omega), c3 12 (by omega) (by omega), fr _ (by omega) (by omega) (by omega)]; exact (Int32.add_zero _).symm) (by omega)
  refine ⟨E, E1, fun μ' hμ p hp hpo => ?_⟩
  obtain ⟨μ3, g1, g2, g3, g4⟩ := copy μ' hμ
  have P : PR 79 (st μ1 79 7 (nI 200)) (st μ3 79 7 (nI p)) := by
    refine ⟨⟨fun a q1 q2 q3 => ?_, fun j q1 q2 q3 => ?_, fun w hw => ?_⟩, Or.inr ⟨?_, ?_⟩⟩
    · rw [st_other _ _ _ q2, st_other _ _ _ q2, g2 a q1 q2 (by omega), c2 a q1 q2 (by omega)]
    · rw [st_ne (by omega), st_ne (by omega), g3 j q1 q2, c3 j q1 q2]
    · rw [st_other _ _ _ (by decide), st_other _ _ _ (by decide)]
      exact (g4 w hw).trans (c4 w hw).symm
    · rw [st_eq, st_ne (by omega), c3 6 (by omega) (by omega), i_n _ (by decide)]
      exact hdb
    · rw [st_eq, st_ne (by omega), c3 6 (by omega) (by omega), i_n _ (by omega)]
      exact hpo
  obtain ⟨μ4, w⟩ := E2 _ P
  refine ⟨μ4, ?_⟩
  unfold X9_darkMore
  rw [ob_of g1, lt_of]
  exact w
theorem great_loop {h nm ns nl nr nt tl i s D n : Nat} {μ0 ν0 : Mem} (t0 : TS 1 μ0 (ν0 1) h nm ns nl nr nt tl) (hi : i < nm) (hs : s < 4) (hD : D ≤ 7) (h9 : h + 24 * D ≤ 9000) (hn : n ≤ 24) (s2 : μ0 (88 + 2 * s) 2 = nI n) (s9 : ν0 9 s = nI n) (sg : ∀ k, k < n → μ0 (88 + 2 * s + 1) k = ν0 10 (24 * s + k)) (hF : ν0 6 = letF) (hS0 : Sim j μ0 ν0) : ∀ (v f f2 : Nat) (μ ν : Mem), v ≤ 201 → v < f → v < f2 → SC μ0 μ ν0 ν → (v ≤ 200 → (μ0 (24 + 2 * i) 6).toInt ≤ 200 → ∃ E, E ≠ 0 ∧ E ≤ 24 * D ∧ ∀ μ', (∀ a, a ≠ 13 → a ≠ 79 → a ≠ 80 → μ' a = μ0 a) → ∀ p : Nat, p ≤ 200 → (μ0 (24 + 2 * i) 6).toInt ≤ (p : Int) → ∃ μ2, X9_darkMore (24 + 2 * i) (88 + 2 * s) (nI D) (nI p) 9000 μ' = some (nI E, μ2)) → ∃ r μ2 ν2, X9_greatest_50 f (nI s) (nI D) (24 + 2 * i) (nI v - 1) μ = some (r, μ2) ∧ X10_greatest_37 f2 (nI i) (nI s) (nI D) (nI v - 1) ν = some (r, ν2) ∧ Sim (j + 1) μ2 ν2 := by
  intro v
  induction v with
  | zero =>
    intro f f2 μ ν _ hf hf2 sc _
    obtain ⟨f, rfl⟩ : ∃ f1, f = f1 + 1 := ⟨f - 1, by omega⟩
    obtain ⟨f2, rfl⟩ : ∃ f1, f2 = f1 + 1 := ⟨f2 - 1, by omega⟩
    rw [X9_greatest_50.eq_2, X10_greatest_37.eq_2, if_pos (show nI 0 - 1 < 0 by decide), if_pos (show nI 0 - 1 < 0 by decide)]
    exact find_ok (hS0.sc0 sc) 3 (by decide)
  | succ v ih =>
    intro f f2 μ ν hv hf hf2 sc hE
    obtain ⟨f, rfl⟩ : ∃ f1, f = f1 + 1 := ⟨f - 1, by omega⟩
    obtain ⟨f2, rfl⟩ : ∃ f1, f2 = f1 + 1 := ⟨f2 - 1, by omega⟩
    have hr : nI v + -1 = nI v - 1 := (Int32.sub_eq_add_neg _ _).symm
    have M := t0.2.2.2.2.2.2.2.2.2.1 i hi
    rw [show 1 + 23 + 2 * i = 24 + 2 * i by omega] at M
    have b := t0.1
    obtain ⟨-, -, -, ⟨o, ho, d6⟩, -, -, -, -⟩ := M.2.2.2.2
    have eo : (μ0 (24 + 2 * i) 6).toInt = (o : Int) := by rw [d6, i_n _ (by omega)]
    have e6 : μ (24 + 2 * i) 6 = nI o := by rw [sc.1 _ (by omega) (by omega) (by omega)]; exact d6
    have hin : inB (nI s) 4 := i_in (by omega) (by omega)
    -- where they stand now
    have t : TS 1 μ (ν 1) h nm ns nl nr nt tl := t0.c (fun a q1 q2 q3 => sc.1 a (by omega) (by omega) (by omega)) (fun w hw => sc.2.2.2 w hw)
    obtain ⟨E, E1, ν2, y1, ⟨μa, x1, x2⟩, ⟨r, μb, w1, w2, w3⟩, w4⟩ := hold_do (p := v) t (by rw [sc.2.1 6 (by decide) (by decide) (by decide) (by decide)]; exact hF) hi hs hD h9 (by omega) hn (by rw [sc.1 _ (by omega) (by omega) (by omega)]; exact s2) (by rw [sc.2.1 9 (by decide) (by decide) (by decide) (by decide)]; exact s9) (fun k hk => by rw [sc.1 _ (by omega) (by omega) (by omega), sc.2.1 10 (by decide) (by decide) (by decide) (by decide)]; exact sg k hk)
    have tr : ∀ {μ2 ν2 : Mem}, SC μ μ2 ν ν2 → SC μ0 μ2 ν0 ν2 := fun k => ⟨fun a q1 q2 q3 => (k.1 a q1 q2 q3).trans (sc.1 a q1 q2 q3), fun a q1 q2 q3 q4 => (k.2.1 a q1 q2 q3 q4).trans (sc.2.1 a q1 q2 q3 q4), fun j hj => (k.2.2.1 j hj).trans (sc.2.2.1 j hj), fun w hw => (k.2.2.2 w hw).trans (sc.2.2.2 w hw)⟩
    rw [X9_greatest_50.eq_2, X10_greatest_37.eq_2, nI_pred, if_neg (nI_pos (show v < 2 ^ 31 by omega)), if_neg (nI_pos (show v < 2 ^ 31 by omega)), ob2_of y1, e6]
    unfold X9_greatest_77 X9_greatest_78 X9_greatest_107
    rw [if_pos (show (0 : Int32) = 0 from rfl), if_neg (show ¬ (1 : Int32) = 0 by decide), gd_pos hin, i_tn (by omega), ob2_of w1, hr]
    -- the trial itself
    have trial : (200 ≤ v ∨ v < o) → ∃ r' μ2 ν2', (if r = 0 then some (nI v, μb) else X9_greatest_50 f (nI s) (nI D) (24 + 2 * i) (nI v - 1) μb) = some (r', μ2) ∧ (if nI E = 0 then some (nI v, ν2) else X10_greatest_37 f2 (nI i) (nI s) (nI D) (nI v - 1) ν2) = some (r', ν2') ∧ Sim (j + 1) μ2 ν2' := by
      intro hvo
      by_cases hr0 : r = 0
      · have hE0 : E = 0 := w2.mp hr0
        rw [if_pos hr0, if_pos (by rw [hE0]; rfl)]
        exact ⟨_, _, _, rfl, rfl, (hS0.sc0 (tr w3)).up⟩
      · have hE0 : E ≠ 0 := fun q => hr0 (w2.mpr q)
        rw [if_neg hr0, if_neg (fun q => hE0 ((nI_z (by omega)).mp q))]
        refine ih f f2 μb ν2 (by omega) (by omega) (by omega) (tr w3) (fun hv2 hdb => ?_)
        by_cases hv200 : v = 200
        · subst hv200
          obtain ⟨E', g1, g2⟩ := hold_same t0 hi hs hD h9 hn s2 hdb
          obtain ⟨μc, g3⟩ := g2 μ sc.1 200 (by omega) hdb
          rw [x1] at g3
          injection g3 with g3
          have g3 : nI E = nI E' := congrArg Prod.fst g3
          have g4 : E = E' := (nI_eq (by omega) (by omega)).mp g3
          exact ⟨E', by omega, g1, g2⟩
        · exact hE (by omega) hdb
    by_cases hv2 : 200 ≤ v
    · rw [if_pos (show (200 : Int32) ≤ nI v from nI_le (a := 200) hv2 (by omega))]
      exact trial (Or.inl hv2)
    · rw [if_neg (show ¬ (200 : Int32) ≤ nI v from nle (b := 200) (by omega) (by decide))]
      by_cases hvo : v < o
      · rw [if_pos (nI_lt hvo (by omega))]
        exact trial (Or.inr hvo)
      · rw [if_neg (nI_nlt (show o ≤ v by omega) (by omega))]
        obtain ⟨E', g0, g1, g2⟩ := hE (by omega) (by omega)
        obtain ⟨μc, g3⟩ := g2 μ sc.1 v (by omega) (by omega)
        rw [x1] at g3
        injection g3 with g3
        have g3 : nI E = nI E' := congrArg Prod.fst g3
        have g4 : E = E' := (nI_eq (by omega) (by omega)).mp g3
        rw [if_neg (show ¬ nI E = 0 from fun q => g0 (by rw [← g4]; exact (nI_z (by omega)).mp q))]
        exact ih f f2 μ ν2 (by omega) (by omega) (by omega) (tr w4) (fun _ hdb => ⟨E', g0, g1, g2⟩)
theorem op_greatest (a0 a1 a2 : Int32) (hS : Sim j μ ν) : ∃ r μ2 ν2, X9_greatest a0 a1 a2 μ = some (r, μ2) ∧ X10_greatest a0 a1 a2 ν = some (r, ν2) ∧ Sim (j + 1) μ2 ν2 := by
  obtain ⟨⟨h, nm, ns, nl, nr, nt, tl, t⟩, o⟩ := id hS
  have hFU := FU_ge
  have b := t.1
  unfold X9_greatest X10_greatest
  rcases holding t a0 a1 a2 with ⟨i, s, D, hi, rfl, hs, rfl, hD, rfl, h9, e1, e2⟩ | ⟨e1, e2⟩
  · have hin : inB (nI s) 4 := i_in (by omega) (by omega)
    have hin8 : inB (nI i) 8 := i_in (by omega) (by omega)
    have r0 : rg 0 0 200 = 1 := by decide
    obtain ⟨s1, s2, s3⟩ := hS.2.2.2.1 s hs
    rw [ob2_of e1, ob2_of (e2 0), r0, if_neg (show ¬ (1 : Int32) = 0 by decide), if_neg (show ¬ (1 : Int32) = 0 by decide)]
    simp only [gd_pos hin, gd_pos hin8, i_tn (show s < 2 ^ 31 by omega), i_tn (show i < 2 ^ 31 by omega)]
    rw [ob2_of (missing_c _), s1]
    by_cases h0 : ν 8 s = 0
    · rw [if_pos h0, if_pos h0, if_neg (show ¬ (1 : Int32) = 0 by decide)]
      exact find_ok hS 2 (by decide)
    · obtain ⟨n, n1, n2, n3, n4⟩ := s3 h0
      rw [if_neg h0, if_neg h0, if_pos (show (0 : Int32) = 0 from rfl)]
      exact great_loop t hi hs hD h9 n1 n2 n3 n4 o.2.2.2.2 hS 201 FU FU μ ν (by omega) (by omega) (by omega) ⟨fun _ _ _ _ => rfl, fun _ _ _ _ _ => rfl, fun _ _ => rfl, fun _ _ => rfl⟩ (fun q => by omega)
  · rw [ob2_of e1, ob2_of (e2 0), if_pos rfl, if_pos rfl]
    exact find_ok hS 1 (by decide)
end OH
