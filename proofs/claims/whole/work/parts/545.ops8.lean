/-! told, found, trace; the sheets -/
theorem rng_lt {α : Type} (x : Int32) {n : Nat} (hn : n < 100000) (A B : α) : (if x < 0 then A else (if x < nI n then B else A)) = if rg x 0 ((n : Int) - 1) = 0 then A else B := by
  have e0 : (0 : Int32).toInt = 0 := rfl
  have en : (nI n).toInt = (n : Int) := i_n n (by omega)
  unfold rg
  by_cases h1 : x < 0
  · rw [if_pos h1, if_neg (show ¬ (0 ≤ x.toInt ∧ x.toInt ≤ (n : Int) - 1) by rw [i_lt, e0] at h1; omega), if_pos rfl]
  · rw [if_neg h1]
    by_cases h2 : x < nI n
    · rw [if_pos h2, if_pos (show 0 ≤ x.toInt ∧ x.toInt ≤ (n : Int) - 1 by rw [i_lt, e0] at h1; rw [i_lt, en] at h2; omega), if_neg (by decide)]
    · rw [if_neg h2, if_neg (show ¬ (0 ≤ x.toInt ∧ x.toInt ≤ (n : Int) - 1) by rw [i_lt, en] at h2; omega), if_pos rfl]
theorem in_lt (x : Int32) {n : Nat} (hn : n < 100000) (m : Mem) : X10_in x 0 (nI n - 1) m = some (rg x 0 ((n : Int) - 1), m) := by
  have e3 : (nI n - 1).toInt = (n : Int) - 1 := by
    rw [i_sub (by rw [i_n _ (by omega)]; show _ ≤ (n : Int) - 1; omega) (by rw [i_n _ (by omega)]; show (n : Int) - 1 < _; omega), i_n _ (by omega)]
    rfl
  rw [in_rg, e3]
  rfl
section O8
variable {j : Nat} {μ ν : Mem}
theorem Sim.ss {μ2 ν2 : Mem} (hS : Sim j μ ν) (kx : ∀ a, a < 88 → μ2 a = μ a) (km : ∀ a, a < 8 → ν2 a = ν a) (hs : SS μ2 ν2) : Sim (j + 1) μ2 ν2 := by
  obtain ⟨⟨hh', nm', ns', nl', nr', nt', tl', t'⟩, f1, ⟨n, v1, v2, v3, v4⟩, s1, i1, l1⟩ := hS
  refine ⟨⟨hh', nm', ns', nl', nr', nt', tl', t'.c (fun a q1 q2 q3 => kx a (by omega)) (fun w _ => by rw [km 1 (by decide)])⟩, fun k x1 x2 => ?_, ⟨n, v1, ?_, ?_, fun k hk => ?_⟩, hs, i1.c (fun a ha => kx a (by omega)) (km 2 (by decide)) (by rw [km 0 (by decide)]) (by rw [km 0 (by decide)]), (km 6 (by decide)).trans l1⟩
  · rw [kx 86 (by decide), km 4 (by decide)]; exact f1 k x1 x2
  · rw [kx 83 (by decide)]; exact v2
  · rw [km 0 (by decide)]; exact v3
  · rw [kx 84 (by decide), km 7 (by decide)]; exact v4 k hk
def TF (x1 x2 x3 : Int32) (μ : Mem) : Option (Int32 × Mem) := (if x1 = 0 then some ((μ 1 1), μ) else (if x1 = 1 then some ((μ 1 2), μ) else (if x1 = 2 then some ((μ 1 3), μ) else (if x1 = 3 then some ((μ 1 0), μ) else (if x1 = 4 then some ((μ 1 6), μ) else (if x1 = 5 then some ((μ 1 4), μ) else (if x1 = 6 then some ((μ 1 5), μ) else (if x1 = 7 then some ((μ 1 7), μ) else (if x1 = 8 then some ((μ 1 8), μ) else (if x1 = 9 then some (x2, μ) else (if x1 = 10 then some (x3, μ) else (if x1 = 11 then some ((μ 0 14), μ) else ob2 (X10_finding 1 μ) fun r14 μ14 => some (r14, μ14)))))))))))))
theorem told_loop {h nm ns nl nr nt tl : Nat} (t : TS 1 μ (ν 1) h nm ns nl nr nt tl) (a0 : Int32) : ∀ (z k f f2 f3 : Nat) (x y : Int32), nm - k < z → k ≤ nm → z ≤ f → z ≤ f2 → z ≤ f3 → ∃ x2 y2, X7_countCut_4 f x (nI k) μ = some (x2, μ) ∧ X7_allDebt_4 f2 y (nI k) μ = some (y2, μ) ∧ X10_told_7 f3 a0 x y (nI k) ν = TF a0 x2 y2 ν := by
  have b := t.1
  have e1 : μ 1 6 = nI nm := t.2.2.1.1
  have e2 : ν 1 1 = nI nm := t.2.2.1.2
  intro z
  induction z with
  | zero => intro k f f2 f3 x y h; omega
  | succ z ih =>
    intro k f f2 f3 x y hz hk hf hf2 hf3
    obtain ⟨f, rfl⟩ : ∃ f1, f = f1 + 1 := ⟨f - 1, by omega⟩
    obtain ⟨f2, rfl⟩ : ∃ f1, f2 = f1 + 1 := ⟨f2 - 1, by omega⟩
    obtain ⟨f3, rfl⟩ : ∃ f1, f3 = f1 + 1 := ⟨f3 - 1, by omega⟩
    rw [X7_countCut_4.eq_2, X7_allDebt_4.eq_2, X10_told_7.eq_2, e1, e2]
    by_cases hkn : k = nm
    · subst hkn
      rw [if_pos (by rw [i_le]; omega), if_pos (by rw [i_le]; omega), if_pos (by rw [i_le]; omega)]
      refine ⟨x, y, rfl, rfl, ?_⟩
      unfold TF
      rw [e2]
    · have hkm : k < nm := by omega
      have M := t.2.2.2.2.2.2.2.2.2.1 k hkm
      rw [show 1 + 23 + 2 * k = 24 + 2 * k by omega] at M
      have q6 : ν 1 (16 + 40 * k + 6) = μ (24 + 2 * k) 8 := M.2.1 6 (by omega)
      have q4 : ν 1 (16 + 40 * k + 4) = μ (24 + 2 * k) 6 := M.2.1 4 (by omega)
      rw [if_neg (nle hkm (by omega)), if_neg (nle hkm (by omega)), if_neg (nle hkm (by omega)), gd_pos (m8 hkm b.2.1).1, gd_pos (m8 hkm b.2.1).1, (m8 hkm b.2.1).2, ob2_of (of_ok (w := 6) (by omega) (by decide) ν), q6]
      unfold X7_countCut_30 X10_told_35
      rw [ob2_of (of_ok (w := 4) (by omega) (by decide) ν), q4, nI_1]
      by_cases h0 : μ (24 + 2 * k) 8 = 0
      · rw [if_pos h0, if_pos h0]
        exact ih (k + 1) f f2 f3 _ _ (by omega) (by omega) (by omega) (by omega) (by omega)
      · rw [if_neg h0, if_neg h0, ob2_of (of_ok (w := 4) (by omega) (by decide) ν), q4]
        exact ih (k + 1) f f2 f3 _ _ (by omega) (by omega) (by omega) (by omega) (by omega)
theorem op_told (a0 : Int32) (hS : Sim j μ ν) : ∃ r μ2 ν2, X9_told a0 μ = some (r, μ2) ∧ X10_told a0 ν = some (r, ν2) ∧ Sim (j + 1) μ2 ν2 := by
  obtain ⟨⟨h, nm, ns, nl, nr, nt, tl, t⟩, o⟩ := id hS
  have hFU := FU_ge
  have b := t.1
  obtain ⟨x2, y2, c1, c2, c3⟩ := told_loop t a0 100 0 FU FU FU 0 0 (by omega) (by omega) (by omega) (by omega) (by omega)
  have c1' : X7_countCut μ = some (x2, μ) := c1
  have c2' : X7_allDebt μ = some (y2, μ) := c2
  have c3' : X10_told a0 ν = TF a0 x2 y2 ν := c3
  obtain ⟨n, v1, v2, v3, v4⟩ := o.2.1
  have g0 : μ 1 6 = ν 1 1 := t.2.2.1.1.trans t.2.2.1.2.symm
  have g1 : μ 3 4 = ν 1 2 := t.2.2.2.1.1.trans t.2.2.2.1.2.symm
  have g2 : μ 8 5 = ν 1 3 := t.2.2.2.2.1.2.1.trans t.2.2.2.2.1.2.2.1.symm
  have g3 : μ 1 8 = ν 1 0 := t.2.1.1.trans t.2.1.2.symm
  have g4 : μ 1 7 = ν 1 6 := t.2.2.2.2.2.2.2.1.1.trans t.2.2.2.2.2.2.2.1.2.symm
  have g5 : μ 14 4 = ν 1 4 := t.2.2.2.2.2.1.1.trans t.2.2.2.2.2.1.2.symm
  have g6 : μ 19 3 = ν 1 5 := t.2.2.2.2.2.2.1.1.trans t.2.2.2.2.2.2.1.2.symm
  have g7 : μ 19 4 = ν 1 7 := t.2.2.2.2.2.2.2.2.1.1
  have g8 : μ 19 5 = ν 1 8 := t.2.2.2.2.2.2.2.2.1.2
  have g11 : μ 83 1 = ν 0 14 := v2.trans v3.symm
  rw [c3']
  unfold X9_told TF
  rw [ob2_of c1', ob2_of c2', g0, g1, g2, g3, g4, g5, g6, g7, g8, g11]
  by_cases h0 : a0 = 0
  · rw [if_pos h0, if_pos h0]
    exact ⟨_, _, _, rfl, rfl, hS.up⟩
  rw [if_neg h0, if_neg h0]
  by_cases h1 : a0 = 1
  · rw [if_pos h1, if_pos h1]
    exact ⟨_, _, _, rfl, rfl, hS.up⟩
  rw [if_neg h1, if_neg h1]
  by_cases h2 : a0 = 2
  · rw [if_pos h2, if_pos h2]
    exact ⟨_, _, _, rfl, rfl, hS.up⟩
  rw [if_neg h2, if_neg h2]
  by_cases h3 : a0 = 3
  · rw [if_pos h3, if_pos h3]
    exact ⟨_, _, _, rfl, rfl, hS.up⟩
  rw [if_neg h3, if_neg h3]
  by_cases h4 : a0 = 4
  · rw [if_pos h4, if_pos h4]
    exact ⟨_, _, _, rfl, rfl, hS.up⟩
  rw [if_neg h4, if_neg h4]
  by_cases h5 : a0 = 5
  · rw [if_pos h5, if_pos h5]
    exact ⟨_, _, _, rfl, rfl, hS.up⟩
  rw [if_neg h5, if_neg h5]
  by_cases h6 : a0 = 6
  · rw [if_pos h6, if_pos h6]
    exact ⟨_, _, _, rfl, rfl, hS.up⟩
  rw [if_neg h6, if_neg h6]
  by_cases h7 : a0 = 7
  · rw [if_pos h7, if_pos h7]
    exact ⟨_, _, _, rfl, rfl, hS.up⟩
  rw [if_neg h7, if_neg h7]
  by_cases h8 : a0 = 8
  · rw [if_pos h8, if_pos h8]
    exact ⟨_, _, _, rfl, rfl, hS.up⟩
  rw [if_neg h8, if_neg h8]
  by_cases h9 : a0 = 9
  · rw [if_pos h9, if_pos h9]
    exact ⟨_, _, _, rfl, rfl, hS.up⟩
  rw [if_neg h9, if_neg h9]
  by_cases h10 : a0 = 10
  · rw [if_pos h10, if_pos h10]
    exact ⟨_, _, _, rfl, rfl, hS.up⟩
  rw [if_neg h10, if_neg h10]
  by_cases h11 : a0 = 11
  · rw [if_pos h11, if_pos h11]
    exact ⟨_, _, _, rfl, rfl, hS.up⟩
  rw [if_neg h11, if_neg h11]
  exact find_ok hS 1 (by decide)
theorem op_found (a0 : Int32) (hS : Sim j μ ν) : ∃ r μ2 ν2, X9_found a0 μ = some (r, μ2) ∧ X10_found a0 ν = some (r, ν2) ∧ Sim (j + 1) μ2 ν2 := by
  unfold X9_found X10_found
  rw [ob2_of (in_rg _ _ _ _), rng_if]
  rcases rg_cases a0 (1 : Int32).toInt (5 : Int32).toInt with ⟨r, -⟩ | ⟨r, r1, r2⟩
  · rw [r, if_pos (show (0 : Int32) = 0 from rfl), if_pos (show (0 : Int32) = 0 from rfl)]
    exact find_ok hS 1 (by decide)
  · have r1 : (1 : Int) ≤ a0.toInt := r1
    obtain ⟨n, hn, rfl, e⟩ := to_nat (x := a0) (hi := 5) ⟨by omega, r2⟩ (by decide)
    rw [r, if_neg (show ¬ (1 : Int32) = 0 by decide), if_neg (show ¬ (1 : Int32) = 0 by decide), gd_pos (i_in (by omega) (by omega)), gd_pos (i_in (by omega) (by omega)), i_tn (by omega), hS.2.1 n (by omega) (by omega)]
    exact ⟨_, _, _, rfl, rfl, hS.up⟩
theorem op_trace (a0 : Int32) (hS : Sim j μ ν) : ∃ r μ2 ν2, X9_trace a0 μ = some (r, μ2) ∧ X10_trace a0 ν = some (r, ν2) ∧ Sim (j + 1) μ2 ν2 := by
  obtain ⟨n, v1, v2, v3, v4⟩ := hS.2.2.1
  unfold X9_trace X10_trace
  rw [v2, v3, ob2_of (in_lt _ (by omega) _), rng_lt _ (by omega)]
  rcases rg_cases a0 0 ((n : Int) - 1) with ⟨r, -⟩ | ⟨r, r1, r2⟩
  · rw [r, if_pos (show (0 : Int32) = 0 from rfl), if_pos (show (0 : Int32) = 0 from rfl)]
    exact find_ok hS 2 (by decide)
  · obtain ⟨k, hk, rfl, e⟩ := to_nat (x := a0) (hi := 40) ⟨by omega, by omega⟩ (by decide)
    rw [r, if_neg (show ¬ (1 : Int32) = 0 by decide), if_neg (show ¬ (1 : Int32) = 0 by decide), gd_pos (i_in (by omega) (by omega)), gd_pos (i_in (by omega) (by omega)), i_tn (by omega), v4 k (by omega)]
    exact ⟨_, _, _, rfl, rfl, hS.up⟩
/-! sheets -/
theorem isSheet_rg (x : Int32) (m : Mem) : X9_isSheet x m = some (rg x 0 3, m) := two_rg x 0 4 (by decide) m
theorem zero_c (c : Nat) : ∀ (z k f : Nat) (μ : Mem), 24 - k < z → k ≤ 24 → z ≤ f → ∃ μ2, X4_begin_26 f c (nI k) μ = some μ2 ∧ (∀ a, a ≠ c + 1 → μ2 a = μ a) ∧ (∀ i, i < k → μ2 (c + 1) i = μ (c + 1) i) ∧ ∀ i, k ≤ i → i < 24 → μ2 (c + 1) i = 0 := by
  intro z
  induction z with
  | zero => intro k f μ h; omega
  | succ z ih =>
    intro k f μ hz hk hf
    obtain ⟨f, rfl⟩ : ∃ f1, f = f1 + 1 := ⟨f - 1, by omega⟩
    rw [X4_begin_26.eq_2]
    by_cases hkn : k = 24
    · subst hkn
      rw [if_pos (show (24 : Int32) ≤ nI 24 by decide)]
      exact ⟨μ, rfl, fun _ _ => rfl, fun _ _ => rfl, fun i h1 h2 => by omega⟩
    · rw [if_neg (show ¬ (24 : Int32) ≤ nI k from nle (b := 24) (by omega) (by decide)), gd_pos (i_in (by omega) (by omega)), i_tn (by omega), lt_of, nI_1]
      obtain ⟨μ2, c1, c2, c3, c4⟩ := ih (k + 1) f (st μ (c + 1) k 0) (by omega) (by omega) (by omega)
      refine ⟨μ2, c1, fun a ha => (c2 a ha).trans (st_other _ _ _ ha), fun i hi => ?_, fun i h1 h2 => ?_⟩
      · rw [c3 i (by omega), st_ne (by omega)]
      · by_cases hik : i = k
        · subst hik
          rw [c3 _ (by omega), st_eq]
        · exact c4 i (by omega) h2
theorem zero_m {s : Nat} (hs : s < 4) : ∀ (z k f : Nat) (ν : Mem), 24 - k < z → k ≤ 24 → z ≤ f → ∃ ν2, X10_sheet_89 f (nI s) (nI k) ν = some (1, ν2) ∧ (∀ a, a ≠ 10 → ν2 a = ν a) ∧ (∀ i, (i < 24 * s + k ∨ 24 * s + 24 ≤ i) → ν2 10 i = ν 10 i) ∧ ∀ i, k ≤ i → i < 24 → ν2 10 (24 * s + i) = 0 := by
  intro z
  induction z with
  | zero => intro k f μ h; omega
  | succ z ih =>
    intro k f ν hz hk hf
    obtain ⟨f, rfl⟩ : ∃ f1, f = f1 + 1 := ⟨f - 1, by omega⟩
    rw [X10_sheet_89.eq_2]
    by_cases hkn : k = 24
    · subst hkn
      rw [if_pos (show (24 : Int32) ≤ nI 24 by decide)]
      exact ⟨ν, rfl, fun _ _ => rfl, fun _ _ => rfl, fun i h1 h2 => by omega⟩
    · have e : (24 : Int32) * nI s + nI k = nI (24 * s + k) := by rw [show (24 : Int32) = nI 24 from rfl, pk_mul, nI_add]
      rw [if_neg (show ¬ (24 : Int32) ≤ nI k from nle (b := 24) (by omega) (by decide)), e, gd_pos (i_in (by omega) (by omega)), i_tn (by omega), lt_of, nI_1]
      obtain ⟨ν2, c1, c2, c3, c4⟩ := ih (k + 1) f (st ν 10 (24 * s + k) 0) (by omega) (by omega) (by omega)
      refine ⟨ν2, c1, fun a ha => (c2 a ha).trans (st_other _ _ _ ha), fun i hi => ?_, fun i h1 h2 => ?_⟩
      · rw [c3 i (by omega), st_ne (by omega)]
      · by_cases hik : i = k
        · subst hik
          rw [c3 _ (by omega), st_eq]
        · exact c4 i (by omega) h2
theorem Sh1.c {f g f2 g2 : Nat → Int32} {b z b2 z2 : Int32} {q q2 : Nat → Int32} (h : Sh1 f g b z q) (h1 : f2 = f) (h2 : g2 = g) (h3 : b2 = b) (h4 : z2 = z) (h5 : ∀ k, k < 24 → q2 k = q k) : Sh1 f2 g2 b2 z2 q2 := by
  subst h1 h2 h3 h4
  obtain ⟨a1, a2, a3⟩ := h
  refine ⟨a1, a2, fun hb => ?_⟩
  obtain ⟨n, n1, n2, n3, n4⟩ := a3 hb
  exact ⟨n, n1, n2, n3, fun k hk => (n4 k hk).trans (h5 k (by omega)).symm⟩
/-- sheet s is laid anew, with n columns of kind b -/
theorem sheet_do {s n : Nat} {b : Int32} (hS : Sim j μ ν) (hs : s < 4) (hn : n ≤ 24) (hb : b = 8 ∨ b = 16 ∨ b = 32) : ∃ r μ2 ν2, X9_sheet_65 (nI s) b (nI n) μ = some (r, μ2) ∧ (gd (inB (nI s) 4) (lt (st ν 8 (nI s).toNatClampNeg b) fun μ9 => gd (inB (nI s) 4) (lt (st μ9 9 (nI s).toNatClampNeg (nI n)) fun μ11 => X10_sheet_89 FU (nI s) 0 μ11))) = some (r, ν2) ∧ Sim (j + 1) μ2 ν2 := by
  have hFU := FU_ge
  have hin : inB (nI s) 4 := i_in (by omega) (by omega)
  have hb0 : ¬ b = 0 := by rcases hb with rfl | rfl | rfl <;> decide
  unfold X9_sheet_65 X4_begin
  have w : ∀ m, X9_within 0 (nI n) 24 m = some (nI n, m) := fun m => by
    rw [within_c _ _ (by decide) m]
    unfold wcl
    rw [if_pos (nI_pos' (by omega)), if_pos (show nI n ≤ 24 from nI_le (b := 24) hn (by decide))]
  rw [gd_pos hin, gd_pos hin, i_tn (by omega), lt_of, lt_of, if_neg hb0, ob2_of (w _)]
  unfold X4_begin_21
  rw [lt_of, gd_pos hin, lt_of]
  obtain ⟨μ2, c1, c2, -, c4⟩ := zero_c (88 + 2 * s) 100 0 FU (st (st μ (88 + 2 * s) 1 b) (88 + 2 * s) 2 (nI n)) (by omega) (by omega) (by omega)
  obtain ⟨ν2, d1, d2, d3, d4⟩ := zero_m hs 100 0 FU (st (st ν 8 s b) 9 s (nI n)) (by omega) (by omega) (by omega)
  have c1' : X4_begin_26 FU (88 + 2 * s) 0 _ = some μ2 := c1
  have d1' : X10_sheet_89 FU (nI s) 0 _ = some (1, ν2) := d1
  rw [ob_of c1', d1']
  refine ⟨_, _, _, rfl, rfl, hS.ss (fun a ha => ?_) (fun a ha => ?_) (fun s2 hs2 => ?_)⟩
  · rw [c2 a (by omega), st_other _ _ _ (by omega), st_other _ _ _ (by omega)]
  · rw [d2 a (by omega), st_other _ _ _ (by omega), st_other _ _ _ (by omega)]
  · by_cases hss : s2 = s
    · subst hss
      refine ⟨?_, Or.inr ?_, fun _ => ⟨n, hn, ?_, ?_, fun k hk => ?_⟩⟩
      · rw [c2 _ (by omega), st_ne (by omega), st_eq, d2 _ (by omega), st_other _ _ _ (by decide), st_eq]
      · rw [d2 _ (by omega), st_other _ _ _ (by decide), st_eq]
        exact hb
      · rw [c2 _ (by omega), st_eq]
      · rw [d2 _ (by omega), st_eq]
      · dsimp only
        rw [c4 k (by omega) (by omega), d4 k (by omega) (by omega)]
    · refine (hS.2.2.2.1 s2 hs2).c ?_ ?_ ?_ ?_ (fun k hk => ?_)
      · rw [c2 _ (by omega), st_other _ _ _ (by omega), st_other _ _ _ (by omega)]
      · rw [c2 _ (by omega), st_other _ _ _ (by omega), st_other _ _ _ (by omega)]
      · rw [d2 _ (by omega), st_other _ _ _ (by decide), st_ne (by omega)]
      · rw [d2 _ (by omega), st_ne (by omega), st_other _ _ _ (by decide)]
      · rw [d3 _ (by omega), st_other _ _ _ (by decide), st_other _ _ _ (by decide)]
theorem sheet_37 {s : Nat} {b x : Int32} (hS : Sim j μ ν) (hs : s < 4) (hb : b = 8 ∨ b = 16 ∨ b = 32) : ∃ r μ2 ν2, X9_sheet_35 (nI s) b x μ = some (r, μ2) ∧ X10_sheet_37 (nI s) b x ν = some (r, ν2) ∧ Sim (j + 1) μ2 ν2 := by
  have hb0 : ¬ b = 0 := by rcases hb with rfl | rfl | rfl <;> decide
  unfold X9_sheet_35 X9_sheet_49 X10_sheet_37
  rw [if_neg hb0, if_neg hb0, if_neg hb0]
  by_cases h0 : 0 ≤ x
  · rw [if_pos h0, if_pos h0]
    by_cases h1 : x ≤ 24
    · rw [if_pos h1, if_pos h1]
      have e0 : (0 : Int32).toInt = 0 := rfl
      have e1 : (24 : Int32).toInt = 24 := rfl
      obtain ⟨n, hn, rfl, -⟩ := to_nat (x := x) (hi := 24) ⟨by rw [i_le, e0] at h0; exact h0, by rw [i_le, e1] at h1; exact h1⟩ (by decide)
      exact sheet_do hS hs hn hb
    · rw [if_neg h1, if_neg h1]
      exact find_ok hS 1 (by decide)
  · rw [if_neg h0, if_neg h0]
    exact find_ok hS 3 (by decide)
theorem sheet_0 {s : Nat} {x : Int32} (hS : Sim j μ ν) (hs : s < 4) : ∃ r μ2 ν2, X9_sheet_35 (nI s) 0 x μ = some (r, μ2) ∧ X10_sheet_37 (nI s) 0 x ν = some (r, ν2) ∧ Sim (j + 1) μ2 ν2 := by
  have hFU := FU_ge
  have hin : inB (nI s) 4 := i_in (by omega) (by omega)
  unfold X9_sheet_35 X9_sheet_49 X10_sheet_37 X9_sheet_65 X4_begin X4_begin_21
  rw [if_pos rfl, if_pos rfl, if_pos rfl, gd_pos hin, gd_pos hin, i_tn (by omega), lt_of, lt_of, if_pos rfl, lt_of]
  obtain ⟨μ2, c1, c2, -, c4⟩ := zero_c (88 + 2 * s) 100 0 FU (st (st μ (88 + 2 * s) 1 0) (88 + 2 * s) 2 0) (by omega) (by omega) (by omega)
  have c1' : X4_begin_26 FU (88 + 2 * s) 0 _ = some μ2 := c1
  rw [ob_of c1']
  refine ⟨_, _, _, rfl, rfl, hS.ss (fun a ha => ?_) (fun a ha => ?_) (fun s2 hs2 => ?_)⟩
  · rw [c2 a (by omega), st_other _ _ _ (by omega), st_other _ _ _ (by omega)]
  · rw [st_other _ _ _ (by omega)]
  · by_cases hss : s2 = s
    · subst hss
      refine ⟨?_, Or.inl ?_, fun q => absurd ?_ q⟩
      · rw [c2 _ (by omega), st_ne (by omega), st_eq, st_eq]
      · rw [st_eq]
      · rw [st_eq]
    · refine (hS.2.2.2.1 s2 hs2).c ?_ ?_ ?_ ?_ (fun k hk => ?_)
      · rw [c2 _ (by omega), st_other _ _ _ (by omega), st_other _ _ _ (by omega)]
      · rw [c2 _ (by omega), st_other _ _ _ (by omega), st_other _ _ _ (by omega)]
      · rw [st_ne (by omega)]
      · rw [st_other _ _ _ (by decide)]
      · rw [st_other _ _ _ (by decide)]
theorem op_sheet (a0 a1 a2 : Int32) (hS : Sim j μ ν) : ∃ r μ2 ν2, X9_sheet a0 a1 a2 μ = some (r, μ2) ∧ X10_sheet a0 a1 a2 ν = some (r, ν2) ∧ Sim (j + 1) μ2 ν2 := by
  unfold X9_sheet X10_sheet
  rw [ob2_of (isSheet_rg _ _), ob2_of (in_r (a := 0) (b := 3) (by decide) (by decide) _)]
  rcases rg_cases a0 0 3 with ⟨r, -⟩ | ⟨r, r1, r2⟩
  · rw [r, if_pos (show (0 : Int32) = 0 from rfl), if_pos (show (0 : Int32) = 0 from rfl)]
    exact find_ok hS 1 (by decide)
  · obtain ⟨s, hs, rfl, -⟩ := to_nat (x := a0) (hi := 3) ⟨r1, r2⟩ (by decide)
    rw [r, if_neg (show ¬ (1 : Int32) = 0 by decide), if_neg (show ¬ (1 : Int32) = 0 by decide)]
    by_cases h0 : a1 = 0
    · subst h0
      rw [if_pos rfl, if_pos rfl]
      exact sheet_0 hS (by omega)
    rw [if_neg h0, if_neg h0]
    by_cases h8 : a1 = 8
    · rw [if_pos h8, if_pos h8]
      exact sheet_37 hS (by omega) (Or.inl h8)
    rw [if_neg h8, if_neg h8]
    by_cases h16 : a1 = 16
    · rw [if_pos h16, if_pos h16]
      exact sheet_37 hS (by omega) (Or.inr (Or.inl h16))
    rw [if_neg h16, if_neg h16]
    by_cases h32 : a1 = 32
    · rw [if_pos h32, if_pos h32]
      exact sheet_37 hS (by omega) (Or.inr (Or.inr h32))
    rw [if_neg h32, if_neg h32]
    exact find_ok hS 1 (by decide)
theorem missing_c (c : Nat) : X4_isMissing c μ = some (if μ c 1 = 0 then 1 else 0, μ) := by
  unfold X4_isMissing
  by_cases h : μ c 1 = 0
  · rw [if_pos h, if_pos h]
  · rw [if_neg h, if_neg h]
theorem op_put (a0 a1 a2 : Int32) (hS : Sim j μ ν) : ∃ r μ2 ν2, X9_put a0 a1 a2 μ = some (r, μ2) ∧ X10_put a0 a1 a2 ν = some (r, ν2) ∧ Sim (j + 1) μ2 ν2 := by
  unfold X9_put X10_put
  rw [ob2_of (isSheet_rg _ _), ob2_of (in_r (a := 0) (b := 3) (by decide) (by decide) _)]
  rcases rg_cases a0 0 3 with ⟨r, -⟩ | ⟨r, r1, r2⟩
  · rw [r, if_pos (show (0 : Int32) = 0 from rfl), if_pos (show (0 : Int32) = 0 from rfl)]
    exact find_ok hS 1 (by decide)
  · obtain ⟨s, hs, rfl, -⟩ := to_nat (x := a0) (hi := 3) ⟨r1, r2⟩ (by decide)
    have hin : inB (nI s) 4 := i_in (by omega) (by omega)
    obtain ⟨s1, s2, s3⟩ := hS.2.2.2.1 s (by omega)
    rw [r, if_neg (show ¬ (1 : Int32) = 0 by decide), if_neg (show ¬ (1 : Int32) = 0 by decide)]
    simp only [gd_pos hin, i_tn (show s < 2 ^ 31 by omega)]
    rw [ob2_of (missing_c _), s1]
    by_cases h0 : ν 8 s = 0
    · rw [if_pos h0, if_pos h0, if_neg (show ¬ (1 : Int32) = 0 by decide)]
      exact find_ok hS 2 (by decide)
    · obtain ⟨n, n1, n2, n3, n4⟩ := s3 h0
      rw [if_neg h0, if_neg h0, if_pos (show (0 : Int32) = 0 from rfl), n2, n3, ob2_of (in_lt _ (by omega) _), rng_lt _ (by omega)]
      rcases rg_cases a1 0 ((n : Int) - 1) with ⟨r, -⟩ | ⟨r, r1, r2⟩
      · rw [r, if_pos (show (0 : Int32) = 0 from rfl), if_pos (show (0 : Int32) = 0 from rfl)]
        exact find_ok hS 1 (by decide)
      · obtain ⟨k, hk, rfl, ek⟩ := to_nat (x := a1) (hi := 24) ⟨by omega, by omega⟩ (by decide)
        rw [r, if_neg (show ¬ (1 : Int32) = 0 by decide), if_neg (show ¬ (1 : Int32) = 0 by decide)]
        have e : (24 : Int32) * nI s + nI k = nI (24 * s + k) := by rw [show (24 : Int32) = nI 24 from rfl, pk_mul, nI_add]
        obtain ⟨v, hv, hv2⟩ : ∃ v, X4_lowest (88 + 2 * s) a2 μ = some (v, μ) ∧ (if ν 8 s = 8 then X10_put_95 (nI (24 * s + k)) a2.toInt8.toInt32 ν else (if ν 8 s = 16 then X10_put_95 (nI (24 * s + k)) a2.toInt16.toInt32 ν else X10_put_95 (nI (24 * s + k)) a2 ν)) = X10_put_95 (nI (24 * s + k)) v ν := by
          unfold X4_lowest
          rw [s1]
          by_cases h8 : ν 8 s = 8
          · rw [if_pos h8, if_pos h8]
            exact ⟨_, rfl, rfl⟩
          · rw [if_neg h8, if_neg h8]
            by_cases h16 : ν 8 s = 16
            · rw [if_pos h16, if_pos h16]
              exact ⟨_, rfl, rfl⟩
            · rw [if_neg h16, if_neg h16]
              exact ⟨_, rfl, rfl⟩
        rw [e, hv2]
        unfold X4_write X10_put_95
        rw [if_neg (nI_pos (show k < 2 ^ 31 by omega)), n2, if_neg (nle (show k < n by omega) (by omega)), ob2_of hv, gd_pos (show inB (nI k) 24 from i_in (by omega) (by omega)), i_tn (show k < 2 ^ 31 by omega), gd_pos (show inB (nI (24 * s + k)) 96 from i_in (by omega) (by omega)), i_tn (show 24 * s + k < 2 ^ 31 by omega), lt_of, lt_of]
        refine ⟨_, _, _, rfl, rfl, hS.ss (fun a ha => st_other _ _ _ (by omega)) (fun a ha => st_other _ _ _ (by omega)) (fun s' hs' => ?_)⟩
        by_cases hss : s' = s
        · subst hss
          refine ⟨?_, ?_, fun _ => ⟨n, n1, ?_, ?_, fun i hi => ?_⟩⟩
          · rw [st_other _ _ _ (by omega), st_other _ _ _ (by decide)]; exact s1
          · rw [st_other _ _ _ (by decide)]; exact s2
          · rw [st_other _ _ _ (by omega)]; exact n2
          · rw [st_other _ _ _ (by decide)]; exact n3
          · dsimp only
            by_cases hik : i = k
            · subst hik
              rw [st_eq, st_eq]
            · rw [st_ne (by omega), st_ne (by omega)]
              exact n4 i hi
        · refine (hS.2.2.2.1 s' hs').c ?_ ?_ ?_ ?_ (fun i hi => ?_)
          · rw [st_other _ _ _ (by omega)]
          · rw [st_other _ _ _ (by omega)]
          · rw [st_other _ _ _ (by decide)]
          · rw [st_other _ _ _ (by decide)]
          · rw [st_ne (by omega)]
theorem holds_c {c n : Nat} (h : μ c 2 = nI n) (hn : n ≤ 24) (x y : Int32) : X4_holds c x y μ = some (if 0 ≤ x.toInt ∧ 0 ≤ y.toInt ∧ x.toInt + y.toInt ≤ n then 1 else 0, μ) := by
  have e0 : (0 : Int32).toInt = 0 := rfl
  have rx := i_rng x
  have ry := i_rng y
  unfold X4_holds
  rw [h]
  by_cases h1 : x < 0
  · rw [if_pos h1, if_neg (by rw [i_lt, e0] at h1; omega)]
  · rw [if_neg h1]
    rw [i_lt, e0] at h1
    by_cases h2 : y < 0
    · rw [if_pos h2, if_neg (by rw [i_lt, e0] at h2; omega)]
    · rw [if_neg h2]
      rw [i_lt, e0] at h2
      by_cases h3 : nI n < x
      · rw [if_pos h3, if_neg (by rw [i_lt, i_n _ (by omega)] at h3; omega)]
      · rw [if_neg h3]
        rw [i_lt, i_n _ (by omega)] at h3
        have es : (nI n - x).toInt = (n : Int) - x.toInt := by rw [i_sub (by rw [i_n _ (by omega)]; omega) (by rw [i_n _ (by omega)]; omega), i_n _ (by omega)]
        by_cases h4 : nI n - x < y
        · rw [if_pos h4, if_neg (by rw [i_lt, es] at h4; omega)]
        · rw [if_neg h4, if_pos (by rw [i_lt, es] at h4; omega)]
theorem has_m {s n : Nat} (hs : s < 4) (h : ν 9 s = nI n) (hn : n ≤ 24) (x y : Int32) : X10_has (nI s) x y ν = some (if 0 ≤ x.toInt ∧ 0 ≤ y.toInt ∧ x.toInt + y.toInt ≤ n then 1 else 0, ν) := by
  have e0 : (0 : Int32).toInt = 0 := rfl
  have rx := i_rng x
  have ry := i_rng y
  have hin : inB (nI s) 4 := i_in (by omega) (by omega)
  unfold X10_has
  simp only [gd_pos hin, i_tn (show s < 2 ^ 31 by omega)]
  rw [h]
  by_cases h1 : x < 0
  · rw [if_pos h1, if_neg (by rw [i_lt, e0] at h1; omega)]
  · rw [if_neg h1]
    rw [i_lt, e0] at h1
    by_cases h2 : y < 0
    · rw [if_pos h2, if_neg (by rw [i_lt, e0] at h2; omega)]
    · rw [if_neg h2]
      rw [i_lt, e0] at h2
      by_cases h3 : nI n < y
      · rw [if_pos h3, if_neg (by rw [i_lt, i_n _ (by omega)] at h3; omega)]
      · rw [if_neg h3]
        rw [i_lt, i_n _ (by omega)] at h3
        have es : (nI n - y).toInt = (n : Int) - y.toInt := by rw [i_sub (by rw [i_n _ (by omega)]; omega) (by rw [i_n _ (by omega)]; omega), i_n _ (by omega)]
        by_cases h4 : nI n - y < x
        · rw [if_pos h4, if_neg (by rw [i_lt, es] at h4; omega)]
        · rw [if_neg h4, if_pos (by rw [i_lt, es] at h4; omega)]
theorem move_in {s p n : Nat} (x3 x4 : Int32) (hs : s < 4) (hp : p + n ≤ 24) : ∀ (z k f : Nat) (ν : Mem), n - k < z → k ≤ n → z ≤ f → ∃ ν2, X10_move_101 f (nI s) (nI p) x3 x4 (nI n) (nI k) ν = X10_move_138 FU x3 x4 (nI n) 0 ν2 ∧ (∀ a, a ≠ 11 → ν2 a = ν a) ∧ (∀ i, i < k → ν2 11 i = ν 11 i) ∧ ∀ i, k ≤ i → i < n → ν2 11 i = ν 10 (24 * s + p + i) := by
  intro z
  induction z with
  | zero => intro k f μ h; omega
  | succ z ih =>
    intro k f ν hz hk hf
    obtain ⟨f, rfl⟩ : ∃ f1, f = f1 + 1 := ⟨f - 1, by omega⟩
    rw [X10_move_101.eq_2]
    by_cases hkn : k = n
    · subst hkn
      rw [if_pos (by rw [i_le]; omega)]
      exact ⟨ν, rfl, fun _ _ => rfl, fun _ _ => rfl, fun i h1 h2 => by omega⟩
    · have e : (24 : Int32) * nI s + nI p + nI k = nI (24 * s + p + k) := by rw [show (24 : Int32) = nI 24 from rfl, pk_mul, nI_add, nI_add]
      rw [if_neg (nle (show k < n by omega) (by omega)), e, gd_pos (show inB (nI (24 * s + p + k)) 96 from i_in (by omega) (by omega)), gd_pos (show inB (nI k) 24 from i_in (by omega) (by omega)), i_tn (show 24 * s + p + k < 2 ^ 31 by omega), i_tn (show k < 2 ^ 31 by omega), lt_of, nI_1]
      obtain ⟨ν2, c1, c2, c3, c4⟩ := ih (k + 1) f (st ν 11 k (ν 10 (24 * s + p + k))) (by omega) (by omega) (by omega)
      refine ⟨ν2, c1, fun a ha => (c2 a ha).trans (st_other _ _ _ ha), fun i hi => ?_, fun i h1 h2 => ?_⟩
      · rw [c3 i (by omega), st_ne (by omega)]
      · by_cases hik : i = k
        · subst hik
          rw [c3 _ (by omega), st_eq]
        · rw [c4 i (by omega) h2, st_ne (by omega)]
theorem move_out {s p n : Nat} (hs : s < 4) (hp : p + n ≤ 24) : ∀ (z k f : Nat) (ν : Mem), n - k < z → k ≤ n → z ≤ f → ∃ ν2, X10_move_138 f (nI s) (nI p) (nI n) (nI k) ν = some (nI n, ν2) ∧ (∀ a, a ≠ 10 → ν2 a = ν a) ∧ (∀ i, (i < 24 * s + p + k ∨ 24 * s + p + n ≤ i) → ν2 10 i = ν 10 i) ∧ ∀ i, k ≤ i → i < n → ν2 10 (24 * s + p + i) = ν 11 i := by
  intro z
  induction z with
  | zero => intro k f μ h; omega
  | succ z ih =>
    intro k f ν hz hk hf
    obtain ⟨f, rfl⟩ : ∃ f1, f = f1 + 1 := ⟨f - 1, by omega⟩
    rw [X10_move_138.eq_2]
    by_cases hkn : k = n
    · subst hkn
      rw [if_pos (by rw [i_le]; omega)]
      exact ⟨ν, rfl, fun _ _ => rfl, fun _ _ => rfl, fun i h1 h2 => by omega⟩
    · have e : (24 : Int32) * nI s + nI p + nI k = nI (24 * s + p + k) := by rw [show (24 : Int32) = nI 24 from rfl, pk_mul, nI_add, nI_add]
      rw [if_neg (nle (show k < n by omega) (by omega)), e, gd_pos (show inB (nI k) 24 from i_in (by omega) (by omega)), gd_pos (show inB (nI (24 * s + p + k)) 96 from i_in (by omega) (by omega)), i_tn (show 24 * s + p + k < 2 ^ 31 by omega), i_tn (show k < 2 ^ 31 by omega), lt_of, nI_1]
      obtain ⟨ν2, c1, c2, c3, c4⟩ := ih (k + 1) f (st ν 10 (24 * s + p + k) (ν 11 k)) (by omega) (by omega) (by omega)
      refine ⟨ν2, c1, fun a ha => (c2 a ha).trans (st_other _ _ _ ha), fun i hi => ?_, fun i h1 h2 => ?_⟩
      · rw [c3 i (by omega), st_ne (by omega)]
      · by_cases hik : i = k
        · subst hik
          rw [c3 _ (by omega), st_eq]
        · rw [c4 i (by omega) h2, st_other _ _ _ (by decide)]
theorem op_move (a0 a1 a2 a3 a4 : Int32) (hS : Sim j μ ν) : ∃ r μ2 ν2, X9_move a0 a1 a2 a3 a4 μ = some (r, μ2) ∧ X10_move a0 a1 a2 a3 a4 ν = some (r, ν2) ∧ Sim (j + 1) μ2 ν2 := by
  have hFU := FU_ge
  unfold X9_move X10_move
  rw [ob2_of (isSheet_rg _ _), ob2_of (in_r (a := 0) (b := 3) (by decide) (by decide) _)]
  rcases rg_cases a0 0 3 with ⟨r, -⟩ | ⟨r, r1, r2⟩
  · rw [r, if_pos (show (0 : Int32) = 0 from rfl), if_pos (show (0 : Int32) = 0 from rfl)]
    exact find_ok hS 1 (by decide)
  · obtain ⟨s, hs, rfl, -⟩ := to_nat (x := a0) (hi := 3) ⟨r1, r2⟩ (by decide)
    rw [r, if_neg (show ¬ (1 : Int32) = 0 by decide), if_neg (show ¬ (1 : Int32) = 0 by decide), ob2_of (isSheet_rg _ _), ob2_of (in_r (a := 0) (b := 3) (by decide) (by decide) _)]
    rcases rg_cases a2 0 3 with ⟨r, -⟩ | ⟨r, r1, r2⟩
    · rw [r, if_pos (show (0 : Int32) = 0 from rfl), if_pos (show (0 : Int32) = 0 from rfl)]
      exact find_ok hS 1 (by decide)
    · obtain ⟨d, hd, rfl, -⟩ := to_nat (x := a2) (hi := 3) ⟨r1, r2⟩ (by decide)
      have hin : inB (nI s) 4 := i_in (by omega) (by omega)
      have hin2 : inB (nI d) 4 := i_in (by omega) (by omega)
      obtain ⟨s1, s2, s3⟩ := hS.2.2.2.1 s (by omega)
      obtain ⟨d1, d2, d3⟩ := hS.2.2.2.1 d (by omega)
      rw [r, if_neg (show ¬ (1 : Int32) = 0 by decide), if_neg (show ¬ (1 : Int32) = 0 by decide)]
      simp only [gd_pos hin, gd_pos hin2, i_tn (show s < 2 ^ 31 by omega), i_tn (show d < 2 ^ 31 by omega)]
      rw [ob2_of (missing_c _), s1]
      by_cases h0 : ν 8 s = 0
      · rw [if_pos h0, if_pos h0, if_neg (show ¬ (1 : Int32) = 0 by decide)]
        exact find_ok hS 2 (by decide)
      · rw [if_neg h0, if_neg h0, if_pos (show (0 : Int32) = 0 from rfl), ob2_of (missing_c _), d1, s1]
        by_cases h0' : ν 8 d = 0
        · rw [if_pos h0', if_pos h0', if_neg (show ¬ (1 : Int32) = 0 by decide)]
          exact find_ok hS 2 (by decide)
        · rw [if_neg h0', if_neg h0', if_pos (show (0 : Int32) = 0 from rfl)]
          by_cases hk : ν 8 s = ν 8 d
          · obtain ⟨n, n1, n2, n3, n4⟩ := s3 h0
            obtain ⟨m, m1, m2, m3, m4⟩ := d3 h0'
            rw [if_pos hk, if_pos hk, ob2_of (holds_c n2 n1 _ _), ob2_of (has_m (by omega) n3 n1 _ _)]
            by_cases h1 : 0 ≤ a1.toInt ∧ 0 ≤ a4.toInt ∧ a1.toInt + a4.toInt ≤ n
            · rw [if_pos h1, if_neg (show ¬ (1 : Int32) = 0 by decide), if_neg (show ¬ (1 : Int32) = 0 by decide), ob2_of (holds_c m2 m1 _ _), ob2_of (has_m (by omega) m3 m1 _ _)]
              by_cases h2 : 0 ≤ a3.toInt ∧ 0 ≤ a4.toInt ∧ a3.toInt + a4.toInt ≤ m
              · rw [if_pos h2, if_neg (show ¬ (1 : Int32) = 0 by decide), if_neg (show ¬ (1 : Int32) = 0 by decide)]
                obtain ⟨p, hp, rfl, ep⟩ := to_nat (x := a1) (hi := 24) ⟨h1.1, by omega⟩ (by decide)
                obtain ⟨q, hq, rfl, eq⟩ := to_nat (x := a3) (hi := 24) ⟨h2.1, by omega⟩ (by decide)
                obtain ⟨w, hw, rfl, ew⟩ := to_nat (x := a4) (hi := 24) ⟨h1.2.1, by omega⟩ (by decide)
                obtain ⟨ν2, u1, u2, -, u4⟩ := move_in (nI d) (nI q) (show s < 4 by omega) (show p + w ≤ 24 by omega) 100 0 FU ν (by omega) (by omega) (by omega)
                obtain ⟨ν3, v1, v2, v3, v4⟩ := move_out (show d < 4 by omega) (show q + w ≤ 24 by omega) 100 0 FU ν2 (by omega) (by omega) (by omega)
                have u1' : X10_move_101 FU (nI s) (nI p) (nI d) (nI q) (nI w) 0 ν = _ := u1
                have v1' : X10_move_138 FU (nI d) (nI q) (nI w) 0 ν2 = _ := v1
                rw [gd_pos ⟨h1.1, h2.1, h1.2.1, by omega, by omega⟩, lt_of, i_tn (by omega), i_tn (by omega), i_tn (by omega), u1', v1']
                have so : ∀ (F : Nat → Int32) a, a ≠ 88 + 2 * d + 1 → str μ (88 + 2 * d + 1) F a = μ a := fun F a ha => str_other _ _ ha
                refine ⟨_, _, _, rfl, rfl, hS.ss (fun a ha => so _ a (by omega)) (fun a ha => by rw [v2 a (by omega), u2 a (by omega)]) (fun s' hs' => ?_)⟩
                by_cases hss : s' = d
                · subst hss
                  refine ⟨?_, ?_, fun _ => ⟨m, m1, ?_, ?_, fun i hi => ?_⟩⟩
                  · rw [so _ _ (by omega), v2 8 (by decide), u2 8 (by decide)]; exact d1
                  · rw [v2 8 (by decide), u2 8 (by decide)]; exact d2
                  · rw [so _ _ (by omega)]; exact m2
                  · rw [v2 9 (by decide), u2 9 (by decide)]; exact m3
                  · rw [str_same]
                    dsimp only
                    unfold va_cpy
                    by_cases hiq : q ≤ i ∧ i < q + w
                    · obtain ⟨x, rfl⟩ : ∃ x, i = q + x := ⟨i - q, by omega⟩
                      rw [if_pos hiq, show 24 * s' + (q + x) = 24 * s' + q + x by omega, v4 x (by omega) (by omega), u4 x (by omega) (by omega), n4 _ (by omega)]
                      dsimp only
                      congr 1
                      omega
                    · rw [if_neg hiq, v3 _ (by omega), u2 10 (by decide)]
                      exact m4 i hi
                · refine (hS.2.2.2.1 s' hs').c ?_ ?_ ?_ ?_ (fun i hi => ?_)
                  · rw [so _ _ (by omega)]
                  · rw [so _ _ (by omega)]
                  · rw [v2 8 (by decide), u2 8 (by decide)]
                  · rw [v2 9 (by decide), u2 9 (by decide)]
                  · rw [v3 _ (by omega), u2 10 (by decide)]
              · rw [if_neg h2, if_pos (show (0 : Int32) = 0 from rfl), if_pos (show (0 : Int32) = 0 from rfl)]
                exact find_ok hS 1 (by decide)
            · rw [if_neg h1, if_pos (show (0 : Int32) = 0 from rfl), if_pos (show (0 : Int32) = 0 from rfl)]
              exact find_ok hS 1 (by decide)
          · rw [if_neg hk, if_neg hk]
            exact find_ok hS 5 (by decide)
end O8
