/-! who sits dark; a new meter -/
/-- a reading's number, or none: the class's way and the model's -/
def LD2 (n : Nat) (x y : Int32) : Prop := (x = -1 ∧ y = -1) ∨ ∃ b, b < n ∧ x = nI b ∧ y = nI (1124 + 4 * b)
theorem nle {a b : Nat} (h : a < b) (hb : b < 2 ^ 31) : ¬ nI b ≤ nI a := fun q => by
  have := (nI_leI hb (by omega)).mp q
  omega
section O6
variable {j : Nat} {μ ν : Mem}
theorem late_loop {h nm ns nl nr nt tl : Nat} (t : TS 1 μ (ν 1) h nm ns nl nr nt tl) (a0 a1 a2 a3 : Int32) : ∀ (z k f f2 : Nat) (x x' : Int32), nr - k < z → k ≤ nr → z ≤ f → z ≤ f2 → LD2 k x x' → ∃ y y', LD2 nr y y' ∧ X3_latest_6 f a0 a1 a2 x (nI k) μ = some (y, μ) ∧ X10_dark_68 f2 a0 a1 a2 a3 x' (nI k) ν = (if 0 ≤ y' then gd (inB (y' + 2) 1944) (X10_dark_204 FU a0 a1 a3 y' (ν 1 (y' + 2).toNatClampNeg) 0 ν) else ob2 (X10_finding 2 ν) fun r26 μ26 => some (r26, μ26)) := by
  have b := t.1
  have e1 : μ 14 4 = nI nr := t.2.2.2.2.2.1.1
  have e2 : ν 1 4 = nI nr := t.2.2.2.2.2.1.2
  have rows : ∀ k, k < nr → μ 15 k = ν 1 (1124 + 4 * k) ∧ μ 16 k = ν 1 (1125 + 4 * k) ∧ μ 17 k = ν 1 (1126 + 4 * k) ∧ μ 18 k = ν 1 (1127 + 4 * k) := t.2.2.2.2.2.2.2.2.2.2.2.1
  intro z
  induction z with
  | zero => intro k f f2 x x' h; omega
  | succ z ih =>
    intro k f f2 x x' hz hk hf hf2 hx
    obtain ⟨f, rfl⟩ : ∃ f1, f = f1 + 1 := ⟨f - 1, by omega⟩
    obtain ⟨f2, rfl⟩ : ∃ f1, f2 = f1 + 1 := ⟨f2 - 1, by omega⟩
    rw [X3_latest_6.eq_2, X10_dark_68.eq_2, e1, e2]
    by_cases hkn : k = nr
    · subst hkn
      rw [if_pos (by rw [i_le]; omega), if_pos (by rw [i_le]; omega)]
      exact ⟨x, x', hx, rfl, rfl⟩
    · obtain ⟨w1, w2, w3, w4⟩ := rows k (by omega)
      have x1 : (1124 : Int32) + 4 * nI k = nI (1124 + 4 * k) := mulL 1124 4 _ rfl
      have x2 : nI (1124 + 4 * k) + 1 = nI (1125 + 4 * k) := addL 1 _ (by omega)
      have x3 : nI (1124 + 4 * k) + 3 = nI (1127 + 4 * k) := addL 3 _ (by omega)
      have hin : inB (nI k) 40 := i_in (by omega) (by omega)
      have hm : ∀ w, w < 4 → inB (nI (1124 + 4 * k + w)) 1944 := fun w hw => i_in (by omega) (by omega)
      rw [if_neg (nle (show k < nr by omega) (by omega)), if_neg (nle (show k < nr by omega) (by omega)), x1, x2, x3]
      simp only [gd_pos hin, gd_pos (show inB (nI (1124 + 4 * k)) 1944 from i_in (by omega) (by omega)), gd_pos (show inB (nI (1125 + 4 * k)) 1944 from i_in (by omega) (by omega)), gd_pos (show inB (nI (1127 + 4 * k)) 1944 from i_in (by omega) (by omega)), i_tn (show k < 2 ^ 31 by omega), i_tn (show 1124 + 4 * k < 2 ^ 31 by omega), i_tn (show 1125 + 4 * k < 2 ^ 31 by omega), i_tn (show 1127 + 4 * k < 2 ^ 31 by omega)]
      rw [w1, w2, w4]
      unfold X3_latest_52 X10_dark_130 X3_latest_53 X10_dark_131 X3_latest_82 X10_dark_164 X10_dark_169 X3_latest_86 X10_dark_171
      rw [if_pos (show (0 : Int32) = 0 from rfl), if_pos (show (0 : Int32) = 0 from rfl), if_neg (show ¬ (1 : Int32) = 0 by decide), if_neg (show ¬ (1 : Int32) = 0 by decide), nI_1, x2]
      have stay := ih (k + 1) f f2 x x' (by omega) (by omega) (by omega) (by omega) (hx.imp_right (fun ⟨l, h1, h2⟩ => ⟨l, by omega, h2⟩))
      have take := ih (k + 1) f f2 (nI k) (nI (1124 + 4 * k)) (by omega) (by omega) (by omega) (by omega) (Or.inr ⟨k, by omega, rfl, rfl⟩)
      by_cases c1 : ν 1 (1124 + 4 * k) = a0
      · rw [if_pos c1, if_pos c1]
        by_cases c2 : a1 < ν 1 (1125 + 4 * k)
        · rw [if_pos c2, if_pos c2]
          exact stay
        · rw [if_neg c2, if_neg c2]
          by_cases c3 : a2 < ν 1 (1127 + 4 * k)
          · rw [if_pos c3, if_pos c3]
            exact stay
          · rw [if_neg c3, if_neg c3]
            rcases hx with ⟨rfl, rfl⟩ | ⟨l, hl, rfl, rfl⟩
            · rw [if_pos (show (-1 : Int32) < 0 by decide), if_pos (show (-1 : Int32) < 0 by decide)]
              exact take
            · have x4 : nI (1124 + 4 * l) + 1 = nI (1125 + 4 * l) := addL 1 _ (by omega)
              rw [if_neg (nI_pos (by omega)), if_neg (nI_pos (by omega)), x4, gd_pos hin, gd_pos (i_in (by omega) (by omega)), gd_pos (i_in (by omega) (by omega)), gd_pos (i_in (by omega) (by omega)), i_tn (by omega), i_tn (by omega), i_tn (by omega), i_tn (by omega), w2, (rows l (by omega)).2.1]
              by_cases c4 : ν 1 (1125 + 4 * k) < ν 1 (1125 + 4 * l)
              · rw [if_pos c4, if_pos c4]
                exact stay
              · rw [if_neg c4, if_neg c4]
                exact take
      · rw [if_neg c1, if_neg c1]
        exact stay
theorem rest_loop {h nm ns nl nr nt tl l : Nat} (t : TS 1 μ (ν 1) h nm ns nl nr nt tl) (hl : l < nr) (a0 a1 a3 v : Int32) : ∀ (z k f f2 : Nat) (x : Int32), nt - k < z → k ≤ nt → z ≤ f → z ≤ f2 → ∃ y, X6_restBetween_6 f a0 (μ 16 l) a1 x (nI k) μ = some (y, μ) ∧ X10_dark_204 f2 a0 a1 a3 (nI (1124 + 4 * l)) (v + x) (nI k) ν = (if 0 ≤ (v + y) - (a3 / 1000) * (a1 - μ 16 l) then (if 0 ≤ (v + y) - (a3 - a3 / 1000 * 1000) * (a1 - μ 16 l) then some (0, ν) else some (1, ν)) else some (2, ν)) := by
  have b := t.1
  have e1 : μ 19 3 = nI nt := t.2.2.2.2.2.2.1.1
  have e2 : ν 1 5 = nI nt := t.2.2.2.2.2.2.1.2
  have w16 : μ 16 l = ν 1 (1125 + 4 * l) := (t.2.2.2.2.2.2.2.2.2.2.2.1 l hl).2.1
  have x4 : nI (1124 + 4 * l) + 1 = nI (1125 + 4 * l) := addL 1 _ (by omega)
  have rows : ∀ k, k < nt → μ 20 k = ν 1 (1284 + 3 * k) ∧ μ 21 k = ν 1 (1285 + 3 * k) ∧ μ 22 k = ν 1 (1286 + 3 * k) := t.2.2.2.2.2.2.2.2.2.2.2.2.1
  intro z
  induction z with
  | zero => intro k f f2 x h; omega
  | succ z ih =>
    intro k f f2 x hz hk hf hf2
    obtain ⟨f, rfl⟩ : ∃ f1, f = f1 + 1 := ⟨f - 1, by omega⟩
    obtain ⟨f2, rfl⟩ : ∃ f1, f2 = f1 + 1 := ⟨f2 - 1, by omega⟩
    rw [X6_restBetween_6.eq_2, X10_dark_204.eq_2, e1, e2, x4]
    by_cases hkn : k = nt
    · subst hkn
      rw [if_pos (by rw [i_le]; omega), if_pos (by rw [i_le]; omega), gd_pos (i_in (by omega) (by omega)), i_tn (by omega), ← w16]
      refine ⟨x, rfl, ?_⟩
      rw [Int32.mul_comm (a1 - μ 16 l) (a3 / 1000), Int32.mul_comm (a1 - μ 16 l) (a3 - a3 / 1000 * 1000)]
    · obtain ⟨w1, w2, w3⟩ := rows k (by omega)
      have x1 : (1284 : Int32) + 3 * nI k = nI (1284 + 3 * k) := mulL 1284 3 _ rfl
      have x2 : nI (1284 + 3 * k) + 1 = nI (1285 + 3 * k) := addL 1 _ (by omega)
      have x3 : nI (1284 + 3 * k) + 2 = nI (1286 + 3 * k) := addL 2 _ (by omega)
      have hin : inB (nI k) 200 := i_in (by omega) (by omega)
      rw [if_neg (nle (show k < nt by omega) (by omega)), if_neg (nle (show k < nt by omega) (by omega)), x1, x2, x3, gd_pos hin, gd_pos hin, gd_pos hin, gd_pos hin, gd_pos (show inB (nI (1284 + 3 * k)) 1944 from i_in (by omega) (by omega)), gd_pos (show inB (nI (1285 + 3 * k)) 1944 from i_in (by omega) (by omega)), gd_pos (show inB (nI (1125 + 4 * l)) 1944 from i_in (by omega) (by omega)), gd_pos (show inB (nI (1285 + 3 * k)) 1944 from i_in (by omega) (by omega)), gd_pos (show inB (nI (1286 + 3 * k)) 1944 from i_in (by omega) (by omega)), i_tn (show k < 2 ^ 31 by omega), i_tn (show 1284 + 3 * k < 2 ^ 31 by omega), i_tn (show 1285 + 3 * k < 2 ^ 31 by omega), i_tn (show 1286 + 3 * k < 2 ^ 31 by omega), i_tn (show 1125 + 4 * l < 2 ^ 31 by omega), w1, w2, w3, ← w16]
      unfold X6_restBetween_60 X10_dark_284 X10_dark_285
      rw [nI_1, Int32.add_zero]
      have stay := ih (k + 1) f f2 x (by omega) (by omega) (by omega) (by omega)
      have more := ih (k + 1) f f2 (x + ν 1 (1286 + 3 * k)) (by omega) (by omega) (by omega) (by omega)
      by_cases c1 : ν 1 (1284 + 3 * k) = a0
      · rw [if_pos c1, if_pos c1]
        by_cases c2 : ν 1 (1285 + 3 * k) < μ 16 l
        · rw [if_pos c2, if_pos c2]
          exact stay
        · rw [if_neg c2, if_neg c2]
          by_cases c3 : a1 ≤ ν 1 (1285 + 3 * k)
          · rw [if_pos c3, if_pos c3]
            exact stay
          · rw [if_neg c3, if_neg c3, Int32.add_assoc]
            exact more
      · rw [if_neg c1, if_neg c1]
        exact stay
theorem op_dark (a0 a1 a2 a3 : Int32) (hS : Sim j μ ν) : ∃ r μ2 ν2, X9_dark a0 a1 a2 a3 μ = some (r, μ2) ∧ X10_dark a0 a1 a2 a3 ν = some (r, ν2) ∧ Sim (j + 1) μ2 ν2 := by
  obtain ⟨⟨h, nm, ns, nl, nr, nt, tl, t⟩, o⟩ := id hS
  have b := t.1
  have hFU := FU_ge
  have e14 : μ 14 4 = nI nr := t.2.2.2.2.2.1.1
  unfold X9_dark X10_dark
  rcases isM t a0 with ⟨i, hi, rfl, e1, e2⟩ | ⟨e1, e2⟩
  · rw [ob2_of e1, ob2_of e2, if_neg (show ¬ (1 : Int32) = 0 by decide), if_neg (show ¬ (1 : Int32) = 0 by decide), ob2_of (isHour_rg _ _), ob2_of (in_r (a := 0) (b := 9000) (by decide) (by decide) _)]
    rcases rg_cases a1 0 9000 with ⟨r, -⟩ | ⟨r, -, -⟩
    · rw [r, if_pos (show (0 : Int32) = 0 from rfl), if_pos (show (0 : Int32) = 0 from rfl)]
      exact find_ok hS 1 (by decide)
    · rw [r, if_neg (show ¬ (1 : Int32) = 0 by decide), if_neg (show ¬ (1 : Int32) = 0 by decide), ob2_of (isHour_rg _ _), ob2_of (in_r (a := 0) (b := 9000) (by decide) (by decide) _)]
      rcases rg_cases a2 0 9000 with ⟨r, -⟩ | ⟨r, -, -⟩
      · rw [r, if_pos (show (0 : Int32) = 0 from rfl), if_pos (show (0 : Int32) = 0 from rfl)]
        exact find_ok hS 1 (by decide)
      · rw [r, if_neg (show ¬ (1 : Int32) = 0 by decide), if_neg (show ¬ (1 : Int32) = 0 by decide), ob2_of (in_rg _ _ _ _), rng_if]
        rcases rg_cases a3 (0 : Int32).toInt (999999 : Int32).toInt with ⟨r, -⟩ | ⟨r, -, -⟩
        · rw [r, if_pos (show (0 : Int32) = 0 from rfl), if_pos (show (0 : Int32) = 0 from rfl)]
          exact find_ok hS 1 (by decide)
        · rw [r, if_neg (show ¬ (1 : Int32) = 0 by decide), if_neg (show ¬ (1 : Int32) = 0 by decide)]
          by_cases hq : a3 / 1000 ≤ a3 - a3 / 1000 * 1000
          · rw [if_pos hq, if_pos hq]
            obtain ⟨y, y', hy, y1, y2⟩ := late_loop t (nI i) a1 a2 a3 100 0 FU FU (-1) (-1) (by omega) (by omega) (by omega) (by omega) (Or.inl ⟨rfl, rfl⟩)
            have y1' : X3_latest (nI i) a1 a2 μ = some (y, μ) := y1
            have y2' : X10_dark_68 FU (nI i) a1 a2 a3 (-1) 0 ν = _ := y2
            rw [ob2_of y1', y2']
            unfold X3_has
            rw [e14]
            rcases hy with ⟨rfl, rfl⟩ | ⟨l, hl, rfl, rfl⟩
            · rw [if_pos (show (-1 : Int32) < 0 by decide), ob2_of rfl, if_pos (show (0 : Int32) = 0 from rfl), if_neg (show ¬ (0 : Int32) ≤ -1 by decide)]
              exact find_ok hS 2 (by decide)
            · have x2 : nI (1124 + 4 * l) + 2 = nI (1126 + 4 * l) := addL 2 _ (by omega)
              have w17 : μ 17 l = ν 1 (1126 + 4 * l) := (t.2.2.2.2.2.2.2.2.2.2.2.1 l hl).2.2.1
              obtain ⟨y, z1, z2⟩ := rest_loop t hl (nI i) a1 a3 (μ 17 l) 300 0 FU FU 0 (by omega) (by omega) (by omega) (by omega)
              have z1' : X6_restBetween (nI i) (μ 16 l) a1 μ = some (y, μ) := z1
              rw [Int32.add_zero] at z2
              have z2' : X10_dark_204 FU (nI i) a1 a3 (nI (1124 + 4 * l)) (μ 17 l) 0 ν = _ := z2
              rw [if_neg (nI_pos (show l < 2 ^ 31 by omega)), if_neg (nle hl (by omega)), ob2_of rfl, if_neg (show ¬ (1 : Int32) = 0 by decide), gd_pos (i_in (by omega) (by omega)), gd_pos (i_in (by omega) (by omega)), i_tn (by omega), ob2_of z1', if_pos (nI_pos' (by omega)), x2, gd_pos (i_in (by omega) (by omega)), i_tn (by omega), ← w17, z2']
              by_cases c1 : 0 ≤ (μ 17 l + y) - (a3 / 1000) * (a1 - μ 16 l)
              · rw [if_pos c1, if_pos c1]
                by_cases c2 : 0 ≤ (μ 17 l + y) - (a3 - a3 / 1000 * 1000) * (a1 - μ 16 l)
                · rw [if_pos c2, if_pos c2]
                  exact ⟨_, _, _, rfl, rfl, hS.up⟩
                · rw [if_neg c2, if_neg c2]
                  exact ⟨_, _, _, rfl, rfl, hS.up⟩
              · rw [if_neg c1, if_neg c1]
                exact ⟨_, _, _, rfl, rfl, hS.up⟩
          · rw [if_neg hq, if_neg hq]
            exact find_ok hS 1 (by decide)
  · rw [ob2_of e1, ob2_of e2, if_pos rfl, if_pos rfl]
    exact find_ok hS 1 (by decide)
/-! a new meter -/
theorem begin_loop (c : Nat) : ∀ (z k f : Nat) (μ : Mem), 24 - k < z → k ≤ 24 → z ≤ f → ∃ μ2, X2_begin_79 f c (nI k) μ = some μ2 ∧ (∀ a, a ≠ c + 1 → μ2 a = μ a) ∧ (∀ i, i < k → μ2 (c + 1) i = μ (c + 1) i) ∧ ∀ i, k ≤ i → i < 24 → μ2 (c + 1) i = 1 := by
  intro z
  induction z with
  | zero => intro k f μ h; omega
  | succ z ih =>
    intro k f μ hz hk hf
    obtain ⟨f, rfl⟩ : ∃ f1, f = f1 + 1 := ⟨f - 1, by omega⟩
    rw [X2_begin_79.eq_2]
    by_cases hkn : k = 24
    · subst hkn
      rw [if_pos (show (24 : Int32) ≤ nI 24 by decide)]
      exact ⟨μ, rfl, fun _ _ => rfl, fun _ _ => rfl, fun i h1 h2 => by omega⟩
    · rw [if_neg (show ¬ (24 : Int32) ≤ nI k from fun q => by have := (nI_leI (a := 24) (by decide) (by omega)).mp q; omega), gd_pos (i_in (by omega) (by omega)), i_tn (by omega), lt_of, nI_1]
      obtain ⟨μ2, c1, c2, c3, c4⟩ := ih (k + 1) f (st μ (c + 1) k 1) (by omega) (by omega) (by omega)
      refine ⟨μ2, c1, fun a ha => (c2 a ha).trans (st_other _ _ _ ha), fun i hi => ?_, fun i h1 h2 => ?_⟩
      · rw [c3 i (by omega), st_ne (by omega)]
      · by_cases hik : i = k
        · subst hik
          rw [c3 _ (by omega), st_eq]
        · exact c4 i (by omega) h2
def newF (i k p q : Int32) : Nat → Int32 := fun j => if j = 1 then i else if j = 2 then k else if j = 3 then p else if j = 4 then q else if j = 8 then 1 else if j = 14 then -1 else 0
theorem begin_ok (c : Nat) (i k x : Int32) : ∃ μ2, X2_begin c i k x μ = some μ2 ∧ (∀ a, a ≠ c → a ≠ c + 1 → μ2 a = μ a) ∧ (∀ j, 1 ≤ j → j < 15 → μ2 c j = newF i k (x / 100) (x - x / 100 * 100) j) ∧ ∀ w, w < 24 → μ2 (c + 1) w = 1 := by
  have hFU := FU_ge
  unfold X2_begin
  rw [lt_of, lt_of, lt_of, lt_of, lt_of, lt_of, lt_of, lt_of, lt_of, lt_of, lt_of, lt_of, lt_of, lt_of]
  generalize x / 100 = p
  generalize x - p * 100 = q
  obtain ⟨μ2, c1, c2, -, c4⟩ := begin_loop c 100 0 FU (st (st (st (st (st (st (st (st (st (st (st (st (st (st μ c 1 i) c 2 k) c 3 p) c 4 q) c 5 0) c 6 0) c 7 0) c 8 1) c 9 0) c 10 0) c 11 0) c 12 0) c 13 0) c 14 (-1)) (by omega) (by omega) (by omega)
  refine ⟨μ2, c1, fun a h1 h2 => ?_, fun j h1 h2 => ?_, fun w hw => c4 w (by omega) hw⟩
  · rw [c2 a h2]
    simp only [st_other _ _ _ h1]
  · rw [c2 c (by omega)]
    unfold newF
    rcases (show j = 1 ∨ j = 2 ∨ j = 3 ∨ j = 4 ∨ j = 5 ∨ j = 6 ∨ j = 7 ∨ j = 8 ∨ j = 9 ∨ j = 10 ∨ j = 11 ∨ j = 12 ∨ j = 13 ∨ j = 14 by omega) with rfl | rfl | rfl | rfl | rfl | rfl | rfl | rfl | rfl | rfl | rfl | rfl | rfl | rfl <;> simp [st_at]
def MT (x1 x2 x3 : Int32) (μ : Mem) : Option (Int32 × Mem) := ob (X10_set x3 0 x1 μ) fun μ8 => ob (X10_set x3 1 (x2 / 100) μ8) fun μ9 => ob (X10_set x3 2 (x2 - x2 / 100 * 100) μ9) fun μ10 => ob (X10_set x3 6 1 μ10) fun μ11 => ob2 (X10_forceIn 0 (μ11 1 0) μ11) fun r12 μ12 => ob (X10_set x3 12 r12 μ12) fun μ13 => lt (st μ13 1 1 ((μ13 1 1) + 1)) fun μ14 => some (x3, μ14)
theorem newm_loop {i : Nat} (hi : i < 8) (x1 x2 : Int32) : ∀ (z k f : Nat) (ν : Mem), 40 - k < z → k ≤ 40 → z ≤ f → ∃ ν2, X10_meter_49 f x1 x2 (nI i) (nI k) ν = MT x1 x2 (nI i) ν2 ∧ (∀ a, a ≠ 1 → ν2 a = ν a) ∧ (∀ w, (w < 16 + 40 * i + k ∨ 56 + 40 * i ≤ w) → ν2 1 w = ν 1 w) ∧ ∀ w, k ≤ w → w < 40 → ν2 1 (16 + 40 * i + w) = if w < 13 ∨ 37 ≤ w then 0 else 1 := by
  intro z
  induction z with
  | zero => intro k f μ h; omega
  | succ z ih =>
    intro k f ν hz hk hf
    obtain ⟨f, rfl⟩ : ∃ f1, f = f1 + 1 := ⟨f - 1, by omega⟩
    rw [X10_meter_49.eq_2]
    by_cases hkn : k = 40
    · subst hkn
      rw [if_pos (show (40 : Int32) ≤ nI 40 by decide)]
      exact ⟨ν, rfl, fun _ _ => rfl, fun _ _ => rfl, fun w h1 h2 => by omega⟩
    · rw [if_neg (show ¬ (40 : Int32) ≤ nI k from fun q => by have := (nI_leI (a := 40) (by decide) (by omega)).mp q; omega)]
      have key : (if nI k < 13 then X10_meter_78 (X10_meter_49 f) x1 x2 (nI i) (nI k) (nI i) (nI k) ν else (if 37 ≤ nI k then X10_meter_78 (X10_meter_49 f) x1 x2 (nI i) (nI k) (nI i) (nI k) ν else X10_meter_79 (X10_meter_49 f) x1 x2 (nI i) (nI k) (nI i) (nI k) 1 ν)) = X10_meter_49 f x1 x2 (nI i) (nI (k + 1)) (st ν 1 (16 + 40 * i + k) (if k < 13 ∨ 37 ≤ k then 0 else 1)) := by
        unfold X10_meter_78 X10_meter_79
        rw [ob_of (set_ok (w := k) hi (by omega) _ _), ob_of (set_ok (w := k) hi (by omega) _ _), nI_1]
        by_cases h1 : k < 13
        · rw [if_pos (show nI k < 13 from nI_lt (b := 13) h1 (by decide)), if_pos (Or.inl h1)]
        · rw [if_neg (show ¬ nI k < 13 from fun q => h1 ((nI_ltI (b := 13) (by omega) (by decide)).mp q))]
          by_cases h2 : 37 ≤ k
          · rw [if_pos (show (37 : Int32) ≤ nI k from nI_le (a := 37) h2 (by omega)), if_pos (Or.inr h2)]
          · rw [if_neg (show ¬ (37 : Int32) ≤ nI k from fun q => h2 ((nI_leI (a := 37) (by decide) (by omega)).mp q)), if_neg (by omega)]
      rw [key]
      obtain ⟨ν2, c1, c2, c3, c4⟩ := ih (k + 1) f (st ν 1 (16 + 40 * i + k) (if k < 13 ∨ 37 ≤ k then 0 else 1)) (by omega) (by omega) (by omega)
      refine ⟨ν2, c1, fun a ha => (c2 a ha).trans (st_other _ _ _ ha), fun w hw => ?_, fun w h1 h2 => ?_⟩
      · rw [c3 w (by omega), st_ne (by omega)]
      · by_cases hik : w = k
        · subst hik
          rw [c3 _ (by omega), st_eq]
        · exact c4 w (by omega) h2
theorem newm_ok {i : Nat} {r k p q : Int32} (hi : i < 8) (hz : ∀ w, w < 40 → ν 1 (16 + 40 * i + w) = if w < 13 ∨ 37 ≤ w then 0 else 1) : ∀ w, w < 12 → st (st (st (st (st ν 1 (16 + 40 * i + 0) k) 1 (16 + 40 * i + 1) p) 1 (16 + 40 * i + 2) q) 1 (16 + 40 * i + 6) 1) 1 (16 + 40 * i + 12) r 1 (16 + 40 * i + w) = newF (nI i) k p q (w + 2) := by
  intro w hw
  unfold newF
  rcases (show w = 0 ∨ w = 1 ∨ w = 2 ∨ w = 3 ∨ w = 4 ∨ w = 5 ∨ w = 6 ∨ w = 7 ∨ w = 8 ∨ w = 9 ∨ w = 10 ∨ w = 11 by omega) with rfl | rfl | rfl | rfl | rfl | rfl | rfl | rfl | rfl | rfl | rfl | rfl <;> simp [st_at, hz]
theorem op_meter (a0 a1 : Int32) (hS : Sim j μ ν) : ∃ r μ2 ν2, X9_meter a0 a1 μ = some (r, μ2) ∧ X10_meter a0 a1 ν = some (r, ν2) ∧ Sim (j + 1) μ2 ν2 := by
  obtain ⟨⟨h, nm, ns, nl, nr, nt, tl, t⟩, o⟩ := id hS
  have b := t.1
  have hFU := FU_ge
  have n1 : μ 1 6 = nI nm := t.2.2.1.1
  have n2 : ν 1 1 = nI nm := t.2.2.1.2
  have hh : μ 1 8 = nI h := t.2.1.1
  have hh2 : ν 1 0 = nI h := t.2.1.2
  unfold X9_meter X10_meter
  rw [ob2_of (isKind_rg _ _), ob2_of (in_r (a := 0) (b := 5) (by decide) (by decide) _)]
  rcases rg_cases a0 0 5 with ⟨r, -⟩ | ⟨r, r1, r2⟩
  · rw [r, if_pos (show (0 : Int32) = 0 from rfl), if_pos (show (0 : Int32) = 0 from rfl)]
    exact find_ok hS 1 (by decide)
  · obtain ⟨kd, hkd, rfl, -⟩ := to_nat (x := a0) (hi := 5) ⟨r1, r2⟩ (by decide)
    rw [r, if_neg (show ¬ (1 : Int32) = 0 by decide), if_neg (show ¬ (1 : Int32) = 0 by decide)]
    rcases place_ok a1 with hp | ⟨p, q, hp, hq, p1, p2, hp2⟩
    · rw [ob2_of (hp μ).1, ob2_of (hp ν).2, if_pos rfl, if_pos rfl]
      exact find_ok hS 1 (by decide)
    · rw [ob2_of (hp2 μ).1, ob2_of (hp2 ν).2, if_neg (show ¬ (1 : Int32) = 0 by decide), if_neg (show ¬ (1 : Int32) = 0 by decide), n1, n2]
      by_cases h8 : nm = 8
      · rw [h8, if_neg (show ¬ nI 8 < 8 by decide), if_pos (show nI 8 = 8 from rfl)]
        exact find_ok hS 4 (by decide)
      · have hlt : nI nm < 8 := nI_lt (b := 8) (by omega) (by decide)
        rw [if_pos hlt, if_neg (show ¬ nI nm = 8 from fun q => h8 ((nI_eq (b := 8) (by omega) (by decide)).mp q))]
        unfold X7_addMeter
        obtain ⟨μ2, c1, c2, c3, c4⟩ := begin_ok (μ := μ) (24 + 2 * nm) (nI nm) (nI kd) a1
        have hL := t.2.2.2.2.1
        have hl := hL.1
        have L2 : LR μ2 1 (ν 1) nl := hL.c (fun a q1 q2 => c2 a (by omega) (by omega)) (fun _ _ => rfl)
        obtain ⟨lr, hld, u1, -⟩ := rul_ok L2 0 (nI h)
        have hh' : μ2 1 8 = nI h := by rw [c2 1 (by omega) (by omega)]; exact hh
        obtain ⟨ν2, d1, d2, d3, d4⟩ := newm_loop (i := nm) (by omega) (nI kd) a1 100 0 FU ν (by omega) (by omega) (by omega)
        have d1' : X10_meter_49 FU (nI kd) a1 (nI nm) 0 ν = _ := d1
        rw [n1, if_pos hlt, gd_pos (i_in (by omega) (by omega)), i_tn (by omega), ob_of c1, hh', ob2_of u1, lt_of, lt_of, d1']
        rw [p2, p1] at c3
        unfold MT
        rw [p2, p1, ob_of (set_ok (w := 0) (by omega) (by decide) _ _), ob_of (set_ok (w := 1) (by omega) (by decide) _ _), ob_of (set_ok (w := 2) (by omega) (by decide) _ _), ob_of (set_ok (w := 6) (by omega) (by decide) _ _)]
        generalize hν3 : st (st (st (st ν2 1 (16 + 40 * nm + 0) (nI kd)) 1 (16 + 40 * nm + 1) (nI p)) 1 (16 + 40 * nm + 2) (nI q)) 1 (16 + 40 * nm + 6) 1 = ν3
        have o3 : ∀ w, (w < 16 + 40 * nm ∨ 56 + 40 * nm ≤ w) → ν3 1 w = ν 1 w := fun w hw => by
          rw [← hν3, st_ne (by omega), st_ne (by omega), st_ne (by omega), st_ne (by omega)]
          exact d3 w (by omega)
        have m3 : ∀ a, a ≠ 1 → ν3 a = ν a := fun a ha => by
          rw [← hν3, st_other _ _ _ ha, st_other _ _ _ ha, st_other _ _ _ ha, st_other _ _ _ ha]
          exact d2 a ha
        have L3 : LR μ2 1 (ν3 1) nl := hL.c (fun a q1 q2 => c2 a (by omega) (by omega)) (fun w hw => o3 w (by omega))
        obtain ⟨lr2, hld2, v1, v2⟩ := rul_ok L3 0 (nI h)
        rw [u1] at v1
        obtain rfl : lr = lr2 := by injection v1 with v1; exact congrArg Prod.fst v1
        rw [o3 0 (by omega), hh2, ob2_of v2, ob_of (set_ok (w := 12) (by omega) (by decide) _ _), lt_of]
        have g1 : st μ2 (24 + 2 * nm) 14 lr 1 6 = nI nm := by rw [st_ne (by omega), c2 1 (by omega) (by omega)]; exact n1
        have g2 : st ν3 1 (16 + 40 * nm + 12) lr 1 1 = nI nm := by rw [st_ne (by omega), o3 1 (by omega)]; exact n2
        rw [g1, g2, nI_1]
        have nw := newm_ok (r := lr) (k := nI kd) (p := nI p) (q := nI q) (show nm < 8 by omega) (fun w hw => d4 w (by omega) hw)
        rw [hν3] at nw
        generalize hμ3 : st (st μ2 (24 + 2 * nm) 14 lr) 1 6 (nI (nm + 1)) = μ3
        generalize hν4 : st (st ν3 1 (16 + 40 * nm + 12) lr) 1 1 (nI (nm + 1)) = ν4
        have x1 : ∀ a, a ≠ 1 → a ≠ 24 + 2 * nm → a ≠ 25 + 2 * nm → μ3 a = μ a := fun a q1 q2 q3 => by
          rw [← hμ3, st_other _ _ _ q1, st_other _ _ _ q2, c2 a q2 (by omega)]
        have x2 : ∀ i, i ≠ 6 → μ3 1 i = μ 1 i := fun i hi => by
          rw [← hμ3, st_ne (by omega), st_ne (by omega), c2 1 (by omega) (by omega)]
        have x3 : ∀ i, 1 ≤ i → i < 14 → μ3 (24 + 2 * nm) i = newF (nI nm) (nI kd) (nI p) (nI q) i := fun i q1 q2 => by
          rw [← hμ3, st_ne (by omega), st_ne (by omega)]
          exact c3 i q1 (by omega)
        have x4 : μ3 (24 + 2 * nm) 14 = lr := by
          rw [← hμ3, st_ne (by omega), st_eq]
        have x5 : ∀ w, w < 24 → μ3 (24 + 2 * nm + 1) w = 1 := fun w hw => by
          rw [← hμ3, st_other _ _ _ (by omega), st_other _ _ _ (by omega)]
          exact c4 w hw
        have y1 : ∀ a, a ≠ 1 → ν4 a = ν a := fun a ha => by
          rw [← hν4, st_other _ _ _ ha, st_other _ _ _ ha, m3 a ha]
        have y2 : ∀ w, w ≠ 1 → (w < 16 + 40 * nm ∨ 56 + 40 * nm ≤ w) → ν4 1 w = ν 1 w := fun w q1 q2 => by
          rw [← hν4, st_ne (by omega), st_ne (by omega), o3 w q2]
        have y3 : ∀ w, w < 12 → ν4 1 (16 + 40 * nm + w) = newF (nI nm) (nI kd) (nI p) (nI q) (w + 2) := fun w hw => by
          rw [← hν4, st_ne (by omega)]
          exact nw w hw
        have y4 : ν4 1 (16 + 40 * nm + 12) = lr := by
          rw [← hν4, st_ne (by omega), st_eq]
        have y5 : ∀ w, w < 24 → ν4 1 (16 + 40 * nm + (13 + w)) = 1 := fun w hw => by
          rw [← hν4, st_ne (by omega), st_ne (by omega), ← hν3, st_ne (by omega), st_ne (by omega), st_ne (by omega), st_ne (by omega), d4 _ (by omega) (by omega), if_neg (by omega)]
        refine ⟨nI nm, μ3, ν4, by rw [ob2_of rfl, x3 1 (by omega) (by omega)]; rfl, rfl, ?_⟩
        obtain ⟨⟨b1, b2, b3, b4, b5, b6⟩, h1, h2, h3, h4, h5, h6, h7, h8', h9, h10, h11, h12, h13⟩ := t
        refine ⟨⟨h, nm + 1, ns, nl, nr, nt, tl, ⟨b1, by omega, b3, b4, b5, b6⟩, ?_, ?_, ?_, h4.c (fun a q1 q2 => x1 a (by omega) (by omega) (by omega)) (fun w hw => y2 w (by omega) (by omega)), ?_, ?_, ?_, ?_, fun i hi => ?_, fun s hs => ?_, fun r hr => ?_, fun k hk => ?_, fun k hk => ?_⟩, o.fr (fun a ha => x1 a (by omega) (by omega) (by omega)) ⟨fun a ha => y1 a (by omega), fun k _ => by rw [y1 0 (by decide)]⟩⟩
        · rw [x2 8 (by omega), y2 0 (by omega) (by omega)]; exact h1
        · rw [← hμ3, ← hν4]; exact ⟨st_eq, st_eq⟩
        · rw [x1 (1 + 2) (by omega) (by omega) (by omega), y2 2 (by omega) (by omega)]; exact h3
        · rw [x1 (1 + 13) (by omega) (by omega) (by omega), y2 4 (by omega) (by omega)]; exact h5
        · rw [x1 (1 + 18) (by omega) (by omega) (by omega), y2 5 (by omega) (by omega)]; exact h6
        · rw [x2 7 (by omega), y2 6 (by omega) (by omega)]; exact h7
        · rw [x1 (1 + 18) (by omega) (by omega) (by omega), y2 7 (by omega) (by omega), y2 8 (by omega) (by omega)]; exact h8'
        · by_cases him : i = nm
          · subst him
            rw [show 1 + 23 + 2 * i = 24 + 2 * i by omega]
            refine ⟨?_, fun w hw => ?_, Or.inr ?_, fun w hw => ?_, ?_⟩
            · rw [x3 1 (by omega) (by omega)]; rfl
            · dsimp only
              rw [y3 w hw, x3 (w + 2) (by omega) (by omega)]
            · dsimp only
              rw [y4, x4]
            · dsimp only
              rw [y5 w hw, x5 w hw]
            · unfold MB
              rw [x3 2 (by omega) (by omega), x3 3 (by omega) (by omega), x3 4 (by omega) (by omega), x3 6 (by omega) (by omega), x3 7 (by omega) (by omega), x3 8 (by omega) (by omega), x3 9 (by omega) (by omega), x4]
              exact ⟨⟨kd, by omega, rfl⟩, ⟨p, hp, rfl⟩, ⟨q, hq, rfl⟩, ⟨0, by omega, rfl⟩, ⟨0, by omega, rfl⟩, Or.inr rfl, Or.inl rfl, hld⟩
          · exact (h9 i (by omega)).cong (x1 _ (by omega) (by omega) (by omega)) (x1 _ (by omega) (by omega) (by omega)) (fun w hw => y2 _ (by omega) (by omega))
        · exact (h10 s hs).c (by rw [x1 _ (by omega) (by omega) (by omega)]) (by rw [x1 _ (by omega) (by omega) (by omega)]) (by rw [x1 _ (by omega) (by omega) (by omega)]) (by rw [x1 _ (by omega) (by omega) (by omega)]) (fun w q1 q2 => y2 w (by omega) (by omega))
        · exact (h11 r hr).c (by rw [x1 _ (by omega) (by omega) (by omega)]) (by rw [x1 _ (by omega) (by omega) (by omega)]) (by rw [x1 _ (by omega) (by omega) (by omega)]) (by rw [x1 _ (by omega) (by omega) (by omega)]) (fun w q1 q2 => y2 w (by omega) (by omega))
        · exact (h12 k hk).c (by rw [x1 _ (by omega) (by omega) (by omega)]) (by rw [x1 _ (by omega) (by omega) (by omega)]) (by rw [x1 _ (by omega) (by omega) (by omega)]) (fun w q1 q2 => y2 w (by omega) (by omega))
        · exact (h13 k hk).c (by rw [x1 _ (by omega) (by omega) (by omega)]) (y2 _ (by omega) (by omega))
end O6
