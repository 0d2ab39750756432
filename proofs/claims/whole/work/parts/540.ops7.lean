/-! a new law -/
theorem app_lo : ∀ (cs : List Int32) (cd : Nat → Int32) (cnt k : Nat), k < cnt → app cd cnt cs k = cd k
  | [], _, _, _, _ => rfl
  | c :: cs, cd, cnt, k, h => by
    show app (upd cd cnt c) (cnt + 1) cs k = cd k
    rw [app_lo cs _ _ _ (by omega), pk_un (by omega)]
theorem app_at : ∀ (cs : List Int32) (cd : Nat → Int32) (cnt k : Nat) (h : k < cs.length), app cd cnt cs (cnt + k) = cs[k]
  | c :: cs, cd, cnt, 0, h => by
    show app (upd cd cnt c) (cnt + 1) cs (cnt + 0) = c
    rw [app_lo cs _ _ _ (by omega)]
    exact pk_us
  | c :: cs, cd, cnt, k + 1, h => by
    have hk : k < cs.length := by
      simp only [List.length_cons] at h
      omega
    show app (upd cd cnt c) (cnt + 1) cs (cnt + (k + 1)) = cs[k]
    have := app_at cs (upd cd cnt c) (cnt + 1) k hk
    rw [← this]
    congr 1
    omega
theorem MR.mono {i nl nl2 : Nat} {f lo q : Nat → Int32} (h : MR i nl f lo q) (hn : nl ≤ nl2) : MR i nl2 f lo q := by
  obtain ⟨r1, r2, r3, r4, b1, b2, b3, b4, b5, b6, b7, b8⟩ := h
  exact ⟨r1, r2, r3, r4, b1, b2, b3, b4, b5, b6, b7, b8.imp_right (fun ⟨l, h1, h2⟩ => ⟨l, by omega, h2⟩)⟩
theorem law_copy {n nl : Nat} (hn : n ≤ 60) (hl : nl < 12) : ∀ (z k f : Nat) (ν : Mem), n - k < z → k ≤ n → z ≤ f → ν 1 3 = nI nl → ∃ ν2, X10_law_129 f (nI n) (nI nl) (nI k) ν = some (nI nl, st ν2 1 3 (nI (nl + 1))) ∧ (∀ a, a ≠ 1 → ν2 a = ν a) ∧ (∀ w, (w < 404 + 60 * nl + k ∨ 404 + 60 * nl + n ≤ w) → ν2 1 w = ν 1 w) ∧ ∀ i, k ≤ i → i < n → ν2 1 (404 + 60 * nl + i) = ν 1 (1884 + i) := by
  intro z
  induction z with
  | zero => intro k f μ h; omega
  | succ z ih =>
    intro k f ν hz hk hf h3
    obtain ⟨f, rfl⟩ : ∃ f1, f = f1 + 1 := ⟨f - 1, by omega⟩
    rw [X10_law_129.eq_2]
    by_cases hkn : k = n
    · subst hkn
      rw [if_pos (by rw [i_le]; omega), lt_of, h3, nI_1]
      exact ⟨ν, rfl, fun _ _ => rfl, fun _ _ => rfl, fun i h1 h2 => by omega⟩
    · have e1 : (1884 : Int32) + nI k = nI (1884 + k) := nI_add 1884 k
      have e2 : (404 : Int32) + 60 * nI nl = nI (404 + 60 * nl) := mulL 404 60 _ rfl
      rw [if_neg (nle (show k < n by omega) (by omega)), e1, e2, nI_add, gd_pos (show inB (nI (1884 + k)) 1944 from i_in (by omega) (by omega)), gd_pos (show inB (nI (404 + 60 * nl + k)) 1944 from i_in (by omega) (by omega)), i_tn (show 1884 + k < 2 ^ 31 by omega), i_tn (show 404 + 60 * nl + k < 2 ^ 31 by omega), lt_of, nI_1]
      obtain ⟨ν2, c1, c2, c3, c4⟩ := ih (k + 1) f (st ν 1 (404 + 60 * nl + k) (ν 1 (1884 + k))) (by omega) (by omega) (by omega) (by rw [st_ne (by omega)]; exact h3)
      refine ⟨ν2, c1, fun a ha => (c2 a ha).trans (st_other _ _ _ ha), fun w hw => ?_, fun i h1 h2 => ?_⟩
      · rw [c3 w (by omega), st_ne (by omega)]
      · by_cases hik : i = k
        · subst hik
          rw [c3 _ (by omega), st_eq]
        · rw [c4 i (by omega) h2, st_ne (by omega)]
section O7
variable {j : Nat} {μ ν : Mem}
theorem addlaw_c {nl : Nat} (h : μ 8 5 = nI nl) (hn : nl < 12) (x1 x2 : Int32) : ∃ μ2, X1_add x1 x2 μ = some (nI nl, μ2) ∧ (∀ a, (a < 8 ∨ 12 < a) → μ2 a = μ a) ∧ μ2 8 5 = nI (nl + 1) ∧ μ2 9 nl = x1 ∧ μ2 10 nl = x2 ∧ μ2 11 nl = μ 81 1 ∧ (∀ k, k < 60 → μ2 12 (60 * nl + k) = μ 82 k) ∧ ∀ l, l < nl → μ2 9 l = μ 9 l ∧ μ2 10 l = μ 10 l ∧ μ2 11 l = μ 11 l ∧ ∀ k, k < 60 → μ2 12 (60 * l + k) = μ 12 (60 * l + k) := by
  have hin : inB (nI nl) 12 := i_in (by omega) (by omega)
  have e60 : nI nl * 60 = nI (60 * nl) := by rw [show (60 : Int32) = nI 60 from rfl, pk_mul, Nat.mul_comm]
  unfold X1_add
  rw [h, if_pos (show nI nl < 12 from nI_lt (b := 12) hn (by decide)), gd_pos hin, i_tn (by omega)]
  simp only [lt_of, st_ne (show ¬ (8 = 9 ∧ 5 = nl) by omega), st_ne (show ¬ (8 = 10 ∧ 5 = nl) by omega), st_ne (show ¬ (8 = 11 ∧ 5 = nl) by omega), st_ne (show ¬ (81 = 9 ∧ 1 = nl) by omega), st_ne (show ¬ (81 = 10 ∧ 1 = nl) by omega), h, gd_pos hin, i_tn (show nl < 2 ^ 31 by omega), e60, i_tn (show 60 * nl < 2 ^ 31 by omega)]
  rw [gd_pos ⟨by decide, by rw [i_n _ (by omega)]; omega, by decide, by decide, by rw [i_n _ (by omega)]; show (60 * nl : Nat) + (60 : Int) ≤ 720; omega⟩]
  generalize hm : st (st (st μ 9 nl x1) 10 nl x2) 11 nl (μ 81 1) = m
  have m85 : m 8 5 = nI nl := by rw [← hm, st_ne (by omega), st_ne (by omega), st_ne (by omega)]; exact h
  have m82 : m 82 = μ 82 := by rw [← hm, st_other _ _ _ (by omega), st_other _ _ _ (by omega), st_other _ _ _ (by omega)]
  have m12 : m 12 = μ 12 := by rw [← hm, st_other _ _ _ (by omega), st_other _ _ _ (by omega), st_other _ _ _ (by omega)]
  have so : ∀ (F : Nat → Int32) a, a ≠ 12 → str m 12 F a = m a := fun F a ha => str_other _ _ ha
  have ss : ∀ (F : Nat → Int32), str m 12 F 12 = F := fun F => str_same _ _ _
  rw [so _ 8 (by decide), m85, st_eq, nI_1, nI_pred]
  refine ⟨_, rfl, fun a ha => ?_, ?_, ?_, ?_, ?_, fun k hk => ?_, fun l hl => ⟨?_, ?_, ?_, fun k hk => ?_⟩⟩
  · rw [st_other _ _ _ (by omega), so _ _ (by omega), ← hm, st_other _ _ _ (by omega), st_other _ _ _ (by omega), st_other _ _ _ (by omega)]
  · rw [st_eq]
  · rw [st_other _ _ _ (by omega), so _ _ (by omega), ← hm, st_ne (by omega), st_ne (by omega), st_eq]
  · rw [st_other _ _ _ (by omega), so _ _ (by omega), ← hm, st_ne (by omega), st_eq]
  · rw [st_other _ _ _ (by omega), so _ _ (by omega), ← hm, st_eq]
  · rw [st_other _ _ _ (by omega), ss, m82, pk_cpy_in (by omega) (by omega)]
    congr 1
    omega
  · rw [st_other _ _ _ (by omega), so _ _ (by omega), ← hm, st_ne (by omega), st_ne (by omega), st_ne (by omega)]
  · rw [st_other _ _ _ (by omega), so _ _ (by omega), ← hm, st_ne (by omega), st_ne (by omega), st_ne (by omega)]
  · rw [st_other _ _ _ (by omega), so _ _ (by omega), ← hm, st_ne (by omega), st_ne (by omega), st_ne (by omega)]
  · rw [st_other _ _ _ (by omega), ss, m12]
    unfold va_cpy
    rw [if_neg (by omega)]
theorem op_law (a0 a1 : Int32) (hS : Sim j μ ν) : ∃ r μ2 ν2, X9_law a0 a1 μ = some (r, μ2) ∧ X10_law a0 a1 ν = some (r, ν2) ∧ Sim (j + 1) μ2 ν2 := by
  obtain ⟨⟨h, nm, ns, nl, nr, nt, tl, t⟩, o⟩ := id hS
  have b := t.1
  have hFU := FU_ge
  have hL := t.2.2.2.2.1
  have h12 := hL.1
  have l5 : μ 8 5 = nI nl := hL.2.1
  have l3 : ν 1 3 = nI nl := hL.2.2.1
  have n1 : μ 1 7 = nI tl := t.2.2.2.2.2.2.2.1.1
  have n2 : ν 1 6 = nI tl := t.2.2.2.2.2.2.2.1.2
  unfold X9_law X10_law
  rw [ob2_of (isUse_rg _ _), ob2_of (isUse_m _ _)]
  rcases rg_cases a0 0 3 with ⟨r, -⟩ | ⟨r, -, -⟩
  · rw [r, if_pos (show (0 : Int32) = 0 from rfl), if_pos (show (0 : Int32) = 0 from rfl)]
    exact find_ok hS 1 (by decide)
  · rw [r, if_neg (show ¬ (1 : Int32) = 0 by decide), if_neg (show ¬ (1 : Int32) = 0 by decide), ob2_of (isHour_rg _ _), ob2_of (in_r (a := 0) (b := 9000) (by decide) (by decide) _)]
    rcases rg_cases a1 0 9000 with ⟨r, -⟩ | ⟨r, -, -⟩
    · rw [r, if_pos (show (0 : Int32) = 0 from rfl), if_pos (show (0 : Int32) = 0 from rfl)]
      exact find_ok hS 1 (by decide)
    · rw [r, if_neg (show ¬ (1 : Int32) = 0 by decide), if_neg (show ¬ (1 : Int32) = 0 by decide), l5, l3]
      by_cases h8 : nl = 12
      · rw [h8, if_neg (show ¬ nI 12 < 12 by decide), if_pos (show nI 12 = 12 from rfl)]
        exact find_ok hS 4 (by decide)
      · rw [if_pos (show nI nl < 12 from nI_lt (b := 12) (by omega) (by decide)), if_neg (show ¬ nI nl = 12 from fun q => h8 ((nI_eq (b := 12) (by omega) (by decide)).mp q)), n1, n2, lt_of]
        obtain ⟨B, hB, hT⟩ : ∃ B : Nat → Nat, (∀ j, B j < 256) ∧ ∀ j, (μ 23 j).toInt8.toInt32 &&& 255 = nI (B j) := ⟨fun j => Classical.choose (and255 (μ 23 j).toInt8.toInt32), fun j => (Classical.choose_spec (and255 (μ 23 j).toInt8.toInt32)).1, fun j => (Classical.choose_spec (and255 (μ 23 j).toInt8.toInt32)).2⟩
        have hd : ∀ i, i < tl → ν 1 (1884 + i) = nI (B i) := fun i hi => (t.2.2.2.2.2.2.2.2.2.2.2.2.2 i hi).symm.trans (hT i)
        have hd' : ∀ i, i < tl → st ν 1 6 0 1 (1884 + i) = nI (B i) := fun i hi => by rw [st_ne (by omega)]; exact hd i hi
        have hF : st ν 1 6 0 6 = letF := by rw [st_other _ _ _ (by decide)]; exact o.2.2.2.2
        have e84 : (1884 : Int32) = nI 1884 := rfl
        rcases law_read μ B tl b.2.2.2.2.2 hB (fun i _ => hT i) with ⟨cs, v, ft, LO, f1⟩ | ⟨k, cnt, cd, hk, f1, f2⟩
        · obtain ⟨ν2, g1, g2, g3⟩ := LO.2.2.2 (st ν 1 6 0) 1884 (by omega) hd' hF
          have hcs := LO.2.1
          have z3 : ν2 1 3 = nI nl := by rw [g3.1 1 (by decide), st_ne (by omega)]; exact l3
          have e1 : (368 : Int32) + nI nl = nI (368 + nl) := nI_add 368 nl
          have e2 : (380 : Int32) + nI nl = nI (380 + nl) := nI_add 380 nl
          have e3 : (392 : Int32) + nI nl = nI (392 + nl) := nI_add 392 nl
          rw [ob2_of f1, lt_of, if_pos (show (-1 : Int32) < 0 by decide), e84, ob2_of g1, g2, if_pos (show (0 : Int32) = 0 from rfl), z3, e1, e2, e3, gd_pos (show inB (nI (368 + nl)) 1944 from i_in (by omega) (by omega)), i_tn (show 368 + nl < 2 ^ 31 by omega), i_tn (show 380 + nl < 2 ^ 31 by omega), i_tn (show 392 + nl < 2 ^ 31 by omega), lt_of, gd_pos (show inB (nI (380 + nl)) 1944 from i_in (by omega) (by omega)), lt_of, gd_pos (show inB (nI (392 + nl)) 1944 from i_in (by omega) (by omega)), lt_of]
          generalize hμ1 : st (CM (st (st μ 81 2 1) 81 3 (nI tl)) tl ft cs.length (app (μ 82) 0 cs)) 1 7 0 = μ1
          have c0 : ∀ a, a ≠ 81 → a ≠ 82 → CM (st (st μ 81 2 1) 81 3 (nI tl)) tl ft cs.length (app (μ 82) 0 cs) a = μ a := fun a q1 q2 => by
            unfold CM
            rw [if_neg q1, if_neg q2, st_other _ _ _ q1, st_other _ _ _ q1]
          have m1 : ∀ a, a ≠ 1 → a ≠ 81 → a ≠ 82 → μ1 a = μ a := fun a q1 q2 q3 => by
            rw [← hμ1, st_other _ _ _ q1, c0 a q2 q3]
          have m2 : ∀ i, i ≠ 7 → μ1 1 i = μ 1 i := fun i q => by
            rw [← hμ1, st_ne (by omega), c0 1 (by omega) (by omega)]
          have m3 : μ1 81 1 = nI cs.length := by rw [← hμ1, st_other _ _ _ (by decide)]; rfl
          have m4 : μ1 82 = app (μ 82) 0 cs := by rw [← hμ1, st_other _ _ _ (by decide)]; rfl
          have m5 : μ1 1 7 = 0 := by rw [← hμ1, st_eq]
          obtain ⟨μ2, k1, k2, k3, k4, k5, k6, k7, k8⟩ := addlaw_c (μ := μ1) (by rw [m1 8 (by omega) (by omega) (by omega)]; exact l5) (show nl < 12 by omega) a0 a1
          generalize hν3 : st (st (st ν2 1 (368 + nl) a0) 1 (380 + nl) a1) 1 (392 + nl) (nI tl) = ν3
          have p1 : ∀ a, a ≠ 0 → a ≠ 1 → ν3 a = ν a := fun a q1 q2 => by
            rw [← hν3, st_other _ _ _ q2, st_other _ _ _ q2, st_other _ _ _ q2, g3.1 a q1, st_other _ _ _ q2]
          have p0 : ∀ i, (i < 6 ∨ 10 < i) → ν3 0 i = ν 0 i := fun i q => by
            rw [← hν3, st_other _ _ _ (by decide), st_other _ _ _ (by decide), st_other _ _ _ (by decide), g3.2 i q, st_other _ _ _ (by decide)]
          have p2 : ∀ w, w ≠ 6 → w ≠ 368 + nl → w ≠ 380 + nl → w ≠ 392 + nl → ν3 1 w = ν 1 w := fun w q1 q2 q3 q4 => by
            rw [← hν3, st_ne (by omega), st_ne (by omega), st_ne (by omega), g3.1 1 (by decide), st_ne (by omega)]
          have p6 : ν3 1 6 = 0 := by
            rw [← hν3, st_ne (by omega), st_ne (by omega), st_ne (by omega), g3.1 1 (by decide), st_eq]
          obtain ⟨ν4, w1, w2, w3, w4⟩ := law_copy (n := tl) (nl := nl) (by omega) (by omega) 100 0 FU ν3 (by omega) (by omega) (by omega) (by rw [p2 3 (by omega) (by omega) (by omega) (by omega)]; exact l3)
          have w1' : X10_law_129 FU (nI tl) (nI nl) 0 ν3 = _ := w1
          rw [ob2_of k1, w1']
          refine ⟨_, _, _, rfl, rfl, ?_⟩
          have X : ∀ a, a ≠ 1 → (a < 8 ∨ 12 < a) → a ≠ 81 → a ≠ 82 → μ2 a = μ a := fun a q1 q2 q3 q4 => (k2 a q2).trans (m1 a q1 q3 q4)
          have X1 : ∀ i, i ≠ 7 → μ2 1 i = μ 1 i := fun i q => by rw [k2 1 (by omega)]; exact m2 i q
          have Y : ∀ w, w ≠ 3 → w ≠ 6 → w ≠ 368 + nl → w ≠ 380 + nl → w ≠ 392 + nl → (w < 404 + 60 * nl ∨ 404 + 60 * nl + tl ≤ w) → st ν4 1 3 (nI (nl + 1)) 1 w = ν 1 w := fun w q1 q2 q3 q4 q5 q6 => by
            rw [st_ne (by omega), w3 w (by omega), p2 w q2 q3 q4 q5]
          obtain ⟨⟨b1, b2, b3, b4, b5, b6⟩, h1, h2, h3, h4, h5, h6, h7, h8', h9, h10, h11, h12', h13⟩ := t
          refine ⟨⟨h, nm, ns, nl + 1, nr, nt, 0, ⟨b1, b2, b3, b4, b5, by omega⟩, ?_, ?_, ?_, ⟨by omega, k3, st_eq, fun l hl => ?_⟩, ?_, ?_, ?_, ?_, fun i hi => ((h9 i hi).cong (X _ (by omega) (by omega) (by omega) (by omega)) (X _ (by omega) (by omega) (by omega) (by omega)) (fun w hw => Y _ (by omega) (by omega) (by omega) (by omega) (by omega) (by omega))).mono (by omega), fun s hs => ?_, fun r hr => ?_, fun k hk => ?_, fun k hk => by omega⟩, o.fr (fun a ha => X a (by omega) (by omega) (by omega) (by omega)) ⟨fun a ha => ?_, fun k hk => ?_⟩⟩
          · rw [X1 8 (by omega), Y 0 (by omega) (by omega) (by omega) (by omega) (by omega) (by omega)]; exact h1
          · rw [X1 6 (by omega), Y 1 (by omega) (by omega) (by omega) (by omega) (by omega) (by omega)]; exact h2
          · rw [X (1 + 2) (by omega) (by omega) (by omega) (by omega), Y 2 (by omega) (by omega) (by omega) (by omega) (by omega) (by omega)]; exact h3
          · by_cases hln : l = nl
            · subst hln
              refine ⟨?_, ?_, B, tl, cs, v, LO, ?_, fun i hi => ?_, k6.trans m3, fun k hk => ?_⟩
              · rw [st_ne (by omega), w3 _ (by omega), ← hν3, st_ne (by omega), st_ne (by omega), st_eq]
                exact k4
              · rw [st_ne (by omega), w3 _ (by omega), ← hν3, st_ne (by omega), st_eq]
                exact k5
              · rw [st_ne (by omega), w3 _ (by omega), ← hν3, st_eq]
              · rw [st_ne (by omega), w4 i (by omega) hi, p2 _ (by omega) (by omega) (by omega) (by omega)]
                exact hd i hi
              · have e := k7 k (by omega)
                rw [m4] at e
                have e2 := app_at cs (μ 82) 0 k hk
                rw [Nat.zero_add] at e2
                exact e.trans e2
            · have hlt : l < nl := by omega
              obtain ⟨a1', a2', B', n', cs', v', a3', a4', a5', a6', a7'⟩ := h4.2.2.2 l hlt
              obtain ⟨s1, s2, s3, s4⟩ := k8 l hlt
              have hn' := a3'.1
              have hc' := a3'.2.1
              refine ⟨?_, ?_, B', n', cs', v', a3', ?_, fun i hi => ?_, ?_, fun k hk => ?_⟩
              · rw [Y _ (by omega) (by omega) (by omega) (by omega) (by omega) (by omega)]
                rw [m1 9 (by omega) (by omega) (by omega)] at s1
                exact s1.trans a1'
              · rw [Y _ (by omega) (by omega) (by omega) (by omega) (by omega) (by omega)]
                rw [m1 10 (by omega) (by omega) (by omega)] at s2
                exact s2.trans a2'
              · rw [Y _ (by omega) (by omega) (by omega) (by omega) (by omega) (by omega)]
                exact a4'
              · rw [Y _ (by omega) (by omega) (by omega) (by omega) (by omega) (by omega)]
                exact a5' i hi
              · rw [m1 11 (by omega) (by omega) (by omega)] at s3
                exact s3.trans a6'
              · have e := s4 k (by omega)
                rw [m1 12 (by omega) (by omega) (by omega)] at e
                exact e.trans (a7' k hk)
          · rw [X (1 + 13) (by omega) (by omega) (by omega) (by omega), Y 4 (by omega) (by omega) (by omega) (by omega) (by omega) (by omega)]; exact h5
          · rw [X (1 + 18) (by omega) (by omega) (by omega) (by omega), Y 5 (by omega) (by omega) (by omega) (by omega) (by omega) (by omega)]; exact h6
          · refine ⟨?_, ?_⟩
            · rw [k2 1 (by omega), m5]; rfl
            · rw [st_ne (by omega), w3 6 (by omega), p6]; rfl
          · rw [X (1 + 18) (by omega) (by omega) (by omega) (by omega), Y 7 (by omega) (by omega) (by omega) (by omega) (by omega) (by omega), Y 8 (by omega) (by omega) (by omega) (by omega) (by omega) (by omega)]; exact h8'
          · exact (h10 s hs).c (by rw [X _ (by omega) (by omega) (by omega) (by omega)]) (by rw [X _ (by omega) (by omega) (by omega) (by omega)]) (by rw [X _ (by omega) (by omega) (by omega) (by omega)]) (by rw [X _ (by omega) (by omega) (by omega) (by omega)]) (fun w q1 q2 => Y w (by omega) (by omega) (by omega) (by omega) (by omega) (by omega))
          · exact (h11 r hr).c (by rw [X _ (by omega) (by omega) (by omega) (by omega)]) (by rw [X _ (by omega) (by omega) (by omega) (by omega)]) (by rw [X _ (by omega) (by omega) (by omega) (by omega)]) (by rw [X _ (by omega) (by omega) (by omega) (by omega)]) (fun w q1 q2 => Y w (by omega) (by omega) (by omega) (by omega) (by omega) (by omega))
          · exact (h12' k hk).c (by rw [X _ (by omega) (by omega) (by omega) (by omega)]) (by rw [X _ (by omega) (by omega) (by omega) (by omega)]) (by rw [X _ (by omega) (by omega) (by omega) (by omega)]) (fun w q1 q2 => Y w (by omega) (by omega) (by omega) (by omega) (by omega) (by omega))
          · rw [st_other _ _ _ (by omega), w2 a (by omega), p1 a (by omega) (by omega)]
          · rw [st_other _ _ _ (by decide), w2 0 (by decide), p0 k hk]
        · obtain ⟨w, ν2, g1, g2, g3, g4⟩ := f2 (st ν 1 6 0) 1884 (by omega) hd' hF
          rw [ob2_of f1, lt_of, if_neg (nI_pos (show k < 2 ^ 31 by omega)), e84, ob2_of g1, g2, if_neg (show ¬ (1 : Int32) = 0 by decide), g3]
          refine ⟨_, _, _, rfl, rfl, ?_⟩
          generalize hμ1 : st (CM (st (st μ 81 2 1) 81 3 (nI tl)) k (nI k) cnt cd) 1 7 0 = μ1
          have c0 : ∀ a, a ≠ 81 → a ≠ 82 → CM (st (st μ 81 2 1) 81 3 (nI tl)) k (nI k) cnt cd a = μ a := fun a q1 q2 => by
            unfold CM
            rw [if_neg q1, if_neg q2, st_other _ _ _ q1, st_other _ _ _ q1]
          have X : ∀ a, a ≠ 1 → a ≠ 81 → a ≠ 82 → μ1 a = μ a := fun a q1 q2 q3 => by
            rw [← hμ1, st_other _ _ _ q1, c0 a q2 q3]
          have X1 : ∀ i, i ≠ 7 → μ1 1 i = μ 1 i := fun i q => by
            rw [← hμ1, st_ne (by omega), c0 1 (by omega) (by omega)]
          have m5 : μ1 1 7 = 0 := by rw [← hμ1, st_eq]
          have Y : ∀ w, w ≠ 6 → ν2 1 w = ν 1 w := fun w q => by rw [g4.1 1 (by decide), st_ne (by omega)]
          obtain ⟨⟨b1, b2, b3, b4, b5, b6⟩, h1, h2, h3, h4, h5, h6, h7, h8', h9, h10, h11, h12', h13⟩ := t
          refine ⟨⟨h, nm, ns, nl, nr, nt, 0, ⟨b1, b2, b3, b4, b5, by omega⟩, ?_, ?_, ?_, h4.c (fun a q1 q2 => X a (by omega) (by omega) (by omega)) (fun w hw => Y w (by omega)), ?_, ?_, ?_, ?_, fun i hi => (h9 i hi).cong (X _ (by omega) (by omega) (by omega)) (X _ (by omega) (by omega) (by omega)) (fun w hw => Y _ (by omega)), fun s hs => ?_, fun r hr => ?_, fun k hk => ?_, fun k hk => by omega⟩, o.fr (fun a ha => X a (by omega) (by omega) (by omega)) ⟨fun a ha => ?_, fun k hk => ?_⟩⟩
          · rw [X1 8 (by omega), Y 0 (by omega)]; exact h1
          · rw [X1 6 (by omega), Y 1 (by omega)]; exact h2
          · rw [X (1 + 2) (by omega) (by omega) (by omega), Y 2 (by omega)]; exact h3
          · rw [X (1 + 13) (by omega) (by omega) (by omega), Y 4 (by omega)]; exact h5
          · rw [X (1 + 18) (by omega) (by omega) (by omega), Y 5 (by omega)]; exact h6
          · refine ⟨m5, ?_⟩
            rw [g4.1 1 (by decide), st_eq]; rfl
          · rw [X (1 + 18) (by omega) (by omega) (by omega), Y 7 (by omega), Y 8 (by omega)]; exact h8'
          · exact (h10 s hs).c (by rw [X _ (by omega) (by omega) (by omega)]) (by rw [X _ (by omega) (by omega) (by omega)]) (by rw [X _ (by omega) (by omega) (by omega)]) (by rw [X _ (by omega) (by omega) (by omega)]) (fun w q1 q2 => Y w (by omega))
          · exact (h11 r hr).c (by rw [X _ (by omega) (by omega) (by omega)]) (by rw [X _ (by omega) (by omega) (by omega)]) (by rw [X _ (by omega) (by omega) (by omega)]) (by rw [X _ (by omega) (by omega) (by omega)]) (fun w q1 q2 => Y w (by omega))
          · exact (h12' k hk).c (by rw [X _ (by omega) (by omega) (by omega)]) (by rw [X _ (by omega) (by omega) (by omega)]) (by rw [X _ (by omega) (by omega) (by omega)]) (fun w q1 q2 => Y w (by omega))
          · rw [g4.1 a (by omega), st_other _ _ _ (by omega)]
          · rw [g4.2 k hk, st_other _ _ _ (by decide)]
end O7
