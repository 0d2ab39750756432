/-! readings, toppings, bytes on the tape -/
theorem rng_if {α : Type} (x lo hi : Int32) (A B : α) : (if x < lo then A else (if x ≤ hi then B else A)) = if rg x lo.toInt hi.toInt = 0 then A else B := by
  unfold rg
  by_cases h1 : x < lo
  · rw [if_pos h1, if_neg (show ¬ (lo.toInt ≤ x.toInt ∧ x.toInt ≤ hi.toInt) by rw [i_lt] at h1; omega), if_pos rfl]
  · rw [if_neg h1]
    by_cases h2 : x ≤ hi
    · rw [if_pos h2, if_pos (show lo.toInt ≤ x.toInt ∧ x.toInt ≤ hi.toInt by rw [i_lt] at h1; rw [i_le] at h2; omega), if_neg (by decide)]
    · rw [if_neg h2, if_neg (show ¬ (lo.toInt ≤ x.toInt ∧ x.toInt ≤ hi.toInt) by rw [i_le] at h2; omega), if_pos rfl]
theorem addL {k : Nat} (b c : Nat) {x : Int32} (h : k + b = c) (hx : x = nI b := by rfl) : nI k + x = nI c := by
  subst hx
  subst h
  exact nI_add k b
theorem mulL {k : Nat} (a b c : Nat) {x y : Int32} (h : a + b * k = c) (hx : x = nI a := by rfl) (hy : y = nI b := by rfl) : x + y * nI k = nI c := by
  subst hx
  subst hy
  subst h
  rw [pk_mul, nI_add]
section O4
variable {j : Nat} {μ ν : Mem}
theorem read_c {nr : Nat} (h : μ 14 4 = nI nr) (hn : nr < 40) (x1 x2 x3 x4 : Int32) : X3_add x1 x2 x3 x4 μ = some (nI nr, st (st (st (st (st μ 15 nr x1) 16 nr x2) 17 nr x3) 18 nr x4) 14 4 (nI (nr + 1))) := by
  have hin : inB (nI nr) 40 := i_in (by omega) (by omega)
  unfold X3_add
  rw [h, if_pos (show nI nr < 40 from nI_lt (b := 40) hn (by decide)), gd_pos hin, i_tn (by omega)]
  simp only [lt_of, st_ne (show ¬ (14 = 15 ∧ 4 = nr) by omega), st_ne (show ¬ (14 = 16 ∧ 4 = nr) by omega), st_ne (show ¬ (14 = 17 ∧ 4 = nr) by omega), st_ne (show ¬ (14 = 18 ∧ 4 = nr) by omega), h, gd_pos hin, i_tn (show nr < 2 ^ 31 by omega), st_eq, nI_1, nI_pred]
theorem read_m {nr h : Nat} (hv : ν 1 4 = nI nr) (h0 : ν 1 0 = nI h) (hn : nr < 40) (x1 x2 x3 : Int32) : (gd (inB (1124 + (4 * (ν 1 4))) 1944) (lt (st ν 1 (1124 + (4 * (ν 1 4))).toNatClampNeg x1) fun μ10 => gd (inB ((1124 + (4 * (ν 1 4))) + 1) 1944) (lt (st μ10 1 ((1124 + (4 * (ν 1 4))) + 1).toNatClampNeg x2) fun μ12 => gd (inB ((1124 + (4 * (ν 1 4))) + 2) 1944) (lt (st μ12 1 ((1124 + (4 * (ν 1 4))) + 2).toNatClampNeg x3) fun μ14 => gd (inB ((1124 + (4 * (ν 1 4))) + 3) 1944) (lt (st μ14 1 ((1124 + (4 * (ν 1 4))) + 3).toNatClampNeg (μ14 1 0)) fun μ16 => lt (st μ16 1 4 ((μ16 1 4) + 1)) fun μ17 => some (((μ17 1 4) - 1), μ17)))))) = some (nI nr, st (st (st (st (st ν 1 (1124 + 4 * nr) x1) 1 (1125 + 4 * nr) x2) 1 (1126 + 4 * nr) x3) 1 (1127 + 4 * nr) (nI h)) 1 4 (nI (nr + 1))) := by
  have e : (1124 : Int32) + 4 * nI nr = nI (1124 + 4 * nr) := mulL 1124 4 _ rfl
  have e1 : nI (1124 + 4 * nr) + 1 = nI (1125 + 4 * nr) := addL 1 _ (by omega)
  have e2 : nI (1124 + 4 * nr) + 2 = nI (1126 + 4 * nr) := addL 2 _ (by omega)
  have e3 : nI (1124 + 4 * nr) + 3 = nI (1127 + 4 * nr) := addL 3 _ (by omega)
  rw [hv, e, e1, e2, e3, gd_pos (i_in (by omega) (by omega)), i_tn (by omega), lt_of, gd_pos (i_in (by omega) (by omega)), i_tn (by omega), lt_of, gd_pos (i_in (by omega) (by omega)), i_tn (by omega), lt_of, gd_pos (i_in (by omega) (by omega)), i_tn (by omega), lt_of, lt_of]
  simp only [st_ne (show ¬ (1 = 1 ∧ 4 = 1124 + 4 * nr) by omega), st_ne (show ¬ (1 = 1 ∧ 4 = 1125 + 4 * nr) by omega), st_ne (show ¬ (1 = 1 ∧ 4 = 1126 + 4 * nr) by omega), st_ne (show ¬ (1 = 1 ∧ 4 = 1127 + 4 * nr) by omega), st_ne (show ¬ (1 = 1 ∧ 0 = 1124 + 4 * nr) by omega), st_ne (show ¬ (1 = 1 ∧ 0 = 1125 + 4 * nr) by omega), st_ne (show ¬ (1 = 1 ∧ 0 = 1126 + 4 * nr) by omega), hv, h0, st_eq, nI_1, nI_pred]
theorem op_read (a0 a1 a2 : Int32) (hS : Sim j μ ν) : ∃ r μ2 ν2, X9_read a0 a1 a2 μ = some (r, μ2) ∧ X10_read a0 a1 a2 ν = some (r, ν2) ∧ Sim (j + 1) μ2 ν2 := by
  obtain ⟨⟨h, nm, ns, nl, nr, nt, tl, t⟩, o⟩ := id hS
  have b := t.1
  unfold X9_read X10_read
  have n1 : μ 14 4 = nI nr := t.2.2.2.2.2.1.1
  have n2 : ν 1 4 = nI nr := t.2.2.2.2.2.1.2
  have hh : μ 1 8 = nI h := t.2.1.1
  have hh2 : ν 1 0 = nI h := t.2.1.2
  rcases isM t a0 with ⟨i, hi, rfl, e1, e2⟩ | ⟨e1, e2⟩
  · rw [ob2_of e1, ob2_of e2, if_neg (show ¬ (1 : Int32) = 0 by decide), if_neg (show ¬ (1 : Int32) = 0 by decide), hh, hh2, ob2_of (in_rg _ _ _ _), rng_if]
    rcases rg_cases a1 (0 : Int32).toInt (nI h).toInt with ⟨r, -⟩ | ⟨r, -, -⟩
    · rw [r, if_pos (show (0 : Int32) = 0 from rfl), if_pos (show (0 : Int32) = 0 from rfl)]
      exact find_ok hS 1 (by decide)
    · rw [r, if_neg (show ¬ (1 : Int32) = 0 by decide), if_neg (show ¬ (1 : Int32) = 0 by decide), ob2_of (in_rg _ _ _ _), rng_if]
      rcases rg_cases a2 (-9999 : Int32).toInt (9999 : Int32).toInt with ⟨r, -⟩ | ⟨r, -, -⟩
      · rw [r, if_pos (show (0 : Int32) = 0 from rfl), if_pos (show (0 : Int32) = 0 from rfl)]
        exact find_ok hS 1 (by decide)
      · rw [r, if_neg (show ¬ (1 : Int32) = 0 by decide), if_neg (show ¬ (1 : Int32) = 0 by decide)]
        by_cases h8 : nr = 40
        · rw [n1, n2, h8, if_neg (show ¬ nI 40 < 40 by decide), if_pos (show nI 40 = 40 from rfl)]
          exact find_ok hS 4 (by decide)
        · rw [if_pos (show μ 14 4 < 40 by rw [n1]; exact nI_lt (b := 40) (by omega) (by decide)), if_neg (show ¬ ν 1 4 = 40 by rw [n2]; exact fun q => h8 ((nI_eq (b := 40) (by omega) (by decide)).mp q)), ob2_of (read_c n1 (by omega) _ _ _ _), read_m n2 hh2 (by omega)]
          refine ⟨_, _, _, rfl, rfl, ?_⟩
          have ox : ∀ a, a < 14 ∨ 18 < a → st (st (st (st (st μ 15 nr (nI i)) 16 nr a1) 17 nr a2) 18 nr (nI h)) 14 4 (nI (nr + 1)) a = μ a := fun a h3 => by
            rw [st_other _ _ _ (by omega), st_other _ _ _ (by omega), st_other _ _ _ (by omega), st_other _ _ _ (by omega), st_other _ _ _ (by omega)]
          have om : ∀ a, a ≠ 1 → st (st (st (st (st ν 1 (1124 + 4 * nr) (nI i)) 1 (1125 + 4 * nr) a1) 1 (1126 + 4 * nr) a2) 1 (1127 + 4 * nr) (nI h)) 1 4 (nI (nr + 1)) a = ν a := fun a h1 => by
            rw [st_other _ _ _ h1, st_other _ _ _ h1, st_other _ _ _ h1, st_other _ _ _ h1, st_other _ _ _ h1]
          have od : ∀ w, w ≠ 4 → (w < 1124 + 4 * nr ∨ 1128 + 4 * nr ≤ w) → st (st (st (st (st ν 1 (1124 + 4 * nr) (nI i)) 1 (1125 + 4 * nr) a1) 1 (1126 + 4 * nr) a2) 1 (1127 + 4 * nr) (nI h)) 1 4 (nI (nr + 1)) 1 w = ν 1 w := fun w h1 h2 => by
            rw [st_ne (by omega), st_ne (by omega), st_ne (by omega), st_ne (by omega), st_ne (by omega)]
          obtain ⟨⟨b1, b2, b3, b4, b5, b6⟩, h1, h2, h3, h4, h5, h6, h7, h8', h9, h10, h11, h12, h13⟩ := t
          have hl := h4.1
          refine ⟨⟨h, nm, ns, nl, nr + 1, nt, tl, ⟨b1, b2, b3, by omega, b5, b6⟩, ?_, ?_, ?_, h4.c (fun a q1 q2 => ox a (by omega)) (fun w hw => od w (by omega) (by omega)), ?_, ?_, ?_, ?_, fun i hi => (h9 i hi).cong (ox _ (by omega)) (ox _ (by omega)) (fun w hw => od _ (by omega) (by omega)), fun s hs => ?_, fun r hr => ?_, fun k hk => ?_, fun k hk => ?_⟩, o.fr (fun a ha => ox a (by omega)) ⟨fun a ha => om a (by omega), fun k _ => by rw [om 0 (by decide)]⟩⟩
          · rw [ox 1 (by omega), od 0 (by omega) (by omega)]; exact h1
          · rw [ox 1 (by omega), od 1 (by omega) (by omega)]; exact h2
          · rw [ox (1 + 2) (by omega), od 2 (by omega) (by omega)]; exact h3
          · exact ⟨st_eq, st_eq⟩
          · rw [ox (1 + 18) (by omega), od 5 (by omega) (by omega)]; exact h6
          · rw [ox 1 (by omega), od 6 (by omega) (by omega)]; exact h7
          · rw [ox (1 + 18) (by omega), od 7 (by omega) (by omega), od 8 (by omega) (by omega)]; exact h8'
          · exact (h10 s hs).c (by rw [ox _ (by omega)]) (by rw [ox _ (by omega)]) (by rw [ox _ (by omega)]) (by rw [ox _ (by omega)]) (fun w q1 q2 => od w (by omega) (by omega))
          · by_cases hsn : r = nr
            · subst hsn
              refine ⟨?_, ?_, ?_, ?_⟩
              · rw [st_ne (by omega), st_ne (by omega), st_ne (by omega), st_ne (by omega), st_eq, st_ne (by omega), st_ne (by omega), st_ne (by omega), st_ne (by omega), st_eq]
              · rw [st_ne (by omega), st_ne (by omega), st_ne (by omega), st_eq, st_ne (by omega), st_ne (by omega), st_ne (by omega), st_eq]
              · rw [st_ne (by omega), st_ne (by omega), st_eq, st_ne (by omega), st_ne (by omega), st_eq]
              · rw [st_ne (by omega), st_eq, st_ne (by omega), st_eq]
            · refine (h11 r (by omega)).c ?_ ?_ ?_ ?_ (fun w q1 q2 => od w (by omega) (by omega)) <;> rw [st_ne (by omega), st_ne (by omega), st_ne (by omega), st_ne (by omega), st_ne (by omega)]
          · exact (h12 k hk).c (by rw [ox _ (by omega)]) (by rw [ox _ (by omega)]) (by rw [ox _ (by omega)]) (fun w q1 q2 => od w (by omega) (by omega))
          · exact (h13 k hk).c (by rw [ox _ (by omega)]) (od _ (by omega) (by omega))
  · rw [ob2_of e1, ob2_of e2, if_pos rfl, if_pos rfl]
    exact find_ok hS 1 (by decide)
/-- is there such a shop -/
theorem isS {h nm ns nl nr nt tl : Nat} (t : TS 1 μ (ν 1) h nm ns nl nr nt tl) (x : Int32) : (∃ s, s < ns ∧ x = nI s ∧ X5_has x μ = some (1, μ) ∧ X10_in x 0 (ν 1 2 - 1) ν = some (1, ν)) ∨ (X5_has x μ = some (0, μ) ∧ X10_in x 0 (ν 1 2 - 1) ν = some (0, ν)) := by
  have b := t.1.2.2.1
  have e1 : μ 3 4 = nI ns := t.2.2.2.1.1
  have e2 : ν 1 2 = nI ns := t.2.2.2.1.2
  have e3 : (nI ns - 1).toInt = (ns : Int) - 1 := by
    rw [i_sub (by rw [i_n _ (by omega)]; show _ ≤ (ns : Int) - 1; omega) (by rw [i_n _ (by omega)]; show (ns : Int) - 1 < _; omega), i_n _ (by omega)]
    rfl
  have c1 : X5_has x μ = some (rg x 0 ((ns : Int) - 1), μ) := by
    unfold X5_has
    rw [e1]
    exact two_rg x 0 (nI ns) (by rw [i_n _ (by omega)]; omega) μ
  have c2 : X10_in x 0 (ν 1 2 - 1) ν = some (rg x 0 ((ns : Int) - 1), ν) := by
    rw [e2, in_rg, e3]
    rfl
  rcases rg_cases x 0 ((ns : Int) - 1) with ⟨r, -⟩ | ⟨r, r1, r2⟩
  · exact Or.inr ⟨by rw [c1, r], by rw [c2, r]⟩
  · exact Or.inl ⟨x.toInt.toNat, by omega, i_eq.mpr (by rw [i_n _ (by omega)]; omega), by rw [c1, r], by rw [c2, r]⟩
/-- is it open -/
theorem open_ok {h nm ns nl nr nt tl s : Nat} (t : TS 1 μ (ν 1) h nm ns nl nr nt tl) (hs : s < ns) (c : Int32) : ∃ z, (z = 0 ∨ z = 1) ∧ X5_isOpen (nI s) c μ = some (z, μ) ∧ X10_isOpen (nI s) c ν = some (z, ν) := by
  have b := t.1.2.2.1
  have e1 : μ 3 4 = nI ns := t.2.2.2.1.1
  obtain ⟨-, -, h5, h6, -, -⟩ := t.2.2.2.2.2.2.2.2.2.2.1 s hs
  have h5 : μ 6 s = ν 1 (338 + 4 * s) := h5
  have h6 : μ 7 s = ν 1 (339 + 4 * s) := h6
  have c1 : X5_has (nI s) μ = some (1, μ) := by
    unfold X5_has
    rw [if_neg (nI_pos (by omega)), e1, if_neg (fun q => by have := (nI_leI (by omega) (by omega)).mp q; omega)]
  have x2 : ((336 : Int32) + 4 * nI s) + 2 = nI (338 + 4 * s) := by rw [mulL 336 4 (336 + 4 * s) rfl]; exact addL 2 _ (by omega)
  have x3 : ((336 : Int32) + 4 * nI s) + 3 = nI (339 + 4 * s) := by rw [mulL 336 4 (336 + 4 * s) rfl]; exact addL 3 _ (by omega)
  unfold X5_isOpen X10_isOpen
  rw [ob2_of c1, if_neg (show ¬ (1 : Int32) = 0 by decide), gd_pos (i_in (by omega) (by omega)), gd_pos (i_in (by omega) (by omega)), i_tn (by omega), h5, h6, x2, x3, gd_pos (i_in (by omega) (by omega)), gd_pos (i_in (by omega) (by omega)), i_tn (by omega), i_tn (by omega)]
  by_cases q1 : c < ν 1 (338 + 4 * s)
  · rw [if_pos q1, if_pos q1]
    exact ⟨0, Or.inl rfl, rfl, rfl⟩
  · rw [if_neg q1, if_neg q1]
    by_cases q2 : ν 1 (339 + 4 * s) ≤ c
    · rw [if_pos q2, if_pos q2]
      exact ⟨0, Or.inl rfl, rfl, rfl⟩
    · rw [if_neg q2, if_neg q2]
      exact ⟨1, Or.inr rfl, rfl, rfl⟩
theorem topadd_c {nt : Nat} (h : μ 19 3 = nI nt) (hn : nt ≤ 200) (x1 x2 x3 x4 : Int32) : X6_add x1 x2 x3 x4 μ = some (if nt = 200 then st (st μ 19 4 (μ 19 4 + x3)) 19 5 (μ 19 5 + x4) else st (st (st (st (st (st μ 19 4 (μ 19 4 + x3)) 19 5 (μ 19 5 + x4)) 20 nt x1) 21 nt x2) 22 nt (x3 - x4)) 19 3 (nI (nt + 1))) := by
  unfold X6_add
  rw [lt_of, lt_of, st_ne (show ¬ (19 = 19 ∧ 5 = 4) by decide), st_ne (show ¬ (19 = 19 ∧ 3 = 5) by decide), st_ne (show ¬ (19 = 19 ∧ 3 = 4) by decide), h]
  by_cases h2 : nt = 200
  · subst h2
    rw [if_pos (show (200 : Int32) ≤ nI 200 by decide), if_pos rfl]
  · have hin : inB (nI nt) 200 := i_in (by omega) (by omega)
    rw [if_neg (show ¬ (200 : Int32) ≤ nI nt from fun q => by have := (nI_leI (a := 200) (by decide) (by omega)).mp q; omega), if_neg h2, gd_pos hin, i_tn (by omega)]
    simp only [lt_of, st_ne (show ¬ (19 = 20 ∧ 3 = nt) by omega), st_ne (show ¬ (19 = 21 ∧ 3 = nt) by omega), st_ne (show ¬ (19 = 22 ∧ 3 = nt) by omega), st_ne (show ¬ (19 = 19 ∧ 3 = 5) by decide), st_ne (show ¬ (19 = 19 ∧ 3 = 4) by decide), h, gd_pos hin, i_tn (show nt < 2 ^ 31 by omega), st_eq, nI_1, nI_pred]
theorem topadd_m {nt h : Nat} (hv : ν 1 5 = nI nt) (h0 : ν 1 0 = nI h) (hn : nt ≤ 200) (x1 x3 r9 : Int32) : (if 200 ≤ (ν 1 5) then X10_top_172 x3 r9 ν else gd (inB (1284 + (3 * (ν 1 5))) 1944) (lt (st ν 1 (1284 + (3 * (ν 1 5))).toNatClampNeg x1) fun μ14 => gd (inB ((1284 + (3 * (ν 1 5))) + 1) 1944) (lt (st μ14 1 ((1284 + (3 * (ν 1 5))) + 1).toNatClampNeg (μ14 1 0)) fun μ16 => gd (inB ((1284 + (3 * (ν 1 5))) + 2) 1944) (lt (st μ16 1 ((1284 + (3 * (ν 1 5))) + 2).toNatClampNeg (x3 - r9)) fun μ18 => lt (st μ18 1 5 ((μ18 1 5) + 1)) fun μ19 => X10_top_172 x3 r9 μ19)))) = some (r9, if nt = 200 then st (st ν 1 7 (ν 1 7 + x3)) 1 8 (ν 1 8 + r9) else st (st (st (st (st (st ν 1 (1284 + 3 * nt) x1) 1 (1285 + 3 * nt) (nI h)) 1 (1286 + 3 * nt) (x3 - r9)) 1 5 (nI (nt + 1))) 1 7 (ν 1 7 + x3)) 1 8 (ν 1 8 + r9)) := by
  have e : (1284 : Int32) + 3 * nI nt = nI (1284 + 3 * nt) := mulL 1284 3 _ rfl
  have e1 : nI (1284 + 3 * nt) + 1 = nI (1285 + 3 * nt) := addL 1 _ (by omega)
  have e2 : nI (1284 + 3 * nt) + 2 = nI (1286 + 3 * nt) := addL 2 _ (by omega)
  rw [hv, e, e1, e2]
  unfold X10_top_172
  by_cases h2 : nt = 200
  · subst h2
    rw [if_pos (show (200 : Int32) ≤ nI 200 by decide), if_pos rfl, lt_of, lt_of, st_ne (show ¬ (1 = 1 ∧ 8 = 7) by decide)]
  · rw [if_neg (show ¬ (200 : Int32) ≤ nI nt from fun q => by have := (nI_leI (a := 200) (by decide) (by omega)).mp q; omega), if_neg h2, gd_pos (i_in (by omega) (by omega)), i_tn (by omega), lt_of, gd_pos (i_in (by omega) (by omega)), i_tn (by omega), lt_of, gd_pos (i_in (by omega) (by omega)), i_tn (by omega), lt_of, lt_of]
    simp only [lt_of, st_ne (show ¬ (1 = 1 ∧ 5 = 1284 + 3 * nt) by omega), st_ne (show ¬ (1 = 1 ∧ 5 = 1285 + 3 * nt) by omega), st_ne (show ¬ (1 = 1 ∧ 5 = 1286 + 3 * nt) by omega), st_ne (show ¬ (1 = 1 ∧ 0 = 1284 + 3 * nt) by omega), st_ne (show ¬ (1 = 1 ∧ 7 = 1284 + 3 * nt) by omega), st_ne (show ¬ (1 = 1 ∧ 7 = 1285 + 3 * nt) by omega), st_ne (show ¬ (1 = 1 ∧ 7 = 1286 + 3 * nt) by omega), st_ne (show ¬ (1 = 1 ∧ 7 = 5) by omega), st_ne (show ¬ (1 = 1 ∧ 8 = 1284 + 3 * nt) by omega), st_ne (show ¬ (1 = 1 ∧ 8 = 1285 + 3 * nt) by omega), st_ne (show ¬ (1 = 1 ∧ 8 = 1286 + 3 * nt) by omega), st_ne (show ¬ (1 = 1 ∧ 8 = 5) by omega), st_ne (show ¬ (1 = 1 ∧ 8 = 7) by omega), hv, h0, nI_1]
theorem ts_top {h nm ns nl nr nt tl : Nat} (t : TS 1 μ (ν 1) h nm ns nl nr nt tl) (x1 x3 z : Int32) : ∃ nt2, TS 1 (if nt = 200 then st (st μ 19 4 (μ 19 4 + x3)) 19 5 (μ 19 5 + z) else st (st (st (st (st (st μ 19 4 (μ 19 4 + x3)) 19 5 (μ 19 5 + z)) 20 nt x1) 21 nt (nI h)) 22 nt (x3 - z)) 19 3 (nI (nt + 1))) ((if nt = 200 then st (st ν 1 7 (ν 1 7 + x3)) 1 8 (ν 1 8 + z) else st (st (st (st (st (st ν 1 (1284 + 3 * nt) x1) 1 (1285 + 3 * nt) (nI h)) 1 (1286 + 3 * nt) (x3 - z)) 1 5 (nI (nt + 1))) 1 7 (ν 1 7 + x3)) 1 8 (ν 1 8 + z)) 1) h nm ns nl nr nt2 tl := by
  obtain ⟨⟨b1, b2, b3, b4, b5, b6⟩, h1, h2, h3, h4, h5, h6, h7, h8', h9, h10, h11, h12, h13⟩ := t
  have hl := h4.1
  by_cases hnt : nt = 200
  · rw [if_pos hnt, if_pos hnt]
    have ox : ∀ a, a ≠ 19 → st (st μ 19 4 (μ 19 4 + x3)) 19 5 (μ 19 5 + z) a = μ a := fun a h3 => by
      rw [st_other _ _ _ h3, st_other _ _ _ h3]
    have od : ∀ w, w ≠ 7 → w ≠ 8 → st (st ν 1 7 (ν 1 7 + x3)) 1 8 (ν 1 8 + z) 1 w = ν 1 w := fun w h1 h2 => by
      rw [st_ne (by omega), st_ne (by omega)]
    refine ⟨nt, ⟨b1, b2, b3, b4, b5, b6⟩, ?_, ?_, ?_, h4.c (fun a q1 q2 => ox a (by omega)) (fun w hw => od w (by omega) (by omega)), ?_, ?_, ?_, ?_, fun i hi => (h9 i hi).cong (ox _ (by omega)) (ox _ (by omega)) (fun w hw => od _ (by omega) (by omega)), fun s hs => ?_, fun r hr => ?_, fun k hk => ?_, fun k hk => ?_⟩
    · rw [ox 1 (by omega), od 0 (by omega) (by omega)]; exact h1
    · rw [ox 1 (by omega), od 1 (by omega) (by omega)]; exact h2
    · rw [ox (1 + 2) (by omega), od 2 (by omega) (by omega)]; exact h3
    · rw [ox (1 + 13) (by omega), od 4 (by omega) (by omega)]; exact h5
    · rw [od 5 (by omega) (by omega), st_ne (by omega), st_ne (by omega)]; exact h6
    · rw [ox 1 (by omega), od 6 (by omega) (by omega)]; exact h7
    · have e1 : μ 19 4 = ν 1 7 := h8'.1
      have e2 : μ 19 5 = ν 1 8 := h8'.2
      rw [st_ne (show ¬ (1 + 18 = 19 ∧ 4 = 5) by omega), st_ne (show ¬ (1 = 1 ∧ 7 = 8) by omega), st_eq, st_eq, st_eq, st_eq, e1, e2]
      exact ⟨rfl, rfl⟩
    · exact (h10 s hs).c (by rw [ox _ (by omega)]) (by rw [ox _ (by omega)]) (by rw [ox _ (by omega)]) (by rw [ox _ (by omega)]) (fun w q1 q2 => od w (by omega) (by omega))
    · exact (h11 r hr).c (by rw [ox _ (by omega)]) (by rw [ox _ (by omega)]) (by rw [ox _ (by omega)]) (by rw [ox _ (by omega)]) (fun w q1 q2 => od w (by omega) (by omega))
    · exact (h12 k hk).c (by rw [ox _ (by omega)]) (by rw [ox _ (by omega)]) (by rw [ox _ (by omega)]) (fun w q1 q2 => od w (by omega) (by omega))
    · exact (h13 k hk).c (by rw [ox _ (by omega)]) (od _ (by omega) (by omega))
  · rw [if_neg hnt, if_neg hnt]
    have ox : ∀ a, a < 19 ∨ 22 < a → st (st (st (st (st (st μ 19 4 (μ 19 4 + x3)) 19 5 (μ 19 5 + z)) 20 nt x1) 21 nt (nI h)) 22 nt (x3 - z)) 19 3 (nI (nt + 1)) a = μ a := fun a h3 => by
      rw [st_other _ _ _ (by omega), st_other _ _ _ (by omega), st_other _ _ _ (by omega), st_other _ _ _ (by omega), st_other _ _ _ (by omega), st_other _ _ _ (by omega)]
    have od : ∀ w, (w < 5 ∨ w = 6 ∨ 8 < w) → (w < 1284 + 3 * nt ∨ 1287 + 3 * nt ≤ w) → st (st (st (st (st (st ν 1 (1284 + 3 * nt) x1) 1 (1285 + 3 * nt) (nI h)) 1 (1286 + 3 * nt) (x3 - z)) 1 5 (nI (nt + 1))) 1 7 (ν 1 7 + x3)) 1 8 (ν 1 8 + z) 1 w = ν 1 w := fun w h1 h2 => by
      rw [st_ne (by omega), st_ne (by omega), st_ne (by omega), st_ne (by omega), st_ne (by omega), st_ne (by omega)]
    refine ⟨nt + 1, ⟨b1, b2, b3, b4, by omega, b6⟩, ?_, ?_, ?_, h4.c (fun a q1 q2 => ox a (by omega)) (fun w hw => od w (by omega) (by omega)), ?_, ?_, ?_, ?_, fun i hi => (h9 i hi).cong (ox _ (by omega)) (ox _ (by omega)) (fun w hw => od _ (by omega) (by omega)), fun s hs => ?_, fun r hr => ?_, fun k hk => ?_, fun k hk => ?_⟩
    · rw [ox 1 (by omega), od 0 (by omega) (by omega)]; exact h1
    · rw [ox 1 (by omega), od 1 (by omega) (by omega)]; exact h2
    · rw [ox (1 + 2) (by omega), od 2 (by omega) (by omega)]; exact h3
    · rw [ox (1 + 13) (by omega), od 4 (by omega) (by omega)]; exact h5
    · refine ⟨st_eq, ?_⟩
      rw [st_ne (by omega), st_ne (by omega), st_eq]
    · rw [ox 1 (by omega), od 6 (by omega) (by omega)]; exact h7
    · have e1 : μ 19 4 = ν 1 7 := h8'.1
      have e2 : μ 19 5 = ν 1 8 := h8'.2
      refine ⟨?_, ?_⟩
      · rw [st_ne (by omega), st_ne (by omega), st_ne (by omega), st_ne (by omega), st_ne (by omega), st_eq, st_ne (by omega), st_eq, e1]
      · rw [st_ne (by omega), st_ne (by omega), st_ne (by omega), st_ne (by omega), st_eq, st_eq, e2]
    · exact (h10 s hs).c (by rw [ox _ (by omega)]) (by rw [ox _ (by omega)]) (by rw [ox _ (by omega)]) (by rw [ox _ (by omega)]) (fun w q1 q2 => od w (by omega) (by omega))
    · exact (h11 r hr).c (by rw [ox _ (by omega)]) (by rw [ox _ (by omega)]) (by rw [ox _ (by omega)]) (by rw [ox _ (by omega)]) (fun w q1 q2 => od w (by omega) (by omega))
    · by_cases hsn : k = nt
      · subst hsn
        refine ⟨?_, ?_, ?_⟩
        · rw [st_ne (by omega), st_ne (by omega), st_ne (by omega), st_eq, st_ne (by omega), st_ne (by omega), st_ne (by omega), st_ne (by omega), st_ne (by omega), st_eq]
        · rw [st_ne (by omega), st_ne (by omega), st_eq, st_ne (by omega), st_ne (by omega), st_ne (by omega), st_ne (by omega), st_eq]
        · rw [st_ne (by omega), st_eq, st_ne (by omega), st_ne (by omega), st_ne (by omega), st_eq]
      · refine (h12 k (by omega)).c ?_ ?_ ?_ (fun w q1 q2 => od w (by omega) (by omega)) <;> rw [st_ne (by omega), st_ne (by omega), st_ne (by omega), st_ne (by omega), st_ne (by omega), st_ne (by omega)]
    · exact (h13 k hk).c (by rw [ox _ (by omega)]) (od _ (by omega) (by omega))
/-- the topping itself, once nothing forbids it -/
theorem top_do {h nm ns nl nr nt tl i n : Nat} (t : TS 1 μ (ν 1) h nm ns nl nr nt tl) (o : OT j μ ν) (hi : i < nm) (hn : n ≤ 9999) : ∃ r μ2 ν2, X9_top_108 (nI i) (nI n) (24 + 2 * i) μ = some (r, μ2) ∧ X10_top_92 (nI i) (nI n) ν = some (r, ν2) ∧ Sim (j + 1) μ2 ν2 := by
  have b := t.1
  have hh : μ 1 8 = nI h := t.2.1.1
  obtain ⟨X, R⟩ := hx_of t o.2.2.2.2 hi
  obtain ⟨z, μ2, ν2, R2, e1, e2⟩ := tops_ok X R hn
  have t2 := ts_meter t hi R2
  unfold X9_top_108 X10_top_92
  have hh2 : μ2 1 8 = nI h := t2.2.1.1
  have q19 : μ2 19 3 = nI nt := t2.2.2.2.2.2.2.1.1
  have q5 : ν2 1 5 = nI nt := t2.2.2.2.2.2.2.1.2
  rw [hh, ob2_of e1, ob2_of e2, hh2, ob_of (topadd_c q19 b.2.2.2.2.1 _ _ _ _), topadd_m q5 t2.2.1.2 b.2.2.2.2.1]
  obtain ⟨nt2, t3⟩ := ts_top t2 (nI i) (nI n) z
  refine ⟨_, _, _, rfl, rfl, ⟨h, nm, ns, nl, nr, nt2, tl, t3⟩, ?_⟩
  refine o.fr (fun a ha => ?_) ⟨fun a ha => ?_, fun k hk => ?_⟩
  · rw [← R2.2.1 a (by omega) (by omega)]
    split
    · rw [st_other _ _ _ (by omega), st_other _ _ _ (by omega)]
    · rw [st_other _ _ _ (by omega), st_other _ _ _ (by omega), st_other _ _ _ (by omega), st_other _ _ _ (by omega), st_other _ _ _ (by omega), st_other _ _ _ (by omega)]
  · rw [← R2.2.2.1 a (by omega) (by omega) (by omega)]
    split
    · rw [st_other _ _ _ (by omega), st_other _ _ _ (by omega)]
    · rw [st_other _ _ _ (by omega), st_other _ _ _ (by omega), st_other _ _ _ (by omega), st_other _ _ _ (by omega), st_other _ _ _ (by omega), st_other _ _ _ (by omega)]
  · rw [← R2.2.2.2.1 k hk]
    split
    · rw [st_other _ _ _ (by omega), st_other _ _ _ (by omega)]
    · rw [st_other _ _ _ (by omega), st_other _ _ _ (by omega), st_other _ _ _ (by omega), st_other _ _ _ (by omega), st_other _ _ _ (by omega), st_other _ _ _ (by omega)]
theorem op_top (a0 a1 a2 : Int32) (hS : Sim j μ ν) : ∃ r μ2 ν2, X9_top a0 a1 a2 μ = some (r, μ2) ∧ X10_top a0 a1 a2 ν = some (r, ν2) ∧ Sim (j + 1) μ2 ν2 := by
  obtain ⟨⟨h, nm, ns, nl, nr, nt, tl, t⟩, o⟩ := id hS
  have b := t.1
  have hh : μ 1 8 = nI h := t.2.1.1
  have hh2 : ν 1 0 = nI h := t.2.1.2
  unfold X9_top X10_top
  rcases isM t a0 with ⟨i, hi, rfl, e1, e2⟩ | ⟨e1, e2⟩
  · rw [ob2_of e1, ob2_of e2, if_neg (show ¬ (1 : Int32) = 0 by decide), if_neg (show ¬ (1 : Int32) = 0 by decide)]
    obtain ⟨X, R⟩ := hx_of t o.2.2.2.2 hi
    have i8 := X.2.2.1
    by_cases hm : a1 = -1
    · subst hm
      rw [if_pos rfl, if_pos rfl]
      unfold X9_top_30 X10_top_29
      rw [ob2_of (isPence_rg _ _), ob2_of (in_r (a := 1) (b := 9999) (by decide) (by decide) _)]
      rcases rg_cases a2 1 9999 with ⟨r, -⟩ | ⟨r, r1, r2⟩
      · rw [r, if_pos (show (0 : Int32) = 0 from rfl), if_pos (show (0 : Int32) = 0 from rfl)]
        exact find_ok hS 1 (by decide)
      · obtain ⟨n, hn, rfl, -⟩ := to_nat (x := a2) (hi := 9999) ⟨by omega, r2⟩ (by decide)
        rw [r, if_neg (show ¬ (1 : Int32) = 0 by decide), if_neg (show ¬ (1 : Int32) = 0 by decide), gd_pos (m8 hi b.2.1).1, (m8 hi b.2.1).2, if_pos rfl, if_pos rfl]
        rcases smart_c (24 + 2 * i) μ with ⟨s1, s2⟩ | ⟨s1, s2⟩
        · rcases smart_m i8 R with ⟨m1, m2⟩ | ⟨m1, m2⟩
          · rw [ob2_of s2, ob2_of m2, if_neg (show ¬ (1 : Int32) = 0 by decide), if_neg (show ¬ (1 : Int32) = 0 by decide)]
            unfold X9_top_73 X10_top_65
            rw [if_pos rfl, if_pos (show (-1 : Int32) < 0 by decide)]
            exact top_do t o hi hn
          · exact absurd s1 m1
        · rcases smart_m i8 R with ⟨m1, m2⟩ | ⟨m1, m2⟩
          · exact absurd m1 s1
          · rw [ob2_of s2, ob2_of m2, if_pos (show (0 : Int32) = 0 from rfl), if_pos (show (0 : Int32) = 0 from rfl)]
            exact find_ok hS 5 (by decide)
    · rw [if_neg hm, if_neg hm]
      rcases isS t a1 with ⟨s, hs, rfl, f1, f2⟩ | ⟨f1, f2⟩
      · rw [ob2_of f1, ob2_of f2, if_neg (show ¬ (1 : Int32) = 0 by decide), if_neg (show ¬ (1 : Int32) = 0 by decide)]
        unfold X9_top_30 X10_top_29
        rw [ob2_of (isPence_rg _ _), ob2_of (in_r (a := 1) (b := 9999) (by decide) (by decide) _)]
        rcases rg_cases a2 1 9999 with ⟨r, -⟩ | ⟨r, r1, r2⟩
        · rw [r, if_pos (show (0 : Int32) = 0 from rfl), if_pos (show (0 : Int32) = 0 from rfl)]
          exact find_ok hS 1 (by decide)
        · obtain ⟨n, hn, rfl, -⟩ := to_nat (x := a2) (hi := 9999) ⟨by omega, r2⟩ (by decide)
          rw [r, if_neg (show ¬ (1 : Int32) = 0 by decide), if_neg (show ¬ (1 : Int32) = 0 by decide), gd_pos (m8 hi b.2.1).1, (m8 hi b.2.1).2, if_neg hm, if_neg hm]
          unfold X9_top_73 X10_top_65
          obtain ⟨z, hz, z1, z2⟩ := open_ok t hs (nI h - nI h / 24 * 24)
          rw [if_neg hm, if_neg (nI_pos (by omega)), hh, hh2, ob2_of z1, ob2_of z2]
          rcases hz with rfl | rfl
          · rw [if_pos (show (0 : Int32) = 0 from rfl), if_pos (show (0 : Int32) = 0 from rfl)]
            exact find_ok hS 3 (by decide)
          · rw [if_neg (show ¬ (1 : Int32) = 0 by decide), if_neg (show ¬ (1 : Int32) = 0 by decide)]
            exact top_do t o hi hn
      · rw [ob2_of f1, ob2_of f2, if_pos (show (0 : Int32) = 0 from rfl), if_pos (show (0 : Int32) = 0 from rfl)]
        exact find_ok hS 1 (by decide)
  · rw [ob2_of e1, ob2_of e2, if_pos rfl, if_pos rfl]
    exact find_ok hS 1 (by decide)
end O4
