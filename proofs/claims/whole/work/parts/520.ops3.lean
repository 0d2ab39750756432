/-! calls that put down a row: shops, readings, toppings -/
theorem st_ne {μ : Mem} {k i a j : Nat} {v : Int32} (h : ¬ (a = k ∧ j = i)) : st μ k i v a j = μ a j := by rw [st_at, if_neg h]
theorem st_eq {μ : Mem} {k i : Nat} {v : Int32} : st μ k i v k i = v := by rw [st_at, if_pos ⟨rfl, rfl⟩]
theorem ShR.c {μ μ2 : Mem} {T s : Nat} {d d2 : Nat → Int32} (h : ShR μ T d s) (h3 : μ2 (T + 3) s = μ (T + 3) s) (h4 : μ2 (T + 4) s = μ (T + 4) s) (h5 : μ2 (T + 5) s = μ (T + 5) s) (h6 : μ2 (T + 6) s = μ (T + 6) s) (hd : ∀ w, 336 + 4 * s ≤ w → w < 340 + 4 * s → d2 w = d w) : ShR μ2 T d2 s := by
  unfold ShR
  rw [h3, h4, h5, h6, hd _ (by omega) (by omega), hd _ (by omega) (by omega), hd _ (by omega) (by omega), hd _ (by omega) (by omega)]
  exact h
theorem RdR.c {μ μ2 : Mem} {T s : Nat} {d d2 : Nat → Int32} (h : RdR μ T d s) (h3 : μ2 (T + 14) s = μ (T + 14) s) (h4 : μ2 (T + 15) s = μ (T + 15) s) (h5 : μ2 (T + 16) s = μ (T + 16) s) (h6 : μ2 (T + 17) s = μ (T + 17) s) (hd : ∀ w, 1124 + 4 * s ≤ w → w < 1128 + 4 * s → d2 w = d w) : RdR μ2 T d2 s := by
  unfold RdR
  rw [h3, h4, h5, h6, hd _ (by omega) (by omega), hd _ (by omega) (by omega), hd _ (by omega) (by omega), hd _ (by omega) (by omega)]
  exact h
theorem TpR.c {μ μ2 : Mem} {T s : Nat} {d d2 : Nat → Int32} (h : TpR μ T d s) (h3 : μ2 (T + 19) s = μ (T + 19) s) (h4 : μ2 (T + 20) s = μ (T + 20) s) (h5 : μ2 (T + 21) s = μ (T + 21) s) (hd : ∀ w, 1284 + 3 * s ≤ w → w < 1287 + 3 * s → d2 w = d w) : TpR μ2 T d2 s := by
  unfold TpR
  rw [h3, h4, h5, hd _ (by omega) (by omega), hd _ (by omega) (by omega), hd _ (by omega) (by omega)]
  exact h
theorem TaR.c {μ μ2 : Mem} {T s : Nat} {d d2 : Nat → Int32} (h : TaR μ T d s) (h3 : μ2 (T + 22) s = μ (T + 22) s) (hd : d2 (1884 + s) = d (1884 + s)) : TaR μ2 T d2 s := by
  unfold TaR
  rw [h3, hd]
  exact h
theorem place_ok (x : Int32) : (∀ m, X9_isPlace x m = some (0, m) ∧ X10_isPlace x m = some (0, m)) ∨ ∃ p q, p ≤ 30 ∧ q ≤ 30 ∧ x / 100 = nI p ∧ x - x / 100 * 100 = nI q ∧ ∀ m, X9_isPlace x m = some (1, m) ∧ X10_isPlace x m = some (1, m) := by
  by_cases h0 : x < 0
  · refine Or.inl (fun m => ?_)
    unfold X9_isPlace X10_isPlace
    rw [if_pos h0]
    exact ⟨rfl, rfl⟩
  · obtain ⟨k, hk, rfl⟩ := nI_of h0
    have e1 : nI k / 100 = nI (k / 100) := pk_div hk (by decide) (by decide)
    have e2 : nI k - nI k / 100 * 100 = nI (k % 100) := pk_rem hk (by decide) (by decide)
    rw [e1] at e2 ⊢
    by_cases h1 : 30 < k / 100
    · refine Or.inl (fun m => ?_)
      unfold X9_isPlace X10_isPlace
      rw [if_neg h0, e1, if_pos (show (30 : Int32) < nI (k / 100) from nI_lt (a := 30) h1 (by omega))]
      exact ⟨rfl, rfl⟩
    · have n1 : ¬ (30 : Int32) < nI (k / 100) := fun q => h1 ((nI_ltI (a := 30) (by decide) (by omega)).mp q)
      by_cases h2 : 30 < k % 100
      · refine Or.inl (fun m => ?_)
        unfold X9_isPlace X10_isPlace
        rw [if_neg h0, e1, if_neg n1, e2, if_pos (show (30 : Int32) < nI (k % 100) from nI_lt (a := 30) h2 (by omega))]
        exact ⟨rfl, rfl⟩
      · have n2 : ¬ (30 : Int32) < nI (k % 100) := fun q => h2 ((nI_ltI (a := 30) (by decide) (by omega)).mp q)
        refine Or.inr ⟨k / 100, k % 100, by omega, by omega, rfl, e2, fun m => ?_⟩
        unfold X9_isPlace X10_isPlace
        rw [if_neg h0, e1, if_neg n1, e2, if_neg n2]
        exact ⟨rfl, rfl⟩
theorem in_nat {x : Int32} {k : Nat} (hx : x = nI k) (hk : k < 2 ^ 31) (lo hi : Nat) (hl : lo < 2 ^ 31) (hh : hi < 2 ^ 31) (m : Mem) : X10_in x (nI lo) (nI hi) m = some (if lo ≤ k ∧ k ≤ hi then 1 else 0, m) := by
  subst hx
  rw [in_rg, i_n _ hl, i_n _ hh]
  unfold rg
  rw [i_n _ hk]
  by_cases h : lo ≤ k ∧ k ≤ hi
  · rw [if_pos h, if_pos (by omega)]
  · rw [if_neg h, if_neg (by omega)]
/-- hours of a shop -/
theorem opening_ok (x : Int32) (m m2 : Mem) : (X9_isOpening x m = some (0, m) ∧ ∀ (A B : Mem → Option (Int32 × Mem)), (ob2 (X10_in x 0 2399 m2) fun r4 μ4 => (if r4 = 0 then A μ4 else ob2 (X10_in (x - x / 100 * 100) ((x / 100) + 1) 24 μ4) fun r6 μ6 => (if r6 = 0 then A μ6 else B μ6))) = A m2) ∨ (X9_isOpening x m = some (1, m) ∧ ∀ (A B : Mem → Option (Int32 × Mem)), (ob2 (X10_in x 0 2399 m2) fun r4 μ4 => (if r4 = 0 then A μ4 else ob2 (X10_in (x - x / 100 * 100) ((x / 100) + 1) 24 μ4) fun r6 μ6 => (if r6 = 0 then A μ6 else B μ6))) = B m2) := by
  by_cases h0 : x < 0
  · refine Or.inl ⟨by unfold X9_isOpening; rw [if_pos h0], fun A B => ?_⟩
    have : X10_in x 0 2399 m2 = some (0, m2) := by unfold X10_in; rw [if_pos h0]
    rw [ob2_of this, if_pos rfl]
  · obtain ⟨k, hk, rfl⟩ := nI_of h0
    have e1 : nI k / 100 = nI (k / 100) := pk_div hk (by decide) (by decide)
    have e2 : nI k - nI k / 100 * 100 = nI (k % 100) := pk_rem hk (by decide) (by decide)
    rw [e1] at e2 ⊢
    have e3 : nI (k / 100) + 1 = nI (k / 100 + 1) := nI_1 _
    have c1 := fun m => in_nat (x := nI k) rfl hk 0 2399 (by decide) (by decide) m
    have c2 := fun m => in_nat (x := nI (k % 100)) rfl (by omega) (k / 100 + 1) 24 (by omega) (by decide) m
    have cc : X9_isOpening (nI k) m = some (if k % 100 ≤ 24 ∧ k / 100 < k % 100 then 1 else 0, m) := by
      unfold X9_isOpening
      rw [if_neg h0, e1, e2]
      by_cases h1 : 24 < k % 100
      · rw [if_pos (show (24 : Int32) < nI (k % 100) from nI_lt (a := 24) h1 (by omega)), if_neg (by omega)]
      · rw [if_neg (show ¬ (24 : Int32) < nI (k % 100) from fun q => h1 ((nI_ltI (a := 24) (by decide) (by omega)).mp q))]
        by_cases h2 : k % 100 ≤ k / 100
        · rw [if_pos (nI_le h2 (by omega)), if_neg (by omega)]
        · rw [if_neg (fun q => h2 ((nI_leI (by omega) (by omega)).mp q)), if_pos (by omega)]
    have mm : ∀ (A B : Mem → Option (Int32 × Mem)), (ob2 (X10_in (nI k) 0 2399 m2) fun r4 μ4 => (if r4 = 0 then A μ4 else ob2 (X10_in (nI k - nI (k / 100) * 100) (nI (k / 100) + 1) 24 μ4) fun r6 μ6 => (if r6 = 0 then A μ6 else B μ6))) = if k % 100 ≤ 24 ∧ k / 100 < k % 100 then B m2 else A m2 := by
      intro A B
      have d1 : X10_in (nI k) 0 2399 m2 = _ := c1 m2
      rw [ob2_of d1, e2, e3]
      have d2 : X10_in (nI (k % 100)) (nI (k / 100 + 1)) 24 m2 = _ := c2 m2
      rw [ob2_of d2]
      by_cases h1 : 0 ≤ k ∧ k ≤ 2399
      · rw [if_pos h1, if_neg (show ¬ (1 : Int32) = 0 by decide)]
        by_cases h2 : k / 100 + 1 ≤ k % 100 ∧ k % 100 ≤ 24
        · rw [if_pos h2, if_neg (show ¬ (1 : Int32) = 0 by decide), if_pos (by omega)]
        · rw [if_neg h2, if_pos (show (0 : Int32) = 0 from rfl), if_neg (by omega)]
      · rw [if_neg h1, if_pos (show (0 : Int32) = 0 from rfl), if_neg (by omega)]
    by_cases hz : k % 100 ≤ 24 ∧ k / 100 < k % 100
    · refine Or.inr ⟨by rw [cc, if_pos hz], fun A B => by rw [mm, if_pos hz]⟩
    · refine Or.inl ⟨by rw [cc, if_neg hz], fun A B => by rw [mm, if_neg hz]⟩
section O3
variable {j : Nat} {μ ν : Mem}
theorem shop_c {ns : Nat} (h : μ 3 4 = nI ns) (hn : ns < 8) (x1 x2 : Int32) : X5_add x1 x2 μ = some (nI ns, st (st (st (st (st μ 4 ns (x1 / 100)) 5 ns (x1 - x1 / 100 * 100)) 6 ns (x2 / 100)) 7 ns (x2 - x2 / 100 * 100)) 3 4 (nI (ns + 1))) := by
  have hin : inB (nI ns) 8 := i_in (by omega) (by omega)
  unfold X5_add
  rw [h, if_pos (show nI ns < 8 from nI_lt (b := 8) hn (by decide)), gd_pos hin, i_tn (by omega)]
  simp only [lt_of, st_ne (show ¬ (3 = 4 ∧ 4 = ns) by omega), st_ne (show ¬ (3 = 5 ∧ 4 = ns) by omega), st_ne (show ¬ (3 = 6 ∧ 4 = ns) by omega), st_ne (show ¬ (3 = 7 ∧ 4 = ns) by omega), h, gd_pos hin, i_tn (show ns < 2 ^ 31 by omega), st_eq, nI_1, nI_pred]
theorem shop_m {ns : Nat} (h : ν 1 2 = nI ns) (hn : ns < 8) (x1 x2 : Int32) : (gd (inB (336 + (4 * (ν 1 2))) 1944) (lt (st ν 1 (336 + (4 * (ν 1 2))).toNatClampNeg (x1 / 100)) fun μ10 => gd (inB ((336 + (4 * (ν 1 2))) + 1) 1944) (lt (st μ10 1 ((336 + (4 * (ν 1 2))) + 1).toNatClampNeg (x1 - x1 / 100 * 100)) fun μ12 => gd (inB ((336 + (4 * (ν 1 2))) + 2) 1944) (lt (st μ12 1 ((336 + (4 * (ν 1 2))) + 2).toNatClampNeg (x2 / 100)) fun μ14 => gd (inB ((336 + (4 * (ν 1 2))) + 3) 1944) (lt (st μ14 1 ((336 + (4 * (ν 1 2))) + 3).toNatClampNeg (x2 - x2 / 100 * 100)) fun μ16 => lt (st μ16 1 2 ((μ16 1 2) + 1)) fun μ17 => some (((μ17 1 2) - 1), μ17)))))) = some (nI ns, st (st (st (st (st ν 1 (336 + 4 * ns) (x1 / 100)) 1 (337 + 4 * ns) (x1 - x1 / 100 * 100)) 1 (338 + 4 * ns) (x2 / 100)) 1 (339 + 4 * ns) (x2 - x2 / 100 * 100)) 1 2 (nI (ns + 1))) := by
  have e : (336 : Int32) + 4 * nI ns = nI (336 + 4 * ns) := by rw [show (336 : Int32) = nI 336 from rfl, show (4 : Int32) = nI 4 from rfl, pk_mul, nI_add]
  have e1 : nI (336 + 4 * ns) + 1 = nI (337 + 4 * ns) := by rw [nI_1]; congr 1; omega
  have e2 : nI (336 + 4 * ns) + 2 = nI (338 + 4 * ns) := by rw [show (2 : Int32) = nI 2 from rfl, nI_add]; congr 1; omega
  have e3 : nI (336 + 4 * ns) + 3 = nI (339 + 4 * ns) := by rw [show (3 : Int32) = nI 3 from rfl, nI_add]; congr 1; omega
  rw [h, e, e1, e2, e3, gd_pos (i_in (by omega) (by omega)), i_tn (by omega), lt_of, gd_pos (i_in (by omega) (by omega)), i_tn (by omega), lt_of, gd_pos (i_in (by omega) (by omega)), i_tn (by omega), lt_of, gd_pos (i_in (by omega) (by omega)), i_tn (by omega), lt_of, lt_of]
  simp only [st_ne (show ¬ (1 = 1 ∧ 2 = 336 + 4 * ns) by omega), st_ne (show ¬ (1 = 1 ∧ 2 = 337 + 4 * ns) by omega), st_ne (show ¬ (1 = 1 ∧ 2 = 338 + 4 * ns) by omega), st_ne (show ¬ (1 = 1 ∧ 2 = 339 + 4 * ns) by omega), h, st_eq, nI_1, nI_pred]
theorem op_shop (a0 a1 : Int32) (hS : Sim j μ ν) : ∃ r μ2 ν2, X9_shop a0 a1 μ = some (r, μ2) ∧ X10_shop a0 a1 ν = some (r, ν2) ∧ Sim (j + 1) μ2 ν2 := by
  obtain ⟨⟨h, nm, ns, nl, nr, nt, tl, t⟩, o⟩ := id hS
  have b := t.1
  unfold X9_shop X10_shop
  have n1 : μ 3 4 = nI ns := t.2.2.2.1.1
  have n2 : ν 1 2 = nI ns := t.2.2.2.1.2
  rcases place_ok a0 with hp | ⟨p, q, hp, hq, p1, p2, hp2⟩
  · rw [ob2_of (hp μ).1, ob2_of (hp ν).2, if_pos rfl, if_pos rfl]
    exact find_ok hS 1 (by decide)
  · rw [ob2_of (hp2 μ).1, ob2_of (hp2 ν).2, if_neg (show ¬ (1 : Int32) = 0 by decide), if_neg (show ¬ (1 : Int32) = 0 by decide)]
    rcases opening_ok a1 μ ν with ⟨o1, o2⟩ | ⟨o1, o2⟩
    · rw [ob2_of o1, if_pos rfl, o2]
      exact find_ok hS 1 (by decide)
    · rw [ob2_of o1, if_neg (show ¬ (1 : Int32) = 0 by decide), o2]
      by_cases h8 : ns = 8
      · rw [n1, n2, h8, if_neg (show ¬ nI 8 < 8 by decide), if_pos (show nI 8 = 8 from rfl)]
        exact find_ok hS 4 (by decide)
      · rw [if_pos (show μ 3 4 < 8 by rw [n1]; exact nI_lt (b := 8) (by omega) (by decide)), if_neg (show ¬ ν 1 2 = 8 by rw [n2]; exact fun q => h8 ((nI_eq (b := 8) (by omega) (by decide)).mp q)), ob2_of (shop_c n1 (by omega) _ _), shop_m n2 (by omega)]
        refine ⟨_, _, _, rfl, rfl, ?_⟩
        generalize a1 / 100 = v1
        generalize a1 - v1 * 100 = v2
        rw [p2, p1]
        have ox : ∀ a, a ≠ 3 → a ≠ 4 → a ≠ 5 → a ≠ 6 → a ≠ 7 → st (st (st (st (st μ 4 ns (nI p)) 5 ns (nI q)) 6 ns v1) 7 ns v2) 3 4 (nI (ns + 1)) a = μ a := fun a h3 h4 h5 h6 h7 => by
          rw [st_other _ _ _ h3, st_other _ _ _ h7, st_other _ _ _ h6, st_other _ _ _ h5, st_other _ _ _ h4]
        have om : ∀ a, a ≠ 1 → st (st (st (st (st ν 1 (336 + 4 * ns) (nI p)) 1 (337 + 4 * ns) (nI q)) 1 (338 + 4 * ns) v1) 1 (339 + 4 * ns) v2) 1 2 (nI (ns + 1)) a = ν a := fun a h1 => by
          rw [st_other _ _ _ h1, st_other _ _ _ h1, st_other _ _ _ h1, st_other _ _ _ h1, st_other _ _ _ h1]
        have od : ∀ w, w ≠ 2 → (w < 336 + 4 * ns ∨ 340 + 4 * ns ≤ w) → st (st (st (st (st ν 1 (336 + 4 * ns) (nI p)) 1 (337 + 4 * ns) (nI q)) 1 (338 + 4 * ns) v1) 1 (339 + 4 * ns) v2) 1 2 (nI (ns + 1)) 1 w = ν 1 w := fun w h1 h2 => by
          rw [st_ne (by omega), st_ne (by omega), st_ne (by omega), st_ne (by omega), st_ne (by omega)]
        obtain ⟨⟨b1, b2, b3, b4, b5, b6⟩, h1, h2, h3, h4, h5, h6, h7, h8', h9, h10, h11, h12, h13⟩ := t
        have hl := h4.1
        refine ⟨⟨h, nm, ns + 1, nl, nr, nt, tl, ⟨b1, b2, by omega, b4, b5, b6⟩, ?_, ?_, ?_, h4.c (fun a q1 q2 => ox a (by omega) (by omega) (by omega) (by omega) (by omega)) (fun w hw => od w (by omega) (by omega)), ?_, ?_, ?_, ?_, fun i hi => (h9 i hi).cong (ox _ (by omega) (by omega) (by omega) (by omega) (by omega)) (ox _ (by omega) (by omega) (by omega) (by omega) (by omega)) (fun w hw => od _ (by omega) (by omega)), fun s hs => ?_, fun r hr => ?_, fun k hk => ?_, fun k hk => ?_⟩, o.fr (fun a ha => ox a (by omega) (by omega) (by omega) (by omega) (by omega)) ⟨fun a ha => om a (by omega), fun k _ => by rw [om 0 (by decide)]⟩⟩
        · rw [ox 1 (by omega) (by omega) (by omega) (by omega) (by omega), od 0 (by omega) (by omega)]; exact h1
        · rw [ox 1 (by omega) (by omega) (by omega) (by omega) (by omega), od 1 (by omega) (by omega)]; exact h2
        · exact ⟨st_eq, st_eq⟩
        · rw [ox (1 + 13) (by omega) (by omega) (by omega) (by omega) (by omega), od 4 (by omega) (by omega)]; exact h5
        · rw [ox (1 + 18) (by omega) (by omega) (by omega) (by omega) (by omega), od 5 (by omega) (by omega)]; exact h6
        · rw [ox 1 (by omega) (by omega) (by omega) (by omega) (by omega), od 6 (by omega) (by omega)]; exact h7
        · rw [ox (1 + 18) (by omega) (by omega) (by omega) (by omega) (by omega), od 7 (by omega) (by omega), od 8 (by omega) (by omega)]; exact h8'
        · by_cases hsn : s = ns
          · subst hsn
            refine ⟨?_, ?_, ?_, ?_, ⟨p, hp, ?_⟩, ⟨q, hq, ?_⟩⟩
            · rw [st_ne (by omega), st_ne (by omega), st_ne (by omega), st_ne (by omega), st_eq, st_ne (by omega), st_ne (by omega), st_ne (by omega), st_ne (by omega), st_eq]
            · rw [st_ne (by omega), st_ne (by omega), st_ne (by omega), st_eq, st_ne (by omega), st_ne (by omega), st_ne (by omega), st_eq]
            · rw [st_ne (by omega), st_ne (by omega), st_eq, st_ne (by omega), st_ne (by omega), st_eq]
            · rw [st_ne (by omega), st_eq, st_ne (by omega), st_eq]
            · rw [st_ne (by omega), st_ne (by omega), st_ne (by omega), st_ne (by omega), st_eq]
            · rw [st_ne (by omega), st_ne (by omega), st_ne (by omega), st_eq]
          · refine (h10 s (by omega)).c ?_ ?_ ?_ ?_ (fun w q1 q2 => od w (by omega) (by omega)) <;> rw [st_ne (by omega), st_ne (by omega), st_ne (by omega), st_ne (by omega), st_ne (by omega)]
        · exact (h11 r hr).c (by rw [ox _ (by omega) (by omega) (by omega) (by omega) (by omega)]) (by rw [ox _ (by omega) (by omega) (by omega) (by omega) (by omega)]) (by rw [ox _ (by omega) (by omega) (by omega) (by omega) (by omega)]) (by rw [ox _ (by omega) (by omega) (by omega) (by omega) (by omega)]) (fun w q1 q2 => od w (by omega) (by omega))
        · exact (h12 k hk).c (by rw [ox _ (by omega) (by omega) (by omega) (by omega) (by omega)]) (by rw [ox _ (by omega) (by omega) (by omega) (by omega) (by omega)]) (by rw [ox _ (by omega) (by omega) (by omega) (by omega) (by omega)]) (fun w q1 q2 => od w (by omega) (by omega))
        · exact (h13 k hk).c (by rw [ox _ (by omega) (by omega) (by omega) (by omega) (by omega)]) (od _ (by omega) (by omega))
end O3
