/-! the readers' parts, one by one -/
theorem CM_up (μ : Mem) (i : Nat) (ft : Int32) (cnt : Nat) (cd : Nat → Int32) : st (CM μ i ft cnt cd) 81 4 ((CM μ i ft cnt cd 81 4) + 1) = CM μ (i + 1) ft cnt cd := by
  rw [CM_4, nI_1, CM_st4]
theorem MM_up (ν : Mem) (i op : Nat) (bad : Bool) : st (MM ν i op bad) 0 8 ((MM ν i op bad 0 8) + 1) = MM ν (i + 1) op bad := by
  rw [MM_8, nI_1, MM_st8]
theorem k60 {k : Nat} (h : k < 60) : ¬ (60 : Int32) ≤ nI k := by
  rw [i_le, i_n k (by omega)]
  show ¬ (60 : Int) ≤ k
  omega
theorem div_m1 (x : Int32) : x / (-1) = -x := Int32.toInt_inj.mp (by rw [Int32.toInt_div, show (-1 : Int32).toInt = -1 from by decide, Int32.toInt_neg, Int.tdiv_neg, Int.tdiv_one])
section RD
variable {μ : Mem} {B : Nat → Nat} {n op : Nat} {S : Int32 → Mem → Option Mem} {S2 : Mem → Option (Int32 × Mem)}
theorem nt_product (hC : COK μ B n) (hS : ∀ i, i ≤ n → NT μ B n op i (S (nI op)) S2) (i : Nat) (hi : i ≤ n) : NT μ B n op i (X0_readProduct S (nI op)) (X10_term S2) := by
  refine seqNT hC (fun o => o = 42 ∨ o = 47) (fun o h => by unfold opr; omega) hS (Lc := fun f k m => X0_readProduct_7 S f (nI op) (nI k) m) (Lm := fun f v m => ob2 (X10_byteAt m) fun z m2 => X10_term_10 S2 f v z m2) ?_ ?_ ?_ ?_ i hi
  · intro f k i ft cnt cd z hk hz ho
    show X0_readProduct_7 S (f + 1) (nI op) (nI k) _ = _
    rw [X0_readProduct_7.eq_2, if_neg (k60 hk), ob2_of hz, if_neg (show ¬ z = (42 : Int32) from ho 42 (Or.inl rfl)), ob2_of hz, if_neg (show ¬ z = (47 : Int32) from ho 47 (Or.inr rfl))]
  · intro f k i ft cnt cd o hk ho hz
    show X0_readProduct_7 S (f + 1) (nI op) (nI k) _ = _
    rw [X0_readProduct_7.eq_2, if_neg (k60 hk), ob2_of hz]
    rcases ho with rfl | rfl
    · rw [if_pos (show nI 42 = (42 : Int32) from rfl)]
      unfold X0_readProduct_31
      rw [ob2_of hz, lt_of, CM_up, nI_1]
    · rw [if_neg (by decide), ob2_of hz, if_pos (show nI 47 = (47 : Int32) from rfl)]
      unfold X0_readProduct_31
      rw [ob2_of hz, lt_of, CM_up, nI_1]
  · intro f v ν i bad z hz ho
    show ob2 _ _ = _
    rw [ob2_of hz, X10_term_10.eq_2, if_neg (show ¬ z = (42 : Int32) from ho 42 (Or.inl rfl)), if_neg (show ¬ z = (47 : Int32) from ho 47 (Or.inr rfl))]
  · intro f v ν i bad o ho hz
    show ob2 _ _ = _
    rw [ob2_of hz, X10_term_10.eq_2]
    rcases ho with rfl | rfl
    · rw [if_pos (show nI 42 = (42 : Int32) from rfl)]
      unfold X10_term_22
      rw [lt_of, MM_up]
      congr 1
    · rw [if_neg (by decide), if_pos (show nI 47 = (47 : Int32) from rfl)]
      unfold X10_term_22
      rw [lt_of, MM_up]
      congr 1
      funext w ν1
      rw [if_neg (by decide)]
      unfold X10_term_70
      have ej : jn v (nI 47) w = if w = 0 then 0 else v / w := rfl
      rw [ej]
      by_cases h0 : w = 0
      · rw [if_pos h0, if_pos h0]
      · rw [if_neg h0, if_neg h0]
        by_cases h1 : w = -1
        · rw [if_pos h1, h1, div_m1]
        · rw [if_neg h1, gd_pos h0]
theorem nt_sum (hC : COK μ B n) (hS : ∀ i, i ≤ n → NT μ B n op i (S (nI op)) S2) (i : Nat) (hi : i ≤ n) : NT μ B n op i (X0_readSum S (nI op)) (X10_added S2) := by
  refine seqNT hC (fun o => o = 43 ∨ o = 45) (fun o h => by unfold opr; omega) (nt_product hC hS) (Lc := fun f k m => X0_readSum_7 S f (nI op) (nI k) m) (Lm := fun f v m => ob2 (X10_byteAt m) fun z m2 => X10_added_10 S2 f v z m2) ?_ ?_ ?_ ?_ i hi
  · intro f k i ft cnt cd z hk hz ho
    show X0_readSum_7 S (f + 1) (nI op) (nI k) _ = _
    rw [X0_readSum_7.eq_2, if_neg (k60 hk), ob2_of hz, if_neg (show ¬ z = (43 : Int32) from ho 43 (Or.inl rfl)), ob2_of hz, if_neg (show ¬ z = (45 : Int32) from ho 45 (Or.inr rfl))]
  · intro f k i ft cnt cd o hk ho hz
    show X0_readSum_7 S (f + 1) (nI op) (nI k) _ = _
    rw [X0_readSum_7.eq_2, if_neg (k60 hk), ob2_of hz]
    rcases ho with rfl | rfl
    · rw [if_pos (show nI 43 = (43 : Int32) from rfl)]
      unfold X0_readSum_31
      rw [ob2_of hz, lt_of, CM_up, nI_1]
    · rw [if_neg (by decide), ob2_of hz, if_pos (show nI 45 = (45 : Int32) from rfl)]
      unfold X0_readSum_31
      rw [ob2_of hz, lt_of, CM_up, nI_1]
  · intro f v ν i bad z hz ho
    show ob2 _ _ = _
    rw [ob2_of hz, X10_added_10.eq_2, if_neg (show ¬ z = (43 : Int32) from ho 43 (Or.inl rfl)), if_neg (show ¬ z = (45 : Int32) from ho 45 (Or.inr rfl))]
  · intro f v ν i bad o ho hz
    show ob2 _ _ = _
    rw [ob2_of hz, X10_added_10.eq_2]
    rcases ho with rfl | rfl
    · rw [if_pos (show nI 43 = (43 : Int32) from rfl)]
      unfold X10_added_22
      rw [lt_of, MM_up]
      congr 1
    · rw [if_neg (by decide), if_pos (show nI 45 = (45 : Int32) from rfl)]
      unfold X10_added_22
      rw [lt_of, MM_up]
      congr 1
theorem nt_compared (hC : COK μ B n) (hS : ∀ i, i ≤ n → NT μ B n op i (S (nI op)) S2) (i : Nat) (hi : i ≤ n) : NT μ B n op i (X0_readCompared S (nI op)) (X10_relation S2) := by
  have hn60 := hC.2.2.1
  have hB := hC.2.2.2.2
  obtain ⟨j, bad, cs, v, h1, h2, h3, h4, h5⟩ := nt_sum hC hS i hi
  cases bad with
  | true =>
    refine ⟨j, true, cs, v, h1, h2, fun h => (by cases h), fun cnt cd hcnt => ?_, fun ν fr hν => ?_⟩
    · obtain ⟨ft, cnt2, cd2, e1, e2, e3, -⟩ := h4 cnt cd hcnt
      obtain ⟨z, hz, hnz⟩ := next_stk (cnt := cnt2) (cd := cd2) hC h2 (e3 rfl)
      refine ⟨ft, cnt2, cd2, ?_, e2, e3, fun h => (by cases h)⟩
      unfold X0_readCompared
      rw [ob_of e1, ob2_of hz, if_neg (show ¬ z = (60 : Int32) from noop_ne (k := 60) hnz (by omega)), if_neg (show ¬ z = (61 : Int32) from noop_ne (k := 61) hnz (by omega)), if_neg (show ¬ z = (62 : Int32) from noop_ne (k := 62) hnz (by omega))]
    · obtain ⟨x, e1, -⟩ := h5 ν fr hν
      refine ⟨x, ?_, fun h => (by cases h)⟩
      unfold X10_relation
      rw [ob2_of e1, ob2_of byte_bad, if_neg (by decide), if_neg (by decide), if_neg (by decide)]
  | false =>
    obtain ⟨g1, g2, g3⟩ := h3 rfl
    by_cases hop : ∃ o, (o = 60 ∨ o = 61 ∨ o = 62) ∧ pk B n j = nI o
    · obtain ⟨o, ho, hpk⟩ := hop
      have hopr : opr o := by unfold opr; omega
      have hin := (pk_op hB (by omega) hpk).1
      obtain ⟨j2, bad2, ds, w, a1, a2, a3, a4, a5⟩ := nt_sum hC hS (j + 1) (by omega)
      have ec : ∀ cnt cd, X0_readCompared S (nI op) (CM μ i (-1) cnt cd) = ob (X0_readSum S (nI op) (CM μ i (-1) cnt cd)) fun μ1 => ob2 (X0_next μ1) fun r2 μ2 => (if r2 = 60 then X0_readCompared_28 S (nI op) r2 μ2 else (if r2 = 61 then X0_readCompared_28 S (nI op) r2 μ2 else (if r2 = 62 then X0_readCompared_28 S (nI op) r2 μ2 else some μ2))) := fun _ _ => rfl
      have sel : ∀ (X : Int32 → Mem → Option Mem) (m : Mem), (if nI o = 60 then X (nI o) m else (if nI o = 61 then X (nI o) m else (if nI o = 62 then X (nI o) m else some m))) = X (nI o) m := by
        intro X m
        rcases ho with rfl | rfl | rfl
        · rw [if_pos (show nI 60 = (60 : Int32) from rfl)]
        · rw [if_neg (by decide), if_pos (show nI 61 = (61 : Int32) from rfl)]
        · rw [if_neg (by decide), if_neg (by decide), if_pos (show nI 62 = (62 : Int32) from rfl)]
      have sel2 : ∀ (X : Int32 → Int32 → Mem → Option (Int32 × Mem)) (a : Int32) (m : Mem), (if nI o = 60 then X a (nI o) m else (if nI o = 61 then X a (nI o) m else (if nI o = 62 then X a (nI o) m else some (a, m)))) = X a (nI o) m := by
        intro X a m
        rcases ho with rfl | rfl | rfl
        · rw [if_pos (show nI 60 = (60 : Int32) from rfl)]
        · rw [if_neg (by decide), if_pos (show nI 61 = (61 : Int32) from rfl)]
        · rw [if_neg (by decide), if_neg (by decide), if_pos (show nI 62 = (62 : Int32) from rfl)]
      refine ⟨j2, bad2, cs ++ (ds ++ [-(nI o)]), fun env => jn (v env) (nI o) (w env), by omega, a2, fun h => ?_, fun cnt cd hcnt => ?_, fun ν fr hν => ?_⟩
      · obtain ⟨b1, b2, b3⟩ := a3 h
        exact ⟨by omega, by simp; omega, Rp_bin hopr g3 b3⟩
      · obtain ⟨ft, cnt2, cd2, e1, e2, -, e4⟩ := h4 cnt cd hcnt
        obtain ⟨rfl, rfl, rfl⟩ := e4 rfl
        obtain ⟨ft2, cnt3, cd3, b1, b2, b3, b4⟩ := a4 (cnt + cs.length) (app cd cnt cs) (by omega)
        refine ⟨ft2, cnt3 + 1, upd cd3 cnt3 (-(nI o)), ?_, by omega, b3, fun h => ?_⟩
        · rw [ec, ob_of e1, ob2_of (by rw [next_good hC h2, hpk]), sel (X0_readCompared_28 S (nI op))]
          unfold X0_readCompared_28
          rw [lt_of, CM_up, ob_of b1, ob_of (emit_ok (by omega))]
        · obtain ⟨rfl, rfl, rfl⟩ := b4 h
          refine ⟨rfl, by simp; omega, ?_⟩
          rw [app_app, app_app, app_one]
      · obtain ⟨x, e1, e2⟩ := h5 ν fr hν
        obtain ⟨y, b1, b2⟩ := a5 ν fr hν
        refine ⟨jn x (nI o) y, ?_, fun h => by rw [e2 rfl, b2 h]⟩
        unfold X10_relation
        rw [ob2_of e1, ob2_of (by rw [byte_good hν h2, hpk]), sel2 (X10_relation_30 S2)]
        unfold X10_relation_30
        rw [lt_of, MM_up, ob2_of b1]
        rcases ho with rfl | rfl | rfl
        · rw [if_pos (show nI 60 = (60 : Int32) from rfl)]
          have ej : jn x (nI 60) y = if y ≤ x then 0 else 1 := rfl
          rw [ej]
          split <;> rfl
        · rw [if_neg (by decide), if_pos (show nI 61 = (61 : Int32) from rfl)]
          have ej : jn x (nI 61) y = if x = y then 1 else 0 := rfl
          rw [ej]
          split <;> rfl
        · rw [if_neg (by decide), if_neg (by decide)]
          have ej : jn x (nI 62) y = if x ≤ y then 0 else 1 := rfl
          rw [ej]
          split <;> rfl
    · have hno : ∀ k : Nat, (k = 60 ∨ k = 61 ∨ k = 62) → ¬ pk B n j = nI k := fun k hk q => hop ⟨k, hk, q⟩
      refine ⟨j, false, cs, v, h1, h2, h3, fun cnt cd hcnt => ?_, fun ν fr hν => ?_⟩
      · obtain ⟨ft, cnt2, cd2, e1, e2, e3, e4⟩ := h4 cnt cd hcnt
        obtain ⟨rfl, rfl, rfl⟩ := e4 rfl
        refine ⟨-1, cnt + cs.length, app cd cnt cs, ?_, e2, e3, e4⟩
        unfold X0_readCompared
        rw [ob_of e1, ob2_of (next_good hC h2), if_neg (show ¬ pk B n j = (60 : Int32) from hno 60 (by omega)), if_neg (show ¬ pk B n j = (61 : Int32) from hno 61 (by omega)), if_neg (show ¬ pk B n j = (62 : Int32) from hno 62 (by omega))]
      · obtain ⟨x, e1, e2⟩ := h5 ν fr hν
        refine ⟨x, ?_, e2⟩
        unfold X10_relation
        rw [ob2_of e1, ob2_of (byte_good hν h2), if_neg (show ¬ pk B n j = (60 : Int32) from hno 60 (by omega)), if_neg (show ¬ pk B n j = (61 : Int32) from hno 61 (by omega)), if_neg (show ¬ pk B n j = (62 : Int32) from hno 62 (by omega))]
theorem nt_both (hC : COK μ B n) (hS : ∀ i, i ≤ n → NT μ B n op i (S (nI op)) S2) (i : Nat) (hi : i ≤ n) : NT μ B n op i (X0_readBoth S (nI op)) (X10_both S2) := by
  refine seqNT hC (fun o => o = 38) (fun o h => by unfold opr; omega) (nt_compared hC hS) (Lc := fun f k m => X0_readBoth_7 S f (nI op) (nI k) m) (Lm := fun f v m => X10_both_5 S2 f v m) ?_ ?_ ?_ ?_ i hi
  · intro f k i ft cnt cd z hk hz ho
    show X0_readBoth_7 S (f + 1) (nI op) (nI k) _ = _
    rw [X0_readBoth_7.eq_2, if_neg (k60 hk), ob2_of hz, if_neg (show ¬ z = (38 : Int32) from ho 38 rfl)]
  · intro f k i ft cnt cd o hk ho hz
    subst ho
    show X0_readBoth_7 S (f + 1) (nI op) (nI k) _ = _
    rw [X0_readBoth_7.eq_2, if_neg (k60 hk), ob2_of hz, if_pos (show nI 38 = (38 : Int32) from rfl), lt_of, CM_up, nI_1]
    rfl
  · intro f v ν i bad z hz ho
    show X10_both_5 S2 (f + 1) v _ = _
    rw [X10_both_5.eq_2, ob2_of (eats_no (c := 38) hz (ho 38 rfl)), if_pos rfl]
  · intro f v ν i bad o ho hz
    subst ho
    show X10_both_5 S2 (f + 1) v _ = _
    rw [X10_both_5.eq_2, ob2_of (eats_yes (c := 38) hz), if_neg (by decide)]
    congr 1
    funext w ν1
    have ej : jn v (nI 38) w = if v = 0 then 0 else if w = 0 then 0 else 1 := rfl
    rw [ej]
    unfold X10_both_31 X10_both_32
    by_cases h0 : v = 0
    · rw [if_pos h0, if_pos h0]
    · rw [if_neg h0, if_neg h0]
      by_cases h1 : w = 0
      · rw [if_pos h1, if_pos h1]
      · rw [if_neg h1, if_neg h1]
theorem nt_either (hC : COK μ B n) (hS : ∀ i, i ≤ n → NT μ B n op i (S (nI op)) S2) (i : Nat) (hi : i ≤ n) : NT μ B n op i (X0_readEither S (nI op)) (X10_either S2) := by
  refine seqNT hC (fun o => o = 124) (fun o h => by unfold opr; omega) (nt_both hC hS) (Lc := fun f k m => X0_readEither_7 S f (nI op) (nI k) m) (Lm := fun f v m => X10_either_5 S2 f v m) ?_ ?_ ?_ ?_ i hi
  · intro f k i ft cnt cd z hk hz ho
    show X0_readEither_7 S (f + 1) (nI op) (nI k) _ = _
    rw [X0_readEither_7.eq_2, if_neg (k60 hk), ob2_of hz, if_neg (show ¬ z = (124 : Int32) from ho 124 rfl)]
  · intro f k i ft cnt cd o hk ho hz
    subst ho
    show X0_readEither_7 S (f + 1) (nI op) (nI k) _ = _
    rw [X0_readEither_7.eq_2, if_neg (k60 hk), ob2_of hz, if_pos (show nI 124 = (124 : Int32) from rfl), lt_of, CM_up, nI_1]
    rfl
  · intro f v ν i bad z hz ho
    show X10_either_5 S2 (f + 1) v _ = _
    rw [X10_either_5.eq_2, ob2_of (eats_no (c := 124) hz (ho 124 rfl)), if_pos rfl]
  · intro f v ν i bad o ho hz
    subst ho
    show X10_either_5 S2 (f + 1) v _ = _
    rw [X10_either_5.eq_2, ob2_of (eats_yes (c := 124) hz), if_neg (by decide)]
    congr 1
    funext w ν1
    have ej : jn v (nI 124) w = if v = 0 then (if w = 0 then 0 else 1) else 1 := rfl
    rw [ej]
    unfold X10_either_27 X10_either_32
    by_cases h0 : v = 0
    · rw [if_pos h0, if_pos h0]
      by_cases h1 : w = 0
      · rw [if_pos h1, if_pos h1]
      · rw [if_neg h1, if_neg h1]
    · rw [if_neg h0, if_neg h0]
end RD
