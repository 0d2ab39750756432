/-! topping and an hour of a trial -/
section TR2
variable {c nl : Nat} {μ : Mem} {d : Nat → Int32}
theorem PR.tr6 {F μ' : Mem} (P : PR c F μ') {v v' : Int32} (hv : v.toInt ≤ (F c 6).toInt) (e : v' = v) : PR c (st F c 6 v) (st μ' c 6 v') := by
  subst e
  exact P.put6 hv
theorem PR.trk {F μ' : Mem} (P : PR c F μ') (k : Nat) (hk : k ≠ 6 ∧ k ≠ 7) {v v' : Int32} (e : v' = v) : PR c (st F c k v) (st μ' c k v') := by
  subst e
  exact P.put k hk _
theorem topup_u (hL : LR μ 1 d nl) (hc : 24 ≤ c) (hD : DB nl c μ) (x : Int32) {n : Nat} (hn9 : n ≤ 9999) : ∃ z G, K1 c μ G ∧ G c 12 = μ c 12 ∧ DB nl c G ∧ ∀ μ', PR c μ μ' → ∃ μ2, X7_topUp c x (nI n) μ' = some (z, μ2) ∧ PR c G μ2 := by
  obtain ⟨t, ht, hT⟩ := taken_u hL hc hD x hn9
  obtain ⟨o, p, ho, hp, d6, d7, dL⟩ := hD
  have eo : (μ c 6).toInt = (o : Int) := by rw [d6, i_n _ (by omega)]
  have es : (μ c 6 - t).toInt = (o : Int) - t.toInt := by rw [i_sub (by omega) (by omega), eo]
  have k1 : K1 c μ (st μ c 6 (μ c 6 - t)) := (K1.rf c μ).put6 (by omega)
  have k2 := k1.put 5 (by decide) (μ c 5 + (nI n - t))
  generalize hF : st (st μ c 6 (μ c 6 - t)) c 5 (μ c 5 + (nI n - t)) = F at k2
  have L2 : LR F 1 d nl := hL.k hc k2.1
  obtain ⟨r, hr, hR⟩ := rul_u L2 hc 0 x
  have F6 : F c 6 = nI (o - t.toInt.toNat) := by
    rw [← hF, st_ne (by omega), st_eq]
    exact i_eq.mpr (by rw [es, i_n _ (by omega)]; omega)
  have F12 : F c 12 = μ c 12 := by rw [← hF, st_ne (by omega), st_ne (by omega)]
  have F7 : F c 7 = nI p := by rw [← hF, st_ne (by omega), st_ne (by omega)]; exact d7
  have start : ∀ μ', PR c μ μ' → ∃ μ2, PR c F μ2 ∧ X7_topUp c x (nI n) μ' = (ob2 (X1_ruling 0 x μ2) fun r4 μ4 => lt (st μ4 c 14 r4) fun μ5 => (if (μ5 c 5) < 0 then X7_topUp_61 c t μ5 else lt (st μ5 c 9 0) fun μ8 => X7_topUp_61 c t μ8)) := by
    intro μ' P
    obtain ⟨μ1, b1, b2⟩ := hT μ' P
    have P1 := P.x hc b2
    have P2 : PR c (st μ c 6 (μ c 6 - t)) (st μ1 c 6 (μ1 c 6 - t)) := P1.tr6 (by omega) (by rw [P1.g 6 (by decide)])
    have P3 : PR c (st (st μ c 6 (μ c 6 - t)) c 5 (μ c 5 + (nI n - t))) (st (st μ1 c 6 (μ1 c 6 - t)) c 5 ((st μ1 c 6 (μ1 c 6 - t)) c 5 + (nI n - t))) := P2.trk 5 (by decide) (by rw [st_ne (by omega), P1.g 5 (by decide)])
    rw [hF] at P3
    refine ⟨_, P3, ?_⟩
    unfold X7_topUp
    rw [ob2_of b1, lt_of, lt_of]
  have k3 := k2.put 14 (by decide) r
  by_cases hz : F c 5 < 0
  · obtain ⟨G, g1, g2, g3, g5, g4⟩ := connect_u (st F c 14 r) k3
    refine ⟨t, G, g1, ?_, ⟨o - t.toInt.toNat, p, by omega, hp, ?_, ?_, ?_⟩, fun μ' P => ?_⟩
    · rw [g2, st_ne (by omega), F12]
    · rw [g3, st_ne (by omega), F6]
    · rw [g1.2.1]; exact d7
    · rw [g5, st_eq]; exact hr
    · obtain ⟨μ2, P2, e⟩ := start μ' P
      obtain ⟨μ3, q1, q2⟩ := g4 (st μ2 c 14 r) (P2.put 14 (by decide) r)
      refine ⟨μ3, ?_, q2⟩
      rw [e, ob2_of (hR μ2 P2), lt_of, st_ne (show ¬ (c = c ∧ 5 = 14) by omega), P2.g 5 (by decide), if_pos hz]
      unfold X7_topUp_61
      rw [ob_of q1]
  · obtain ⟨G, g1, g2, g3, g5, g4⟩ := connect_u (st (st F c 14 r) c 9 0) (k3.put 9 (by decide) 0)
    refine ⟨t, G, g1, ?_, ⟨o - t.toInt.toNat, p, by omega, hp, ?_, ?_, ?_⟩, fun μ' P => ?_⟩
    · rw [g2, st_ne (by omega), st_ne (by omega), F12]
    · rw [g3, st_ne (by omega), st_ne (by omega), F6]
    · rw [g1.2.1]; exact d7
    · rw [g5, st_ne (by omega), st_eq]; exact hr
    · obtain ⟨μ2, P2, e⟩ := start μ' P
      obtain ⟨μ3, q1, q2⟩ := g4 (st (st μ2 c 14 r) c 9 0) ((P2.put 14 (by decide) r).put 9 (by decide) 0)
      refine ⟨μ3, ?_, q2⟩
      rw [e, ob2_of (hR μ2 P2), lt_of, st_ne (show ¬ (c = c ∧ 5 = 14) by omega), P2.g 5 (by decide), if_neg hz, lt_of]
      unfold X7_topUp_61
      rw [ob_of q1]
/-- the part that is taken -/
theorem min_u {μ' : Mem} (hD : DB nl c μ) (P : PR c μ μ') : (if μ' c 6 < μ' c 7 then μ' c 6 else μ' c 7) = (if μ c 6 < μ c 7 then μ c 6 else μ c 7) := by
  rw [P.g 6 (by decide)]
  rcases P.2 with h | ⟨h1, h2⟩
  · rw [h]
  · by_cases q1 : μ c 6 < μ' c 7
    · rw [if_pos q1]
      by_cases q2 : μ c 6 < μ c 7
      · rw [if_pos q2]
      · rw [if_neg q2]
        rw [i_lt] at q2
        exact i_eq.mpr (by omega)
    · rw [if_neg q1]
      rw [i_lt] at q1
      by_cases q2 : μ c 6 < μ c 7
      · rw [if_pos q2]
        exact i_eq.mpr (by omega)
      · rw [if_neg q2]
        rw [i_lt] at q2
        exact i_eq.mpr (by omega)
theorem day_u (hL : LR μ 1 d nl) (hc : 24 ≤ c) (hD : DB nl c μ) (x : Int32) : ∃ G, K1 c μ G ∧ G c 12 = μ c 12 ∧ DB nl c G ∧ ∀ μ', PR c μ μ' → ∃ μ2, X7_beginDay c x μ' = some μ2 ∧ PR c G μ2 := by
  obtain ⟨r, hR⟩ := stand_u hL hc x
  have hD0 := hD
  obtain ⟨o, p, ho, hp, d6, d7, dL⟩ := hD
  generalize hm : (if μ c 6 < μ c 7 then μ c 6 else μ c 7) = m
  have hm2 : 0 ≤ m.toInt ∧ m.toInt ≤ (o : Int) := by
    rw [← hm, d6, d7]
    by_cases q : nI o < nI p
    · rw [if_pos q, i_n _ (by omega)]; omega
    · rw [if_neg q]
      rw [i_lt, i_n _ (by omega), i_n _ (by omega)] at q
      rw [i_n _ (by omega)]; omega
  have eo : (μ c 6).toInt = (o : Int) := by rw [d6, i_n _ (by omega)]
  have es : (μ c 6 - m).toInt = (o : Int) - m.toInt := by rw [i_sub (by omega) (by omega), eo]
  have st1 : ∀ μ', PR c μ μ' → ∃ μ2, PR c (st μ c 5 (μ c 5 - r)) μ2 ∧ X7_beginDay c x μ' = (if (μ2 c 8) = 0 then X7_beginDay_57 c μ2 else lt (st μ2 c 5 ((μ2 c 5) - (if (μ2 c 6) < (μ2 c 7) then (μ2 c 6) else (μ2 c 7)))) fun μ5 => lt (st μ5 c 6 ((μ5 c 6) - (if (μ2 c 6) < (μ2 c 7) then (μ2 c 6) else (μ2 c 7)))) fun μ6 => X7_beginDay_57 c μ6) := by
    intro μ' P
    obtain ⟨μ1, b1, b2⟩ := hR μ' P
    have P1 := P.x hc b2
    refine ⟨st μ1 c 5 (μ' c 5 - r), P1.trk 5 (by decide) (by rw [P.g 5 (by decide)]), ?_⟩
    unfold X7_beginDay
    rw [ob2_of b1, lt_of]
  have kA : K1 c μ (st μ c 5 (μ c 5 - r)) := (K1.rf c μ).put 5 (by decide) _
  generalize hA : st μ c 5 (μ c 5 - r) = A at st1 kA
  have A6 : A c 6 = μ c 6 := by rw [← hA, st_ne (by omega)]
  have A7 : A c 7 = μ c 7 := by rw [← hA, st_ne (by omega)]
  have A12 : A c 12 = μ c 12 := by rw [← hA, st_ne (by omega)]
  have A14 : A c 14 = μ c 14 := by rw [← hA, st_ne (by omega)]
  have DA : DB nl c A := ⟨o, p, ho, hp, A6.trans d6, A7.trans d7, by rw [A14]; exact dL⟩
  by_cases h8 : A c 8 = 0
  · refine ⟨st A c 11 0, kA.put 11 (by decide) 0, by rw [st_ne (by omega), A12], ⟨o, p, ho, hp, by rw [st_ne (by omega), A6, d6], by rw [st_ne (by omega), A7, d7], by rw [st_ne (by omega), A14]; exact dL⟩, fun μ' P => ?_⟩
    obtain ⟨μ2, P2, e⟩ := st1 μ' P
    refine ⟨st μ2 c 11 0, ?_, P2.put 11 (by decide) 0⟩
    rw [e, P2.g 8 (by decide), if_pos h8]
    rfl
  · have kB := ((kA.put 5 (by decide) (A c 5 - m)).put6 (v := A c 6 - m) (by rw [A6, st_ne (by omega), A6]; omega)).put 11 (by decide) 0
    refine ⟨_, kB, by rw [st_ne (by omega), st_ne (by omega), st_ne (by omega), A12], ⟨o - m.toInt.toNat, p, by omega, hp, ?_, ?_, ?_⟩, fun μ' P => ?_⟩
    · rw [st_ne (by omega), st_eq, A6]
      exact i_eq.mpr (by rw [es, i_n _ (by omega)]; omega)
    · rw [st_ne (by omega), st_ne (by omega), st_ne (by omega), A7, d7]
    · rw [st_ne (by omega), st_ne (by omega), st_ne (by omega), A14]; exact dL
    · obtain ⟨μ2, P2, e⟩ := st1 μ' P
      have em : (if (μ2 c 6) < (μ2 c 7) then (μ2 c 6) else (μ2 c 7)) = m := by
        rw [min_u DA P2, A6, A7]
        exact hm
      rw [em] at e
      refine ⟨st (st (st μ2 c 5 (μ2 c 5 - m)) c 6 ((st μ2 c 5 (μ2 c 5 - m)) c 6 - m)) c 11 0, ?_, ?_⟩
      · rw [e, P2.g 8 (by decide), if_neg h8, lt_of, lt_of]
        rfl
      · refine PR.put (PR.tr6 (PR.trk P2 5 (by decide) (by rw [P2.g 5 (by decide)])) ?_ ?_) 11 (by decide) 0
        · rw [st_ne (by omega), A6]; omega
        · rw [st_ne (by omega), P2.g 6 (by decide)]
theorem use_u (hL : LR μ 1 d nl) (hc : 24 ≤ c) (hD : DB nl c μ) {h : Nat} (hh : h ≤ 9001) : ∃ G, K1 c μ G ∧ G c 12 = μ c 12 ∧ G c 8 = μ c 8 ∧ DB nl c G ∧ ∀ μ', PR c μ μ' → ∃ μ2, X7_useLoad c (nI h) μ' = some μ2 ∧ PR c G μ2 := by
  obtain ⟨o, p, ho, hp, d6, d7, dL⟩ := hD
  obtain ⟨r, hr, hR⟩ := rul_u hL hc 0 (nI h)
  -- the rate that it has loaded
  have hload : ∃ r2, LD nl r2 ∧ ∀ μ', PR c μ μ' → X2_loadedUnder c r μ' = some (r2, μ') := by
    have hs : ∀ μ', PR c μ μ' → (smart (μ' c) ↔ smart (μ c)) := fun μ' P => by
      unfold smart
      rw [P.g 2 (by decide)]
    by_cases hsm : smart (μ c)
    · refine ⟨r, hr, fun μ' P => ?_⟩
      unfold X2_loadedUnder
      rcases smart_c c μ' with ⟨s1, s2⟩ | ⟨s1, s2⟩
      · rw [ob2_of s2, if_neg (show ¬ (1 : Int32) = 0 by decide)]
      · exact absurd ((hs μ' P).mpr hsm) s1
    · refine ⟨μ c 14, dL, fun μ' P => ?_⟩
      unfold X2_loadedUnder
      rcases smart_c c μ' with ⟨s1, s2⟩ | ⟨s1, s2⟩
      · exact absurd ((hs μ' P).mp s1) hsm
      · rw [ob2_of s2, if_pos (show (0 : Int32) = 0 from rfl), P.g 14 (by decide)]
  obtain ⟨r2, hr2, hR2⟩ := hload
  obtain ⟨p1, hp1⟩ := price_u hL hc hr2 (nI h)
  obtain ⟨p2, hp2⟩ := price_u hL hc hr (nI h)
  generalize hx : μ (c + 1) (h % 24) = x
  have k4 := ((((K1.rf c μ).put 5 (by decide) (μ c 5 - x * p1)).put 13 (by decide) (μ c 13 + x * ((if r = r2 then p1 else p2) - p1))).put 11 (by decide) (μ c 11 + x)).put 10 (by decide) (μ c 10 + x)
  refine ⟨_, k4, ?_, ?_, ⟨o, p, ho, hp, ?_, ?_, ?_⟩, fun μ' P => ?_⟩
  · rw [st_ne (by omega), st_ne (by omega), st_ne (by omega), st_ne (by omega)]
  · rw [st_ne (by omega), st_ne (by omega), st_ne (by omega), st_ne (by omega)]
  · rw [st_ne (by omega), st_ne (by omega), st_ne (by omega), st_ne (by omega)]; exact d6
  · rw [st_ne (by omega), st_ne (by omega), st_ne (by omega), st_ne (by omega)]; exact d7
  · rw [st_ne (by omega), st_ne (by omega), st_ne (by omega), st_ne (by omega)]; exact dL
  · have hx' : μ' (c + 1) (h % 24) = x := (P.1.2.2 _ (by omega)).trans hx
    obtain ⟨μ1, b1, b2⟩ := hp1 μ' P
    have P1 := P.x hc b2
    obtain ⟨μ3, b3, b4⟩ := hp2 μ1 P1
    have fin : ∀ m pp, PR c μ m → ∃ μ2, X7_useLoad_65 c x p1 pp m = some μ2 ∧ PR c (st (st (st (st μ c 5 (μ c 5 - x * p1)) c 13 (μ c 13 + x * (pp - p1))) c 11 (μ c 11 + x)) c 10 (μ c 10 + x)) μ2 := by
      intro m pp Q
      unfold X7_useLoad_65
      rw [lt_of, lt_of, lt_of, lt_of]
      refine ⟨_, rfl, PR.trk (PR.trk (PR.trk (PR.trk Q 5 (by decide) ?_) 13 (by decide) ?_) 11 (by decide) ?_) 10 (by decide) ?_⟩
      · rw [Q.g 5 (by decide)]
      · rw [st_ne (by omega), Q.g 13 (by decide)]
      · rw [st_ne (by omega), st_ne (by omega), Q.g 11 (by decide)]
      · rw [st_ne (by omega), st_ne (by omega), st_ne (by omega), Q.g 10 (by decide)]
    unfold X7_useLoad
    rw [clk hh, gd_pos (i_in (by omega) (by omega)), ob2_of (hR μ' P), ob2_of (hR2 μ' P), ob2_of b1, i_tn (by omega), hx']
    by_cases hrr : r = r2
    · rw [if_pos hrr, if_pos hrr]
      exact fin μ1 p1 P1
    · rw [if_neg hrr, if_neg hrr, ob2_of b3]
      exact fin μ3 p2 (P1.x hc b4)
theorem end39_u (hD : DB nl c μ) (h : Nat) : ∃ z G, K1 c μ G ∧ G c 12 = μ c 12 ∧ DB nl c G ∧ ∀ μ', PR c μ μ' → ∃ μ2, X7_endHour_39 c (nI h) μ' = some (z, μ2) ∧ PR c G μ2 := by
  have hl : ∀ μ', PR c μ μ' → lim (μ' c) = lim (μ c) := fun μ' P => by
    unfold lim
    rw [P.g 9 (by decide), P.g 2 (by decide)]
  obtain ⟨w, hw⟩ : ∃ w : Int32, ∀ m, X9_isFriendly (nI h + 1) m = some (w, m) := by
    unfold X9_isFriendly
    by_cases q1 : 18 ≤ (nI h + 1 - (nI h + 1) / 24 * 24)
    · exact ⟨1, fun m => by rw [if_pos q1]⟩
    · by_cases q2 : (nI h + 1 - (nI h + 1) / 24 * 24) < 9
      · exact ⟨1, fun m => by rw [if_neg q1, if_pos q2]⟩
      · by_cases q3 : (((nI h + 1) / 24) - ((nI h + 1) / 24) / 7 * 7) < 5
        · exact ⟨0, fun m => by rw [if_neg q1, if_neg q2, if_pos q3]⟩
        · exact ⟨1, fun m => by rw [if_neg q1, if_neg q2, if_neg q3]⟩
  have e78 : ∀ m, X7_endHour_78 c m = some (0, m) := fun m => by
    unfold X7_endHour_78 X7_endHour_79
    rw [if_pos rfl, gd_pos (Or.inl rfl)]
  have e79 : ∀ m, X7_endHour_79 c 1 m = some (1, st m c 8 0) := fun m => by
    unfold X7_endHour_79
    rw [if_neg (by decide), lt_of, gd_pos (Or.inr rfl)]
  have same : (∀ μ', PR c μ μ' → X7_endHour_39 c (nI h) μ' = some (0, μ')) → ∃ z G, K1 c μ G ∧ G c 12 = μ c 12 ∧ DB nl c G ∧ ∀ μ', PR c μ μ' → ∃ μ2, X7_endHour_39 c (nI h) μ' = some (z, μ2) ∧ PR c G μ2 := fun q => ⟨0, μ, K1.rf c μ, rfl, hD, fun μ' P => ⟨μ', q μ' P, P⟩⟩
  unfold X7_endHour_39 at same ⊢
  by_cases h8 : μ c 8 = 0
  · exact same (fun μ' P => by rw [P.g 8 (by decide), if_pos h8, e78])
  · by_cases h2 : μ c 2 = 4
    · exact same (fun μ' P => by rw [P.g 8 (by decide), if_neg h8, P.g 2 (by decide), if_pos h2, e78])
    · by_cases h5 : lim (μ c) ≤ μ c 5
      · exact same (fun μ' P => by rw [P.g 8 (by decide), if_neg h8, P.g 2 (by decide), if_neg h2, ob2_of (limit_c _ _), hl μ' P, P.g 5 (by decide), if_pos h5, e78])
      · by_cases hw0 : w = 0
        · obtain ⟨o, p, ho, hp, d6, d7, dL⟩ := hD
          refine ⟨1, st μ c 8 0, (K1.rf c μ).put 8 (by decide) 0, st_ne (by omega), ⟨o, p, ho, hp, by rw [st_ne (by omega)]; exact d6, by rw [st_ne (by omega)]; exact d7, by rw [st_ne (by omega)]; exact dL⟩, fun μ' P => ⟨st μ' c 8 0, ?_, P.put 8 (by decide) 0⟩⟩
          rw [P.g 8 (by decide), if_neg h8, P.g 2 (by decide), if_neg h2, ob2_of (limit_c _ _), hl μ' P, P.g 5 (by decide), if_neg h5, ob2_of (hw _), if_pos hw0, e79]
        · exact same (fun μ' P => by rw [P.g 8 (by decide), if_neg h8, P.g 2 (by decide), if_neg h2, ob2_of (limit_c _ _), hl μ' P, P.g 5 (by decide), if_neg h5, ob2_of (hw _), if_neg hw0, e78])
theorem K1.tr {F G : Mem} (h : K1 c μ F) (k : K1 c F G) : K1 c μ G := ⟨fun a ha => (k.1 a ha).trans (h.1 a ha), k.2.1.trans h.2.1, by have := h.2.2; have := k.2.2; omega⟩
theorem end13_u (hL : LR μ 1 d nl) (hc : 24 ≤ c) (hD : DB nl c μ) {h : Nat} (hh : h ≤ 9001) : ∃ z G, K1 c μ G ∧ (G c 12 = μ c 12 ∨ G c 12 = μ c 12 + 1) ∧ DB nl c G ∧ ∀ μ', PR c μ μ' → ∃ μ2, X7_endHour_13 c (nI h) μ' = some (z, μ2) ∧ PR c G μ2 := by
  unfold X7_endHour_13
  by_cases h8 : μ c 8 = 0
  · have k1 : K1 c μ (st μ c 12 (μ c 12 + 1)) := (K1.rf c μ).put 12 (by decide) _
    have D1 : DB nl c (st μ c 12 (μ c 12 + 1)) := by
      obtain ⟨o, p, ho, hp, d6, d7, dL⟩ := hD
      exact ⟨o, p, ho, hp, by rw [st_ne (by omega)]; exact d6, by rw [st_ne (by omega)]; exact d7, by rw [st_ne (by omega)]; exact dL⟩
    obtain ⟨z, G, g1, g2, g3, g4⟩ := end39_u D1 h
    refine ⟨z, G, k1.tr g1, Or.inr (by rw [g2, st_eq]), g3, fun μ' P => ?_⟩
    obtain ⟨μ2, b1, b2⟩ := g4 (st μ' c 12 (μ c 12 + 1)) (P.put 12 (by decide) _)
    refine ⟨μ2, ?_, b2⟩
    rw [P.g 8 (by decide), if_pos h8, P.g 12 (by decide), lt_of, b1]
  · obtain ⟨F, f1, f2, f3, f4, f5⟩ := use_u hL hc hD hh
    obtain ⟨z, G, g1, g2, g3, g4⟩ := end39_u f4 h
    refine ⟨z, G, f1.tr g1, Or.inl (by rw [g2, f2]), g3, fun μ' P => ?_⟩
    obtain ⟨μ1, a1, a2⟩ := f5 μ' P
    obtain ⟨μ2, b1, b2⟩ := g4 μ1 a2
    refine ⟨μ2, ?_, b2⟩
    rw [P.g 8 (by decide), if_neg h8, ob_of a1, b1]
theorem hour_u (hL : LR μ 1 d nl) (hc : 24 ≤ c) (hD : DB nl c μ) {h : Nat} (hh : h ≤ 9001) : ∃ z G, K1 c μ G ∧ (G c 12 = μ c 12 ∨ G c 12 = μ c 12 + 1) ∧ DB nl c G ∧ ∀ μ', PR c μ μ' → ∃ μ2, X7_endHour c (nI h) μ' = some (z, μ2) ∧ PR c G μ2 := by
  unfold X7_endHour
  by_cases hd : nI h - nI h / 24 * 24 = 0
  · obtain ⟨F, f1, f2, f3, f4⟩ := day_u hL hc hD (nI h)
    obtain ⟨z, G, g1, g2, g3, g4⟩ := end13_u (hL.k hc f1.1) hc f3 hh
    refine ⟨z, G, f1.tr g1, by rw [← f2]; exact g2, g3, fun μ' P => ?_⟩
    obtain ⟨μ1, a1, a2⟩ := f4 μ' P
    obtain ⟨μ2, b1, b2⟩ := g4 μ1 a2
    refine ⟨μ2, ?_, b2⟩
    rw [if_pos hd, ob_of a1, b1]
  · obtain ⟨z, G, g1, g2, g3, g4⟩ := end13_u hL hc hD hh
    refine ⟨z, G, g1, g2, g3, fun μ' P => ?_⟩
    obtain ⟨μ2, b1, b2⟩ := g4 μ' P
    refine ⟨μ2, ?_, b2⟩
    rw [if_neg hd, b1]
end TR2
