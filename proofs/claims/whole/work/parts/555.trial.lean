/-! trials on a copy of a meter: two copies that differ in parts which don't matter go the same way -/
def PQ (c : Nat) (μ μ' : Mem) : Prop := (∀ a, a ≠ 13 → a ≠ c → a ≠ c + 1 → μ' a = μ a) ∧ (∀ j, 1 ≤ j → j < 15 → j ≠ 7 → μ' c j = μ c j) ∧ ∀ w, w < 24 → μ' (c + 1) w = μ (c + 1) w
def PR (c : Nat) (μ μ' : Mem) : Prop := PQ c μ μ' ∧ (μ' c 7 = μ c 7 ∨ ((μ c 6).toInt ≤ (μ c 7).toInt ∧ (μ c 6).toInt ≤ (μ' c 7).toInt))
def DB (nl c : Nat) (μ : Mem) : Prop := ∃ o p, o ≤ 99999 ∧ p ≤ 200 ∧ μ c 6 = nI o ∧ μ c 7 = nI p ∧ LD nl (μ c 14)
def K1 (c : Nat) (μ F : Mem) : Prop := (∀ a, a ≠ c → F a = μ a) ∧ F c 7 = μ c 7 ∧ (F c 6).toInt ≤ (μ c 6).toInt
section TR
variable {c nl : Nat} {μ : Mem} {d : Nat → Int32}
theorem PR.rf (c : Nat) (μ : Mem) : PR c μ μ := ⟨⟨fun _ _ _ _ => rfl, fun _ _ _ _ => rfl, fun _ _ => rfl⟩, Or.inl rfl⟩
theorem PR.x {μ' μ2 : Mem} (hc : 24 ≤ c) (P : PR c μ μ') (h : EqX μ' μ2) : PR c μ μ2 := by
  refine ⟨⟨fun a h1 h2 h3 => (h a h1).trans (P.1.1 a h1 h2 h3), fun j h1 h2 h3 => ?_, fun w hw => ?_⟩, ?_⟩
  · rw [h c (by omega)]; exact P.1.2.1 j h1 h2 h3
  · rw [h (c + 1) (by omega)]; exact P.1.2.2 w hw
  · rw [h c (by omega)]; exact P.2
theorem PR.put {μ' : Mem} (P : PR c μ μ') (k : Nat) (hk : k ≠ 6 ∧ k ≠ 7) (v : Int32) : PR c (st μ c k v) (st μ' c k v) := by
  refine ⟨⟨fun a h1 h2 h3 => ?_, fun j h1 h2 h3 => ?_, fun w hw => ?_⟩, ?_⟩
  · rw [st_other _ _ _ h2, st_other _ _ _ h2]; exact P.1.1 a h1 h2 h3
  · rw [st_at, st_at]
    by_cases hj : j = k
    · rw [if_pos ⟨rfl, hj⟩, if_pos ⟨rfl, hj⟩]
    · rw [if_neg (by omega), if_neg (by omega)]; exact P.1.2.1 j h1 h2 h3
  · rw [st_other _ _ _ (by omega), st_other _ _ _ (by omega)]; exact P.1.2.2 w hw
  · rw [st_ne (by omega), st_ne (by omega), st_ne (by omega)]; exact P.2
theorem PR.put6 {μ' : Mem} (P : PR c μ μ') {v : Int32} (hv : v.toInt ≤ (μ c 6).toInt) : PR c (st μ c 6 v) (st μ' c 6 v) := by
  refine ⟨⟨fun a h1 h2 h3 => ?_, fun j h1 h2 h3 => ?_, fun w hw => ?_⟩, ?_⟩
  · rw [st_other _ _ _ h2, st_other _ _ _ h2]; exact P.1.1 a h1 h2 h3
  · rw [st_at, st_at]
    by_cases hj : j = 6
    · rw [if_pos ⟨rfl, hj⟩, if_pos ⟨rfl, hj⟩]
    · rw [if_neg (by omega), if_neg (by omega)]; exact P.1.2.1 j h1 h2 h3
  · rw [st_other _ _ _ (by omega), st_other _ _ _ (by omega)]; exact P.1.2.2 w hw
  · rw [st_ne (show ¬ (c = c ∧ 7 = 6) by omega), st_ne (show ¬ (c = c ∧ 7 = 6) by omega), st_eq]
    exact P.2.imp_right (fun ⟨h1, h2⟩ => ⟨by omega, by omega⟩)
theorem PR.g {μ' : Mem} (P : PR c μ μ') (j : Nat) (hj : 1 ≤ j ∧ j < 15 ∧ j ≠ 7) : μ' c j = μ c j := P.1.2.1 j hj.1 hj.2.1 hj.2.2
theorem LR.k {F : Mem} (hL : LR μ 1 d nl) (hc : 24 ≤ c) (h : ∀ a, a ≠ c → F a = μ a) : LR F 1 d nl := hL.c (fun a q1 q2 => h a (by omega)) (fun _ _ => rfl)
theorem rul_u (hL : LR μ 1 d nl) (hc : 24 ≤ c) (u x : Int32) : ∃ r, LD nl r ∧ ∀ μ', PR c μ μ' → X1_ruling u x μ' = some (r, μ') := by
  have hFU := FU_ge
  refine ⟨rul (μ 9) (μ 10) u x nl, rul_LD _ _ _ _ _, fun μ' P => ?_⟩
  have e8 : μ' 8 5 = nI nl := by rw [P.1.1 8 (by omega) (by omega) (by omega)]; exact hL.2.1
  have e9 : μ' 9 = μ 9 := P.1.1 9 (by omega) (by omega) (by omega)
  have e10 : μ' 10 = μ 10 := P.1.1 10 (by omega) (by omega) (by omega)
  unfold X1_ruling
  rw [e8, ruling_loop μ' u x nl FU hL.1 (by have := hL.1; omega), e9, e10]
theorem wo_u (hL : LR μ 1 d nl) (hc : 24 ≤ c) {r : Int32} (hr : LD nl r) (hn : ¬ r = -1) (hr' n : Int32) : ∃ V, ∀ μ', PR c μ μ' → ∃ μ2, X1_worth r c hr' n μ' = some (V, μ2) ∧ EqX μ' μ2 := by
  rcases hr with hr | ⟨l, hl, rfl⟩
  · exact absurd hr hn
  · have h12 := hL.1
    obtain ⟨-, -, B, m, cs, v, a3, a4, a5, a6, a7⟩ := hL.2.2.2 l hl
    refine ⟨v (env7 μ c hr' n), fun μ' P => ?_⟩
    have e : ∀ a, 8 ≤ a → a ≤ 12 → μ' a = μ a := fun a q1 q2 => P.1.1 a (by omega) (by omega) (by omega)
    have e8 : μ' 8 5 = nI nl := by rw [e 8 (by omega) (by omega)]; exact hL.2.1
    have e11 : μ' 11 l = nI cs.length := by rw [e 11 (by omega) (by omega)]; exact a6
    have e12 : ∀ k (h : k < cs.length), μ' 12 (60 * l + k) = cs[k] := fun k h => by rw [e 12 (by omega) (by omega)]; exact a7 k h
    obtain ⟨μ2, b1, b2⟩ := worth_ok (hr := hr') (n := n) (m := c) (by omega) e8 h12 hl e11 (by have := a3.1; have := a3.2.1; omega) e12 a3.2.2.1
    have he : env7 μ' c hr' n = env7 μ c hr' n := by
      unfold env7
      rw [P.g 11 (by decide), P.g 2 (by decide), P.g 6 (by decide), P.g 5 (by decide)]
    rw [he] at b2
    exact ⟨μ2, b2, b1⟩
theorem price_u (hL : LR μ 1 d nl) (hc : 24 ≤ c) {r : Int32} (hr : LD nl r) (x : Int32) : ∃ p, ∀ μ', PR c μ μ' → ∃ μ2, X1_unitPrice r c x μ' = some (p, μ2) ∧ EqX μ' μ2 := by
  have e8 : ∀ μ', PR c μ μ' → μ' 8 5 = nI nl := fun μ' P => by rw [P.1.1 8 (by omega) (by omega) (by omega)]; exact hL.2.1
  unfold X1_unitPrice
  by_cases hn : r = -1
  · refine ⟨20, fun μ' P => ⟨μ', ?_, EqX.rf _⟩⟩
    rw [ob2_of (has_ok (e8 μ' P) hL.1 hr), if_pos hn, if_pos rfl]
  · obtain ⟨V, hV⟩ := wo_u hL hc hr hn x 0
    refine ⟨wcl V 99, fun μ' P => ?_⟩
    obtain ⟨μ2, b1, b2⟩ := hV μ' P
    refine ⟨μ2, ?_, b2⟩
    rw [ob2_of (has_ok (e8 μ' P) hL.1 hr), if_neg hn, if_neg (show ¬ (1 : Int32) = 0 by decide), ob2_of b1, ob2_of (within_c _ _ (by decide) _)]
theorem stand_u (hL : LR μ 1 d nl) (hc : 24 ≤ c) (x : Int32) : ∃ p, ∀ μ', PR c μ μ' → ∃ μ2, X1_standingOf c x μ' = some (p, μ2) ∧ EqX μ' μ2 := by
  have e8 : ∀ μ', PR c μ μ' → μ' 8 5 = nI nl := fun μ' P => by rw [P.1.1 8 (by omega) (by omega) (by omega)]; exact hL.2.1
  obtain ⟨r, hr, hr2⟩ := rul_u hL hc 1 x
  unfold X1_standingOf
  by_cases hn : r = -1
  · refine ⟨30, fun μ' P => ⟨μ', ?_, EqX.rf _⟩⟩
    rw [ob2_of (hr2 μ' P), ob2_of (has_ok (e8 μ' P) hL.1 hr), if_pos hn, if_pos rfl]
  · obtain ⟨V, hV⟩ := wo_u hL hc hr hn x 0
    refine ⟨wcl V 999, fun μ' P => ?_⟩
    obtain ⟨μ2, b1, b2⟩ := hV μ' P
    refine ⟨μ2, ?_, b2⟩
    rw [ob2_of (hr2 μ' P), ob2_of (has_ok (e8 μ' P) hL.1 hr), if_neg hn, if_neg (show ¬ (1 : Int32) = 0 by decide), ob2_of b1, ob2_of (within_c _ _ (by decide) _)]
theorem taken_u (hL : LR μ 1 d nl) (hc : 24 ≤ c) (hD : DB nl c μ) (x : Int32) {n : Nat} (hn9 : n ≤ 9999) : ∃ t, (0 ≤ t.toInt ∧ t.toInt ≤ (μ c 6).toInt) ∧ ∀ μ', PR c μ μ' → ∃ μ2, X1_takenFrom c x (nI n) μ' = some (t, μ2) ∧ EqX μ' μ2 := by
  have e8 : ∀ μ', PR c μ μ' → μ' 8 5 = nI nl := fun μ' P => by rw [P.1.1 8 (by omega) (by omega) (by omega)]; exact hL.2.1
  obtain ⟨o, p, ho, hp, d6, d7, dL⟩ := hD
  have e0 : (0 : Int32).toInt = 0 := rfl
  have eo : (μ c 6).toInt = (o : Int) := by rw [d6, i_n _ (by omega)]
  obtain ⟨r, hr, hr2⟩ := rul_u hL hc 2 x
  unfold X1_takenFrom
  by_cases hn : r = -1
  · refine ⟨0, ⟨by rw [e0]; omega, by rw [e0, eo]; omega⟩, fun μ' P => ⟨μ', ?_, EqX.rf _⟩⟩
    rw [ob2_of (hr2 μ' P), ob2_of (has_ok (e8 μ' P) hL.1 hr), if_pos hn, if_pos rfl]
  · obtain ⟨V, hV⟩ := wo_u hL hc hr hn x (nI n)
    have h0n : (0 : Int32) ≤ nI n := nI_pos' (by omega)
    obtain ⟨w1, w2⟩ := wcl_r (V := V) h0n
    refine ⟨if μ c 6 < wcl V (nI n) then μ c 6 else wcl V (nI n), ?_, fun μ' P => ?_⟩
    · by_cases hz : μ c 6 < wcl V (nI n)
      · rw [if_pos hz]
        omega
      · rw [if_neg hz]
        rw [i_lt] at hz
        omega
    · obtain ⟨μ2, b1, b2⟩ := hV μ' P
      refine ⟨μ2, ?_, b2⟩
      rw [ob2_of (hr2 μ' P), ob2_of (has_ok (e8 μ' P) hL.1 hr), if_neg hn, if_neg (show ¬ (1 : Int32) = 0 by decide), ob2_of b1, ob2_of (within_c _ _ h0n _), b2 c (by omega), P.g 6 (by decide)]
theorem K1.put {F : Mem} (h : K1 c μ F) (k : Nat) (hk : k ≠ 6 ∧ k ≠ 7) (v : Int32) : K1 c μ (st F c k v) := ⟨fun a ha => (st_other _ _ _ ha).trans (h.1 a ha), by rw [st_ne (by omega)]; exact h.2.1, by rw [st_ne (by omega)]; exact h.2.2⟩
theorem K1.put6 {F : Mem} (h : K1 c μ F) {v : Int32} (hv : v.toInt ≤ (F c 6).toInt) : K1 c μ (st F c 6 v) := ⟨fun a ha => (st_other _ _ _ ha).trans (h.1 a ha), by rw [st_ne (by omega)]; exact h.2.1, by rw [st_eq]; have := h.2.2; omega⟩
theorem K1.rf (c : Nat) (μ : Mem) : K1 c μ μ := ⟨fun _ _ => rfl, rfl, Int.le_refl _⟩
theorem connect_u (F : Mem) (hK : K1 c μ F) : ∃ G, K1 c μ G ∧ G c 12 = F c 12 ∧ G c 6 = F c 6 ∧ G c 14 = F c 14 ∧ ∀ μ', PR c F μ' → ∃ μ2, X2_connectAboveLimit c μ' = some μ2 ∧ PR c G μ2 := by
  have hl : ∀ μ', PR c F μ' → lim (μ' c) = lim (F c) := fun μ' P => by
    unfold lim
    rw [P.g 9 (by decide), P.g 2 (by decide)]
  unfold X2_connectAboveLimit
  by_cases h : F c 5 < lim (F c)
  · refine ⟨F, hK, rfl, rfl, rfl, fun μ' P => ⟨μ', ?_, P⟩⟩
    rw [ob2_of (limit_c _ _), hl μ' P, P.g 5 (by decide), if_pos h]
  · refine ⟨st F c 8 1, hK.put 8 (by decide) 1, st_ne (by omega), st_ne (by omega), st_ne (by omega), fun μ' P => ⟨st μ' c 8 1, ?_, P.put 8 (by decide) 1⟩⟩
    rw [ob2_of (limit_c _ _), hl μ' P, P.g 5 (by decide), if_neg h, lt_of]
end TR
