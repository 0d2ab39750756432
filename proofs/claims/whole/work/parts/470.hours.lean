/-! an hour of a meter, topping it up: the class's and the model's -/
def HX (c i nl h : Nat) (μ0 ν0 : Mem) : Prop := LR μ0 1 (ν0 1) nl ∧ ν0 6 = letF ∧ i < 8 ∧ 24 ≤ c ∧ ν0 1 0 = nI h ∧ h ≤ 9001
def HR (c i nl : Nat) (μ0 ν0 μ ν : Mem) : Prop := MR i nl (μ c) (μ (c + 1)) (fun w => ν 1 (16 + 40 * i + w)) ∧ EqC c μ0 μ ∧ EqD i ν0 ν
theorem MB_free {nl j : Nat} {f : Nat → Int32} {v : Int32} (h : MB nl f) (hj : j = 5 ∨ 10 ≤ j ∧ j ≤ 13) : MB nl (upd f j v) := by
  unfold MB
  rw [pk_un (by omega), pk_un (by omega), pk_un (by omega), pk_un (by omega), pk_un (by omega), pk_un (by omega), pk_un (by omega), pk_un (by omega)]
  exact h
theorem MB_6 {nl : Nat} {f : Nat → Int32} {v : Int32} (h : MB nl f) (hv : ∃ o, o ≤ 99999 ∧ v = nI o) : MB nl (upd f 6 v) := by
  obtain ⟨h1, h2, h3, h4, h5, h6, h7, h8⟩ := h
  unfold MB
  rw [pk_us, pk_un (by omega), pk_un (by omega), pk_un (by omega), pk_un (by omega), pk_un (by omega), pk_un (by omega), pk_un (by omega)]
  exact ⟨h1, h2, h3, hv, h5, h6, h7, h8⟩
theorem MB_7 {nl : Nat} {f : Nat → Int32} {v : Int32} (h : MB nl f) (hv : ∃ o, o ≤ 200 ∧ v = nI o) : MB nl (upd f 7 v) := by
  obtain ⟨h1, h2, h3, h4, h5, h6, h7, h8⟩ := h
  unfold MB
  rw [pk_us, pk_un (by omega), pk_un (by omega), pk_un (by omega), pk_un (by omega), pk_un (by omega), pk_un (by omega), pk_un (by omega)]
  exact ⟨h1, h2, h3, h4, hv, h6, h7, h8⟩
theorem MB_8 {nl : Nat} {f : Nat → Int32} {v : Int32} (h : MB nl f) (hv : v = 0 ∨ v = 1) : MB nl (upd f 8 v) := by
  obtain ⟨h1, h2, h3, h4, h5, h6, h7, h8⟩ := h
  unfold MB
  rw [pk_us, pk_un (by omega), pk_un (by omega), pk_un (by omega), pk_un (by omega), pk_un (by omega), pk_un (by omega), pk_un (by omega)]
  exact ⟨h1, h2, h3, h4, h5, hv, h7, h8⟩
theorem MB_9 {nl : Nat} {f : Nat → Int32} {v : Int32} (h : MB nl f) (hv : v = 0 ∨ v = 1) : MB nl (upd f 9 v) := by
  obtain ⟨h1, h2, h3, h4, h5, h6, h7, h8⟩ := h
  unfold MB
  rw [pk_us, pk_un (by omega), pk_un (by omega), pk_un (by omega), pk_un (by omega), pk_un (by omega), pk_un (by omega), pk_un (by omega)]
  exact ⟨h1, h2, h3, h4, h5, h6, hv, h8⟩
theorem MB_14 {nl : Nat} {f : Nat → Int32} {v : Int32} (h : MB nl f) (hv : LD nl v) : MB nl (upd f 14 v) := by
  obtain ⟨h1, h2, h3, h4, h5, h6, h7, h8⟩ := h
  unfold MB
  rw [pk_us, pk_un (by omega), pk_un (by omega), pk_un (by omega), pk_un (by omega), pk_un (by omega), pk_un (by omega), pk_un (by omega)]
  exact ⟨h1, h2, h3, h4, h5, h6, h7, hv⟩
section HO
variable {c i nl h : Nat} {μ0 ν0 μ ν : Mem}
theorem HX.lr (X : HX c i nl h μ0 ν0) (R : HR c i nl μ0 ν0 μ ν) : LR μ 1 (ν 1) nl := by
  obtain ⟨h1, h2, h3, h4, h5, h6⟩ := X
  exact h1.c (fun a q1 q2 => R.2.1 a (by omega) (by omega)) (fun w hw => R.2.2.2.2 w (by omega))
theorem HX.le (X : HX c i nl h μ0 ν0) (R : HR c i nl μ0 ν0 μ ν) : ν 6 = letF := (R.2.2.1 6 (by decide) (by decide) (by decide)).trans X.2.1
theorem HX.hr (X : HX c i nl h μ0 ν0) (R : HR c i nl μ0 ν0 μ ν) : ν 1 0 = nI h := (R.2.2.2.2 0 (by omega)).trans X.2.2.2.2.1
theorem HR.q (R : HR c i nl μ0 ν0 μ ν) {w : Nat} (hw : w < 12) : ν 1 (16 + 40 * i + w) = μ c (w + 2) := R.1.2.1 w hw
theorem HR.mb (R : HR c i nl μ0 ν0 μ ν) : MB nl (μ c) := R.1.2.2.2.2
theorem HR.xs {μ2 ν2 : Mem} (hc : 24 ≤ c) (R : HR c i nl μ0 ν0 μ ν) (hx : EqX μ μ2) (hs : EqS ν ν2) : HR c i nl μ0 ν0 μ2 ν2 := by
  refine ⟨?_, R.2.1.x hx, R.2.2.s hs⟩
  rw [hx c (by omega), hx (c + 1) (by omega), hs.1 1 (by decide) (by decide)]
  exact R.1
theorem HR.put (hi : i < 8) (R : HR c i nl μ0 ν0 μ ν) {w : Nat} (hw : w < 12) (hw0 : w ≠ 0) {v v2 : Int32} (hv : v2 = v) (hb : MB nl (upd (μ c) (w + 2) v)) : HR c i nl μ0 ν0 (st μ c (w + 2) v) (st ν 1 (16 + 40 * i + w) v2) := by
  subst hv
  refine ⟨?_, R.2.1.st _ _, R.2.2.st (by omega) _⟩
  obtain ⟨⟨r1, r2, r3, r4, r5⟩, -, -⟩ := R
  rw [st_same, st_other _ _ _ (by omega : c + 1 ≠ c)]
  refine ⟨by rw [pk_un (by omega)]; exact r1, fun x hx => ?_, ?_, fun x hx => ?_, hb⟩
  · dsimp only
    rw [st_at]
    by_cases hxw : x = w
    · subst hxw
      rw [if_pos ⟨rfl, rfl⟩, pk_us]
    · rw [if_neg (by omega), pk_un (by omega)]
      exact r2 x hx
  · rcases r3 with r3 | r3
    · exact Or.inl (by unfold smart; rw [pk_un (by omega)]; exact r3)
    · refine Or.inr ?_
      dsimp only
      rw [st_at, if_neg (by omega), pk_un (by omega)]
      exact r3
  · dsimp only
    rw [st_at, if_neg (by omega)]
    exact r4 x hx
theorem HR.put14s (R : HR c i nl μ0 ν0 μ ν) (hs : smart (μ c)) {v : Int32} (hv : LD nl v) : HR c i nl μ0 ν0 (st μ c 14 v) ν := by
  refine ⟨?_, R.2.1.st _ _, R.2.2⟩
  obtain ⟨⟨r1, r2, r3, r4, r5⟩, -, -⟩ := R
  rw [st_same, st_other _ _ _ (by omega : c + 1 ≠ c)]
  exact ⟨by rw [pk_un (by omega)]; exact r1, fun x hx => by rw [pk_un (by omega)]; exact r2 x hx, Or.inl (by unfold smart; rw [pk_un (by omega)]; exact hs), r4, MB_14 r5 hv⟩
theorem HR.put14 (R : HR c i nl μ0 ν0 μ ν) {v : Int32} (hv : LD nl v) : HR c i nl μ0 ν0 (st μ c 14 v) (st ν 1 (16 + 40 * i + 12) v) := by
  refine ⟨?_, R.2.1.st _ _, R.2.2.st (by omega) _⟩
  obtain ⟨⟨r1, r2, r3, r4, r5⟩, -, -⟩ := R
  rw [st_same, st_other _ _ _ (by omega : c + 1 ≠ c)]
  refine ⟨by rw [pk_un (by omega)]; exact r1, fun x hx => by dsimp only; rw [st_at, if_neg (by omega), pk_un (by omega)]; exact r2 x hx, Or.inr (by dsimp only; rw [st_at, if_pos ⟨rfl, rfl⟩, pk_us]), fun x hx => by dsimp only; rw [st_at, if_neg (by omega)]; exact r4 x hx, MB_14 r5 hv⟩
def wcl (x hi : Int32) : Int32 := if 0 ≤ x then (if x ≤ hi then x else hi) else 0
theorem within_c (x hi : Int32) (hh : 0 ≤ hi) (m : Mem) : X9_within 0 x hi m = some (wcl x hi, m) := by
  unfold X9_within wcl
  have e0 : (0 : Int32).toInt = 0 := rfl
  rw [i_le, e0] at hh
  congr 2
  by_cases h1 : hi < x
  · rw [if_pos h1]
    rw [i_lt] at h1
    rw [if_pos (show (0 : Int32) ≤ x by rw [i_le, e0]; omega), if_neg (show ¬ x ≤ hi by rw [i_le]; omega)]
    by_cases h2 : 0 < hi
    · rw [if_pos h2]
    · rw [if_neg h2]
      rw [i_lt, e0] at h2
      exact i_eq.mpr (by rw [e0]; omega)
  · rw [if_neg h1]
    rw [i_lt] at h1
    by_cases h2 : 0 < x
    · rw [if_pos h2]
      rw [i_lt, e0] at h2
      rw [if_pos (show (0 : Int32) ≤ x by rw [i_le, e0]; omega), if_pos (show x ≤ hi by rw [i_le]; omega)]
    · rw [if_neg h2]
      rw [i_lt, e0] at h2
      by_cases h3 : 0 ≤ x
      · rw [if_pos h3, if_pos (show x ≤ hi by rw [i_le]; omega)]
        rw [i_le, e0] at h3
        exact i_eq.mpr (by rw [e0]; omega)
      · rw [if_neg h3]
theorem within_m (x hi : Int32) (m : Mem) : X10_within x 0 hi m = some (wcl x hi, m) := by
  unfold X10_within wcl
  by_cases h1 : 0 ≤ x
  · rw [if_pos h1, if_pos h1]
    by_cases h2 : x ≤ hi
    · rw [if_pos h2, if_pos h2]
    · rw [if_neg h2, if_neg h2]
  · rw [if_neg h1, if_neg h1]
/-- a law or none, asked of a meter, kept within limits: the class's way and the model's -/
theorem ask_ok (X : HX c i nl h μ0 ν0) (R : HR c i nl μ0 ν0 μ ν) {r : Int32} (hr : LD nl r) (hn : ¬ r = -1) (hi n : Int32) (hh : 0 ≤ hi) : ∃ V μ2 ν2, X1_worth r c (nI h) n μ = some (V, μ2) ∧ X9_within 0 V hi μ2 = some (wcl V hi, μ2) ∧ X10_saysOf r (nI i) (ν 1 0) n ν = some (V, ν2) ∧ X10_within V 0 hi ν2 = some (wcl V hi, ν2) ∧ EqX μ μ2 ∧ EqS ν ν2 := by
  rcases hr with hr | ⟨l, hl, rfl⟩
  · exact absurd hr hn
  · obtain ⟨V, μ2, ν2, a1, a2, a3, a4⟩ := says_ok (hr := nI h) (n := n) (X.lr R) (X.le R) X.2.2.1 (by have := X.2.2.2.1; omega) (fun w hw => R.q hw) hl
    rw [← X.hr R] at a3
    exact ⟨V, μ2, ν2, a1, within_c _ _ hh _, a3, within_m _ _ _, a2, a4⟩
theorem price_ok (X : HX c i nl h μ0 ν0) (R : HR c i nl μ0 ν0 μ ν) {r : Int32} (hr : LD nl r) : ∃ p μ2 ν2, X1_unitPrice r c (nI h) μ = some (p, μ2) ∧ X10_rateBy r (nI i) ν = some (p, ν2) ∧ EqX μ μ2 ∧ EqS ν ν2 := by
  have hL := X.lr R
  have h8 : μ 8 5 = nI nl := hL.2.1
  unfold X1_unitPrice X10_rateBy
  rw [ob2_of (has_ok h8 hL.1 hr)]
  by_cases hn : r = -1
  · refine ⟨20, μ, ν, ?_, ?_, EqX.rf μ, EqS.rf ν⟩
    · rw [if_pos hn, if_pos rfl]
    · rw [if_neg (fun q => (LD_neg hL.1 hr).mp q hn)]
  · obtain ⟨V, μ2, ν2, a1, a2, a3, a4, a5, a6⟩ := ask_ok X R hr hn 99 0 (by decide)
    refine ⟨wcl V 99, μ2, ν2, ?_, ?_, a5, a6⟩
    · rw [if_neg hn, if_neg (by decide), ob2_of a1, ob2_of a2]
    · rw [if_pos ((LD_neg hL.1 hr).mpr hn), ob2_of a3, ob2_of a4]
theorem standing_ok (X : HX c i nl h μ0 ν0) (R : HR c i nl μ0 ν0 μ ν) : ∃ p μ2 ν2, X1_standingOf c (nI h) μ = some (p, μ2) ∧ X10_standingOf (nI i) ν = some (p, ν2) ∧ EqX μ μ2 ∧ EqS ν ν2 := by
  have hL := X.lr R
  have h8 : μ 8 5 = nI nl := hL.2.1
  obtain ⟨r, hr, r1, r2⟩ := rul_ok hL 1 (nI h)
  unfold X1_standingOf X10_standingOf
  rw [ob2_of r1, ob2_of (has_ok h8 hL.1 hr), X.hr R, ob2_of r2]
  by_cases hn : r = -1
  · refine ⟨30, μ, ν, ?_, ?_, EqX.rf μ, EqS.rf ν⟩
    · rw [if_pos hn, if_pos rfl]
    · rw [if_neg (fun q => (LD_neg hL.1 hr).mp q hn)]
  · obtain ⟨V, μ2, ν2, a1, a2, a3, a4, a5, a6⟩ := ask_ok X R hr hn 999 0 (by decide)
    refine ⟨wcl V 999, μ2, ν2, ?_, ?_, a5, a6⟩
    · rw [if_neg hn, if_neg (by decide), ob2_of a1, ob2_of a2]
    · rw [if_pos ((LD_neg hL.1 hr).mpr hn), ob2_of a3, ob2_of a4]
/-- limits -/
def lim (f : Nat → Int32) : Int32 := (if f 9 = 0 then 0 else -500) - (if f 2 = 5 then 200 else 0)
theorem limit_c (c : Nat) (μ : Mem) : X2_limit c μ = some (lim (μ c), μ) := by
  unfold X2_limit X2_limit_14 X2_limit_29 lim
  by_cases h1 : μ c 9 = 0
  · rw [if_pos h1, if_pos h1]
    by_cases h2 : μ c 2 = 5
    · rw [if_pos h2, if_pos h2]
    · rw [if_neg h2, if_neg h2]
  · rw [if_neg h1, if_neg h1]
    by_cases h2 : μ c 2 = 5
    · rw [if_pos h2, if_pos h2]
    · rw [if_neg h2, if_neg h2]
theorem limit_m (hi : i < 8) (R : HR c i nl μ0 ν0 μ ν) : X10_limit (nI i) ν = some (lim (μ c), ν) := by
  have q7 := R.q (w := 7) (by decide)
  have q0 := R.q (w := 0) (by decide)
  have hz : (μ c 9 = 0 ∨ μ c 9 = 1) := R.mb.2.2.2.2.2.2.1
  unfold X10_limit X10_limit_18 X10_limit_35 lim
  rw [ob2_of (of_ok (w := 7) hi (by decide) ν), q7]
  rcases hz with hz | hz
  · rw [if_neg (show ¬ μ c (7 + 2) = 1 by show ¬ μ c 9 = 1; rw [hz]; decide), ob2_of (of_ok (w := 0) hi (by decide) ν), q0, if_pos hz]
    by_cases h2 : μ c 2 = 5
    · rw [if_pos h2, if_pos h2]
    · rw [if_neg h2, if_neg h2]
  · rw [if_pos (show μ c (7 + 2) = 1 from hz), ob2_of (of_ok (w := 0) hi (by decide) ν), q0, if_neg (show ¬ μ c 9 = 0 by rw [hz]; decide)]
    by_cases h2 : μ c 2 = 5
    · rw [if_pos h2, if_pos h2]
    · rw [if_neg h2, if_neg h2]
theorem friendly_ok {h : Nat} (hh : h < 100000) (μ ν : Mem) : ∃ z, X9_isFriendly (nI h) μ = some (z, μ) ∧ X10_isFriendly (nI h) ν = some (z, ν) := by
  have e1 : nI h - nI h / 24 * 24 = nI (h % 24) := pk_rem (d := 24) (by omega) (by decide) (by decide)
  have e2 : nI h / 24 = nI (h / 24) := pk_div (d := 24) (by omega) (by decide) (by decide)
  have e3 : nI (h / 24) - nI (h / 24) / 7 * 7 = nI (h / 24 % 7) := pk_rem (d := 7) (by omega) (by decide) (by decide)
  unfold X9_isFriendly X10_isFriendly
  rw [e1, e2, e3]
  generalize hw : h / 24 % 7 = w
  have hw7 : w < 7 := by omega
  by_cases h1 : (18 : Int32) ≤ nI (h % 24)
  · rw [if_pos h1, if_pos h1]; exact ⟨1, rfl, rfl⟩
  rw [if_neg h1, if_neg h1]
  by_cases h2 : nI (h % 24) < 9
  · rw [if_pos h2, if_pos h2]; exact ⟨1, rfl, rfl⟩
  rw [if_neg h2, if_neg h2]
  rcases (show w = 0 ∨ w = 1 ∨ w = 2 ∨ w = 3 ∨ w = 4 ∨ w = 5 ∨ w = 6 by omega) with rfl | rfl | rfl | rfl | rfl | rfl | rfl
  · exact ⟨0, rfl, rfl⟩
  · exact ⟨0, rfl, rfl⟩
  · exact ⟨0, rfl, rfl⟩
  · exact ⟨0, rfl, rfl⟩
  · exact ⟨0, rfl, rfl⟩
  · exact ⟨1, rfl, rfl⟩
  · exact ⟨1, rfl, rfl⟩
end HO
