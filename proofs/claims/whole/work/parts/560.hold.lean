/-! holding out: the class tries on a copy, the model in place -/
theorem rr_c {μ : Mem} {s n q : Nat} {G : Nat → Int32} (h2 : μ (88 + 2 * s) 2 = nI n) (hn : n ≤ 24) (hg : ∀ k, k < n → μ (88 + 2 * s + 1) k = G k) (hq : q < 24) : X4_numberAt (88 + 2 * s) (nI q) μ = some (if q < n then G q else 0, μ) := by
  unfold X4_numberAt
  rw [if_neg (nI_pos (show q < 2 ^ 31 by omega)), h2]
  by_cases h : q < n
  · rw [if_neg (nle h (by omega)), gd_pos (i_in hq (by omega)), i_tn (by omega), if_pos h, hg q h]
  · rw [if_pos (nI_le (show n ≤ q by omega) (by omega)), if_neg h]
/-- the pence of a day that a sheet holds -/
def am (r : Int32) : Nat := if 9999 < r then 9999 else r.toInt.toNat
theorem am_ok {r : Int32} (h : ¬ r ≤ 0) : am r ≤ 9999 ∧ (if 9999 < r then (9999 : Int32) else r) = nI (am r) ∧ ∀ (K : Int32 → Option (Int32 × Mem)), (if r ≤ 9999 then K r else K 9999) = K (nI (am r)) := by
  have e0 : (0 : Int32).toInt = 0 := rfl
  have e9 : (9999 : Int32).toInt = 9999 := rfl
  rw [i_le, e0] at h
  unfold am
  by_cases h9 : 9999 < r
  · refine ⟨by rw [if_pos h9]; omega, by rw [if_pos h9, if_pos h9]; rfl, fun K => ?_⟩
    rw [if_pos h9]
    rw [i_lt, e9] at h9
    rw [if_neg (by rw [i_le, e9]; omega)]
    rfl
  · rw [if_neg h9]
    have h9' := h9
    rw [i_lt, e9] at h9
    have er : r = nI r.toInt.toNat := i_eq.mpr (by rw [i_n _ (by omega)]; omega)
    refine ⟨by omega, by rw [if_neg h9']; exact er, fun K => ?_⟩
    rw [if_pos (by rw [i_le, e9]; omega), ← er]
section HD
variable {i nl h s n D : Nat} {μ0 ν1 : Mem} {G : Nat → Int32}
theorem cstep {μ : Mem} {k : Nat} (h8 : μ 1 8 = nI h) (h2 : μ (88 + 2 * s) 2 = nI n) (hn : n ≤ 24) (hg : ∀ k, k < n → μ (88 + 2 * s + 1) k = G k) (hk : k < 24 * D) (hD : D ≤ 7) (f a1 : Nat) (x5 : Int32) (hx : ¬ x5 ≤ μ 79 12 - μ a1 12) : X9_darkMore_20 (f + 1) a1 (88 + 2 * s) (nI D) x5 (nI k) μ = (if k % 24 = 0 ∧ ¬ (if k / 24 < n then G (k / 24) else 0) ≤ (0 : Int32) then ob2 (X7_topUp 79 (nI (h + k)) (nI (am (if k / 24 < n then G (k / 24) else 0))) μ) fun r10 μ10 => X9_darkMore_104 (X9_darkMore_20 f) a1 (88 + 2 * s) (nI D) x5 (nI k) μ10 else X9_darkMore_104 (X9_darkMore_20 f) a1 (88 + 2 * s) (nI D) x5 (nI k) μ) := by
  rw [X9_darkMore_20.eq_2]
  have e24 : (24 : Int32) * nI D = nI (24 * D) := by rw [show (24 : Int32) = nI 24 from rfl, pk_mul]
  have er : nI k - nI k / 24 * 24 = nI (k % 24) := pk_rem (d := 24) (by omega) (by decide) (by decide)
  have ed : nI k / 24 = nI (k / 24) := pk_div (d := 24) (by omega) (by decide) (by decide)
  rw [e24, if_neg (nle hk (by omega)), if_neg hx, er, ed]
  have en := rr_c (q := k / 24) h2 hn hg (by omega)
  by_cases h0 : k % 24 = 0
  · rw [if_pos (show nI (k % 24) = 0 by rw [h0]; rfl), ob2_of en, ob2_of en]
    by_cases h1 : (if k / 24 < n then G (k / 24) else 0) ≤ (0 : Int32)
    · rw [if_pos h1, if_neg (fun q => q.2 h1)]
    · rw [if_neg h1, if_pos (show k % 24 = 0 ∧ ¬ (if k / 24 < n then G (k / 24) else 0) ≤ (0 : Int32) from ⟨h0, h1⟩), h8, nI_add, (am_ok h1).2.1]
  · rw [if_neg (show ¬ nI (k % 24) = 0 from fun q => h0 ((nI_z (by omega)).mp q)), if_neg (fun q => h0 q.1)]
theorem mstep {ν : Mem} {k : Nat} (hs : s < 4) (h9 : ν 9 s = nI n) (hn : n ≤ 24) (hg : ∀ k, k < n → ν 10 (24 * s + k) = G k) (hk : k < 24 * D) (hD : D ≤ 7) (f : Nat) (x1 b : Int32) : X10_holds_28 (f + 1) x1 (nI s) (nI D) b (nI k) ν = (if k % 24 = 0 ∧ ¬ (if k / 24 < n then G (k / 24) else 0) ≤ (0 : Int32) then ob2 (X10_tops x1 (nI (am (if k / 24 < n then G (k / 24) else 0))) ν) fun r12 μ12 => X10_holds_108 (X10_holds_28 f) x1 (nI s) (nI D) b (nI k) μ12 else X10_holds_108 (X10_holds_28 f) x1 (nI s) (nI D) b (nI k) ν) := by
  rw [X10_holds_28.eq_2]
  have e24 : (24 : Int32) * nI D = nI (24 * D) := by rw [show (24 : Int32) = nI 24 from rfl, pk_mul]
  have er : nI k - nI k / 24 * 24 = nI (k % 24) := pk_rem (d := 24) (by omega) (by decide) (by decide)
  have ed : nI k / 24 = nI (k / 24) := pk_div (d := 24) (by omega) (by decide) (by decide)
  have e78 : ∀ t0, X10_holds_78 (X10_holds_28 f) x1 (nI s) (nI D) b (nI k) t0 ν = (if ¬ t0 ≤ 0 then ob2 (X10_tops x1 (nI (am t0)) ν) fun r12 μ12 => X10_holds_108 (X10_holds_28 f) x1 (nI s) (nI D) b (nI k) μ12 else X10_holds_108 (X10_holds_28 f) x1 (nI s) (nI D) b (nI k) ν) := by
    intro t0
    unfold X10_holds_78 X10_holds_103
    by_cases h1 : t0 ≤ 0
    · rw [if_pos h1, if_neg (fun q => q h1)]
    · rw [if_neg h1, if_pos h1]
      exact (am_ok h1).2.2 (fun t => ob2 (X10_tops x1 t ν) fun r12 μ12 => X10_holds_108 (X10_holds_28 f) x1 (nI s) (nI D) b (nI k) μ12)
  unfold X10_holds_77
  rw [e24, if_neg (nle hk (by omega)), er, ed, e78, e78]
  by_cases h0 : k % 24 = 0
  · rw [if_pos (show nI (k % 24) = 0 by rw [h0]; rfl), gd_pos (i_in hs (by omega)), i_tn (by omega), h9]
    by_cases hq : k / 24 < n
    · have e : (24 : Int32) * nI s + nI (k / 24) = nI (24 * s + k / 24) := by rw [show (24 : Int32) = nI 24 from rfl, pk_mul, nI_add]
      rw [if_neg (nle hq (by omega)), e, gd_pos (i_in (by omega) (by omega)), i_tn (by omega), hg _ hq, if_pos hq]
      by_cases h1 : G (k / 24) ≤ 0
      · rw [if_neg (fun q => q h1), if_neg (fun q => q.2 h1)]
      · rw [if_pos h1, if_pos ⟨h0, h1⟩]
    · rw [if_pos (nI_le (show n ≤ k / 24 by omega) (by omega)), if_neg hq, if_neg (show ¬ ¬ (0 : Int32) ≤ 0 by decide), if_neg (fun q => q.2 (by decide))]
  · rw [if_neg (show ¬ nI (k % 24) = 0 from fun q => h0 ((nI_z (by omega)).mp q)), if_neg (show ¬ ¬ (0 : Int32) ≤ 0 by decide), if_neg (fun q => h0 q.1)]
/-- where both stand after k hours -/
def HI (i nl h : Nat) (μ0 ν1 : Mem) (k : Nat) (μ ν : Mem) : Prop := (∀ a, a ≠ 13 → a ≠ 79 → a ≠ 80 → μ a = μ0 a) ∧ MR i nl (μ 79) (μ 80) (fun w => ν 1 (16 + 40 * i + w)) ∧ (∀ a, a ≠ 0 → a ≠ 1 → a ≠ 5 → ν a = ν1 a) ∧ (∀ j, (j < 6 ∨ 10 < j) → ν 0 j = ν1 0 j) ∧ (∀ w, w ≠ 0 → (w < 16 + 40 * i ∨ 56 + 40 * i ≤ w) → ν 1 w = ν1 1 w) ∧ ν 1 0 = nI (h + k)
theorem HI.hx {μ ν : Mem} {k : Nat} (hL : LR μ0 1 (ν1 1) nl) (hF : ν1 6 = letF) (hi : i < 8) (hk : h + k ≤ 9001) (H : HI i nl h μ0 ν1 k μ ν) : HX 79 i nl (h + k) μ ν ∧ HR 79 i nl μ ν μ ν := by
  have hl := hL.1
  exact ⟨⟨hL.c (fun a q1 q2 => H.1 a (by omega) (by omega) (by omega)) (fun w hw => H.2.2.2.2.1 w (by omega) (by omega)), (H.2.2.1 6 (by decide) (by decide) (by decide)).trans hF, hi, by decide, H.2.2.2.2.2, hk⟩, H.2.1, EqC.rf _ _, EqD.rf _ _⟩
theorem HI.db {μ ν : Mem} {k : Nat} (H : HI i nl h μ0 ν1 k μ ν) : DB nl 79 μ := by
  obtain ⟨b1, b2, b3, ⟨o, ho, b4⟩, ⟨p, hp, b5⟩, b6, b7, b8⟩ := H.2.1.2.2.2.2
  exact ⟨o, p, ho, hp, b4, b5, b8⟩
theorem HI.re {μ ν μ2 ν2 : Mem} {k : Nat} (H : HI i nl h μ0 ν1 k μ ν) (R : HR 79 i nl μ ν μ2 ν2) : HI i nl h μ0 ν1 k μ2 ν2 := by
  refine ⟨fun a q1 q2 q3 => (R.2.1 a q1 q2).trans (H.1 a q1 q2 q3), R.1, fun a q1 q2 q3 => (R.2.2.1 a q1 q3 q2).trans (H.2.2.1 a q1 q2 q3), fun j hj => (R.2.2.2.1 j hj).trans (H.2.2.2.1 j hj), fun w q1 q2 => (R.2.2.2.2 w q2).trans (H.2.2.2.2.1 w q1 q2), ?_⟩
  rw [R.2.2.2.2 0 (by omega)]
  exact H.2.2.2.2.2
theorem top_st {μ ν : Mem} {k m : Nat} (hL : LR μ0 1 (ν1 1) nl) (hF : ν1 6 = letF) (hi : i < 8) (hk : h + k ≤ 9001) (H : HI i nl h μ0 ν1 k μ ν) (hm : m ≤ 9999) : ∃ z μ2 ν2, X7_topUp 79 (nI (h + k)) (nI m) μ = some (z, μ2) ∧ X10_tops (nI i) (nI m) ν = some (z, ν2) ∧ HI i nl h μ0 ν1 k μ2 ν2 ∧ μ2 79 12 = μ 79 12 := by
  obtain ⟨X, R⟩ := H.hx hL hF hi hk
  obtain ⟨z, μ2, ν2, R2, e1, e2⟩ := tops_ok X R hm
  obtain ⟨z', G', g1, g2, g3, g4⟩ := topup_u (X.lr R) (by decide) H.db (nI (h + k)) hm
  obtain ⟨μ3, e3, P3⟩ := g4 μ (PR.rf _ _)
  rw [e1] at e3
  injection e3 with e3
  have e3 : μ2 = μ3 := congrArg Prod.snd e3
  subst e3
  exact ⟨z, μ2, ν2, e1, e2, H.re R2, by rw [P3.g 12 (by decide), g2]⟩
theorem tail_st {μ ν : Mem} {k : Nat} (hL : LR μ0 1 (ν1 1) nl) (hF : ν1 6 = letF) (hi : i < 8) (hk : h + k ≤ 9000) (h8 : μ0 1 8 = nI h) (H : HI i nl h μ0 ν1 k μ ν) (a1 a2 : Nat) (x2 x3 : Int32) : ∃ μ2 ν2 e, (e = 0 ∨ e = 1) ∧ (∀ f x5, X9_darkMore_104 (X9_darkMore_20 f) a1 a2 x3 x5 (nI k) μ = X9_darkMore_20 f a1 a2 x3 x5 (nI (k + 1)) μ2) ∧ (∀ f b, X10_holds_108 (X10_holds_28 f) (nI i) x2 x3 b (nI k) ν = X10_holds_28 f (nI i) x2 x3 b (nI (k + 1)) ν2) ∧ HI i nl h μ0 ν1 (k + 1) μ2 ν2 ∧ μ2 79 12 = μ 79 12 + nI e := by
  obtain ⟨X, R⟩ := H.hx hL hF hi (by omega)
  obtain ⟨z, μ2, ν2, R2, e1, e2, -⟩ := pass_ok X R
  obtain ⟨z', G', g1, g2, g3, g4⟩ := hour_u (X.lr R) (by decide) H.db (show h + k ≤ 9001 by omega)
  obtain ⟨μ3, e3, P3⟩ := g4 μ (PR.rf _ _)
  rw [e1] at e3
  injection e3 with e3
  have e3 : μ2 = μ3 := congrArg Prod.snd e3
  subst e3
  have H2 := H.re R2
  have q8 : μ 1 8 = nI h := by rw [H.1 1 (by decide) (by decide) (by decide)]; exact h8
  have key : ∃ e : Nat, (e = 0 ∨ e = 1) ∧ μ2 79 12 = μ 79 12 + nI e := by
    rcases g2 with g2 | g2
    · exact ⟨0, Or.inl rfl, by rw [P3.g 12 (by decide), g2]; exact (Int32.add_zero _).symm⟩
    · exact ⟨1, Or.inr rfl, by rw [P3.g 12 (by decide), g2]; rfl⟩
  obtain ⟨e, he, he2⟩ := key
  refine ⟨μ2, st ν2 1 0 (nI (h + k + 1)), e, he, fun f x5 => ?_, fun f b => ?_, ⟨H2.1, H2.2.1.cong rfl rfl (fun w hw => ?_), fun a q1 q2 q3 => ?_, fun j hj => ?_, fun w q1 q2 => ?_, ?_⟩, he2⟩
  · unfold X9_darkMore_104
    rw [q8, nI_add, ob2_of e1, nI_1]
  · unfold X10_holds_108
    rw [ob2_of e2, lt_of, H2.2.2.2.2.2, nI_1, nI_1]
  · rw [st_ne (by omega)]
  · rw [st_other _ _ _ q2]; exact H2.2.2.1 a q1 q2 q3
  · rw [st_other _ _ _ (by decide)]; exact H2.2.2.2.1 j hj
  · rw [st_ne (by omega)]; exact H2.2.2.2.2.1 w q1 q2
  · rw [st_eq, Nat.add_assoc]
theorem hour_st {μ ν : Mem} {k : Nat} (hL : LR μ0 1 (ν1 1) nl) (hF : ν1 6 = letF) (hi : i < 8) (hs : s < 4) (hn : n ≤ 24) (hD : D ≤ 7) (hk9 : h + 24 * D ≤ 9000) (h8 : μ0 1 8 = nI h) (h2 : μ0 (88 + 2 * s) 2 = nI n) (hg : ∀ k, k < n → μ0 (88 + 2 * s + 1) k = G k) (m9 : ν1 9 s = nI n) (mg : ∀ k, k < n → ν1 10 (24 * s + k) = G k) (hk : k < 24 * D) (H : HI i nl h μ0 ν1 k μ ν) (a1 : Nat) : ∃ μ2 ν2 e, (e = 0 ∨ e = 1) ∧ (∀ f x5, ¬ x5 ≤ μ 79 12 - μ a1 12 → X9_darkMore_20 (f + 1) a1 (88 + 2 * s) (nI D) x5 (nI k) μ = X9_darkMore_20 f a1 (88 + 2 * s) (nI D) x5 (nI (k + 1)) μ2) ∧ (∀ f b, X10_holds_28 (f + 1) (nI i) (nI s) (nI D) b (nI k) ν = X10_holds_28 f (nI i) (nI s) (nI D) b (nI (k + 1)) ν2) ∧ HI i nl h μ0 ν1 (k + 1) μ2 ν2 ∧ μ2 79 12 = μ 79 12 + nI e := by
  have q8 : μ 1 8 = nI h := by rw [H.1 1 (by decide) (by decide) (by decide)]; exact h8
  have q2 : μ (88 + 2 * s) 2 = nI n := by rw [H.1 _ (by omega) (by omega) (by omega)]; exact h2
  have qg : ∀ k, k < n → μ (88 + 2 * s + 1) k = G k := fun k hk => by rw [H.1 _ (by omega) (by omega) (by omega)]; exact hg k hk
  have r9 : ν 9 s = nI n := by rw [H.2.2.1 9 (by decide) (by decide) (by decide)]; exact m9
  have rg : ∀ k, k < n → ν 10 (24 * s + k) = G k := fun k hk => by rw [H.2.2.1 10 (by decide) (by decide) (by decide)]; exact mg k hk
  have cs := fun f x5 hx => cstep (D := D) (k := k) q8 q2 hn qg hk hD f a1 x5 hx
  have ms := fun f b => mstep (D := D) (k := k) hs r9 hn rg hk hD f (nI i) b
  by_cases hc : k % 24 = 0 ∧ ¬ (if k / 24 < n then G (k / 24) else 0) ≤ (0 : Int32)
  · obtain ⟨z, μa, νa, t1, t2, t3, t4⟩ := top_st hL hF hi (by omega) H (am_ok hc.2).1
    obtain ⟨μ2, ν2, e, e0, e1, e2, e3, e4⟩ := tail_st hL hF hi (by omega) h8 t3 a1 (88 + 2 * s) (nI s) (nI D)
    refine ⟨μ2, ν2, e, e0, fun f x5 hx => ?_, fun f b => ?_, e3, by rw [e4, t4]⟩
    · rw [cs f x5 hx, if_pos hc, ob2_of t1, e1]
    · rw [ms f b, if_pos hc, ob2_of t2, e2]
  · obtain ⟨μ2, ν2, e, e0, e1, e2, e3, e4⟩ := tail_st hL hF hi (by omega) h8 H a1 (88 + 2 * s) (nI s) (nI D)
    refine ⟨μ2, ν2, e, e0, fun f x5 hx => ?_, fun f b => ?_, e3, e4⟩
    · rw [cs f x5 hx, if_neg hc, e1]
    · rw [ms f b, if_neg hc, e2]
theorem diff_e (m x : Int32) : m + x - m = x := by rw [Int32.add_comm, Int32.add_sub_cancel]
/-- the hours one after another: to the end, and only to the first dark one -/
theorem run (hL : LR μ0 1 (ν1 1) nl) (hF : ν1 6 = letF) (hi : i < 8) (hs : s < 4) (hn : n ≤ 24) (hD : D ≤ 7) (hk9 : h + 24 * D ≤ 9000) (h8 : μ0 1 8 = nI h) (h2 : μ0 (88 + 2 * s) 2 = nI n) (hg : ∀ k, k < n → μ0 (88 + 2 * s + 1) k = G k) (m9 : ν1 9 s = nI n) (mg : ∀ k, k < n → ν1 10 (24 * s + k) = G k) {a1 : Nat} (ha : a1 ≠ 13 ∧ a1 ≠ 79 ∧ a1 ≠ 80) : ∀ (z k f f2 f3 e : Nat) (μ ν : Mem), 24 * D - k < z → k ≤ 24 * D → z ≤ f → z ≤ f2 → z ≤ f3 → HI i nl h μ0 ν1 k μ ν → μ 79 12 = μ0 a1 12 + nI e → e ≤ k → ∃ E, e ≤ E ∧ E ≤ 24 * D ∧ (∃ μ2, X9_darkMore_20 f a1 (88 + 2 * s) (nI D) 9000 (nI k) μ = some (nI E, μ2) ∧ ∀ a, a ≠ 13 → a ≠ 79 → a ≠ 80 → μ2 a = μ0 a) ∧ (∃ ν2, X10_holds_28 f2 (nI i) (nI s) (nI D) (μ0 a1 12) (nI k) ν = some (nI E, ν2) ∧ (∀ a, a ≠ 0 → a ≠ 1 → a ≠ 5 → ν2 a = ν1 a) ∧ (∀ j, (j < 6 ∨ 10 < j) → ν2 0 j = ν1 0 j) ∧ ∀ w, w < 1944 → ν2 1 w = ν1 3 w) ∧ (e = 0 → ∃ r μ2, X9_darkMore_20 f3 a1 (88 + 2 * s) (nI D) 1 (nI k) μ = some (r, μ2) ∧ (∀ a, a ≠ 13 → a ≠ 79 → a ≠ 80 → μ2 a = μ0 a) ∧ (r = 0 ↔ E = 0)) := by
  have e24 : (24 : Int32) * nI D = nI (24 * D) := by rw [show (24 : Int32) = nI 24 from rfl, pk_mul]
  intro z
  induction z with
  | zero => intro k f f2 f3 e μ ν h; omega
  | succ z ih =>
    intro k f f2 f3 e μ ν hz hk hf hf2 hf3 H hd hek
    obtain ⟨f, rfl⟩ : ∃ f1, f = f1 + 1 := ⟨f - 1, by omega⟩
    obtain ⟨f2, rfl⟩ : ∃ f1, f2 = f1 + 1 := ⟨f2 - 1, by omega⟩
    obtain ⟨f3, rfl⟩ : ∃ f1, f3 = f1 + 1 := ⟨f3 - 1, by omega⟩
    have a12 : μ a1 12 = μ0 a1 12 := by rw [H.1 a1 ha.1 ha.2.1 ha.2.2]
    have df : μ 79 12 - μ a1 12 = nI e := by rw [a12, hd, diff_e]
    have e132 : X9_darkMore_132 a1 μ = some (nI e, μ) := by
      unfold X9_darkMore_132
      rw [df]
    by_cases hkn : k = 24 * D
    · have c0 : ∀ f x5, X9_darkMore_20 (f + 1) a1 (88 + 2 * s) (nI D) x5 (nI k) μ = some (nI e, μ) := fun f x5 => by
        rw [X9_darkMore_20.eq_2, e24, if_pos (by rw [i_le, hkn]; omega), e132]
      obtain ⟨ν2, t1, t2, t3⟩ := takes_ok (b := 3) (by decide) ν
      refine ⟨e, by omega, by omega, ⟨μ, c0 f 9000, H.1⟩, ⟨ν2, ?_, fun a q1 q2 q3 => (t2 a q2).trans (H.2.2.1 a q1 q2 q3), fun j hj => by rw [t2 0 (by decide)]; exact H.2.2.2.1 j hj, fun w hw => by rw [t3 w hw, H.2.2.1 3 (by decide) (by decide) (by decide)]⟩, fun h0 => ⟨nI e, μ, c0 f3 1, H.1, nI_z (by omega)⟩⟩
      have q10 : ν 1 (16 + 40 * i + 10) = μ 79 12 := H.2.1.2.1 10 (by decide)
      rw [X10_holds_28.eq_2, e24, if_pos (by rw [i_le, hkn]; omega), ob2_of (of_ok (w := 10) hi (by decide) ν), ob_of t1, q10, hd, diff_e]
    · have hkl : k < 24 * D := by omega
      obtain ⟨μ2, ν2, e', e0, e1, e2, e3, e4⟩ := hour_st hL hF hi hs hn hD hk9 h8 h2 hg m9 mg hkl H a1
      have hd2 : μ2 79 12 = μ0 a1 12 + nI (e + e') := by rw [e4, hd, Int32.add_assoc, nI_add]
      obtain ⟨E, i1, i2, i3, i4, i5⟩ := ih (k + 1) f f2 f3 (e + e') μ2 ν2 (by omega) (by omega) (by omega) (by omega) (by omega) e3 hd2 (by omega)
      rw [e1 f 9000 (by rw [df]; exact nle (b := 9000) (by omega) (by decide)), e2 f2]
      refine ⟨E, by omega, i2, i3, i4, fun h0 => ?_⟩
      subst h0
      rw [e1 f3 1 (by rw [df]; decide)]
      rcases e0 with rfl | rfl
      · exact i5 rfl
      · have df2 : μ2 79 12 - μ2 a1 12 = 1 := by
          rw [hd2, e3.1 a1 ha.1 ha.2.1 ha.2.2, diff_e]
          rfl
        obtain ⟨f4, rfl⟩ : ∃ f1, f3 = f1 + 1 := ⟨f3 - 1, by omega⟩
        refine ⟨1, μ2, ?_, e3.1, ⟨fun q => absurd q (by decide), fun q => by omega⟩⟩
        rw [X9_darkMore_20.eq_2, df2, if_pos (show (1 : Int32) ≤ 1 by decide)]
        unfold X9_darkMore_132
        rw [df2]
        split <;> rfl
/-- all copies that differ in parts that don't matter come to the same -/
theorem hour_all {d : Nat → Int32} {μ : Mem} {k : Nat} (hL : LR μ 1 d nl) (hDB : DB nl 79 μ) (hn : n ≤ 24) (hD : D ≤ 7) (hk9 : h + 24 * D ≤ 9000) (h8 : μ 1 8 = nI h) (hs : s < 4) (h2 : μ (88 + 2 * s) 2 = nI n) (hg : ∀ k, k < n → μ (88 + 2 * s + 1) k = G k) (hk : k < 24 * D) {a1 : Nat} (ha : a1 ≠ 13 ∧ a1 ≠ 79 ∧ a1 ≠ 80) : ∃ F, K1 79 μ F ∧ DB nl 79 F ∧ (F 79 12 = μ 79 12 ∨ F 79 12 = μ 79 12 + 1) ∧ ∀ μ', PR 79 μ μ' → ∃ μ2, PR 79 F μ2 ∧ ∀ f x5, ¬ x5 ≤ μ' 79 12 - μ' a1 12 → X9_darkMore_20 (f + 1) a1 (88 + 2 * s) (nI D) x5 (nI k) μ' = X9_darkMore_20 f a1 (88 + 2 * s) (nI D) x5 (nI (k + 1)) μ2 := by
  have fr : ∀ {F μ' : Mem}, (∀ a, a ≠ 79 → F a = μ a) → PR 79 F μ' → ∀ a, a ≠ 13 → a ≠ 79 → a ≠ 80 → μ' a = μ a := fun hF P a q1 q2 q3 => (P.1.1 a q1 q2 q3).trans (hF a q2)
  have cs := fun (μ' : Mem) (P : PR 79 μ μ') f x5 hx => cstep (μ := μ') (h := h) (s := s) (n := n) (G := G) (D := D) (k := k) (by rw [fr (fun _ _ => rfl) P 1 (by decide) (by decide) (by decide)]; exact h8) (by rw [fr (fun _ _ => rfl) P _ (by omega) (by omega) (by omega)]; exact h2) hn (fun k hk => by rw [fr (fun _ _ => rfl) P _ (by omega) (by omega) (by omega)]; exact hg k hk) hk hD f a1 x5 hx
  have tail : ∀ F, (∀ a, a ≠ 79 → F a = μ a) → DB nl 79 F → ∃ F2, K1 79 F F2 ∧ DB nl 79 F2 ∧ (F2 79 12 = F 79 12 ∨ F2 79 12 = F 79 12 + 1) ∧ ∀ μ', PR 79 F μ' → ∃ μ2, PR 79 F2 μ2 ∧ ∀ f x5, X9_darkMore_104 (X9_darkMore_20 f) a1 (88 + 2 * s) (nI D) x5 (nI k) μ' = X9_darkMore_20 f a1 (88 + 2 * s) (nI D) x5 (nI (k + 1)) μ2 := by
    intro F hF hDF
    obtain ⟨z, F2, g1, g2, g3, g4⟩ := hour_u (hL.k (by decide) hF) (by decide) hDF (show h + k ≤ 9001 by omega)
    refine ⟨F2, g1, g3, g2, fun μ' P => ?_⟩
    obtain ⟨μ2, b1, b2⟩ := g4 μ' P
    refine ⟨μ2, b2, fun f x5 => ?_⟩
    have q8 : μ' 1 8 = nI h := by rw [fr hF P 1 (by decide) (by decide) (by decide)]; exact h8
    unfold X9_darkMore_104
    rw [q8, nI_add, ob2_of b1, nI_1]
  by_cases hc : k % 24 = 0 ∧ ¬ (if k / 24 < n then G (k / 24) else 0) ≤ (0 : Int32)
  · obtain ⟨z, F, f1, f2, f3, f4⟩ := topup_u hL (by decide) hDB (nI (h + k)) (am_ok hc.2).1
    obtain ⟨F2, g1, g2, g3, g4⟩ := tail F f1.1 f3
    refine ⟨F2, f1.tr g1, g2, by rw [← f2]; exact g3, fun μ' P => ?_⟩
    obtain ⟨μa, t1, t2⟩ := f4 μ' P
    obtain ⟨μ2, t3, t4⟩ := g4 μa t2
    refine ⟨μ2, t3, fun f x5 hx => ?_⟩
    rw [cs μ' P f x5 hx, if_pos hc, ob2_of t1, t4]
  · obtain ⟨F2, g1, g2, g3, g4⟩ := tail μ (fun _ _ => rfl) hDB
    refine ⟨F2, g1, g2, g3, fun μ' P => ?_⟩
    obtain ⟨μ2, t3, t4⟩ := g4 μ' P
    refine ⟨μ2, t3, fun f x5 hx => ?_⟩
    rw [cs μ' P f x5 hx, if_neg hc, t4]
theorem run_all {d : Nat → Int32} (hn : n ≤ 24) (hD : D ≤ 7) (hk9 : h + 24 * D ≤ 9000) (hs : s < 4) {a1 : Nat} (ha : a1 ≠ 13 ∧ a1 ≠ 79 ∧ a1 ≠ 80) : ∀ (z k f e : Nat) (μ : Mem), 24 * D - k < z → k ≤ 24 * D → z ≤ f → LR μ 1 d nl → DB nl 79 μ → μ 1 8 = nI h → μ (88 + 2 * s) 2 = nI n → (∀ k, k < n → μ (88 + 2 * s + 1) k = G k) → μ 79 12 = μ a1 12 + nI e → e ≤ k → ∃ E, E ≤ 24 * D ∧ ∀ μ', PR 79 μ μ' → ∃ μ2, X9_darkMore_20 f a1 (88 + 2 * s) (nI D) 9000 (nI k) μ' = some (nI E, μ2) := by
  have e24 : (24 : Int32) * nI D = nI (24 * D) := by rw [show (24 : Int32) = nI 24 from rfl, pk_mul]
  intro z
  induction z with
  | zero => intro k f e μ h; omega
  | succ z ih =>
    intro k f e μ hz hk hf hL hDB h8 h2 hg hd hek
    obtain ⟨f, rfl⟩ : ∃ f1, f = f1 + 1 := ⟨f - 1, by omega⟩
    have df : ∀ μ', PR 79 μ μ' → μ' 79 12 - μ' a1 12 = nI e := fun μ' P => by
      rw [P.g 12 (by decide), P.1.1 a1 ha.1 ha.2.1 ha.2.2, hd, diff_e]
    by_cases hkn : k = 24 * D
    · refine ⟨e, by omega, fun μ' P => ⟨μ', ?_⟩⟩
      rw [X9_darkMore_20.eq_2, e24, if_pos (by rw [i_le, hkn]; omega)]
      unfold X9_darkMore_132
      rw [df μ' P]
    · obtain ⟨F, k1, k2, k3, k4⟩ := hour_all (a1 := a1) (k := k) hL hDB hn hD hk9 h8 hs h2 hg (by omega) ha
      obtain ⟨e', he', hd'⟩ : ∃ e' : Nat, (e' = 0 ∨ e' = 1) ∧ F 79 12 = F a1 12 + nI (e + e') := by
        rw [k1.1 a1 ha.2.1]
        rcases k3 with g | g
        · exact ⟨0, Or.inl rfl, by rw [g, hd]; rfl⟩
        · exact ⟨1, Or.inr rfl, by rw [g, hd, Int32.add_assoc]; exact congrArg _ (nI_1 e)⟩
      obtain ⟨E, E1, E2⟩ := ih (k + 1) f (e + e') F (by omega) (by omega) (by omega) (hL.k (by decide) k1.1) k2 (by rw [k1.1 1 (by decide)]; exact h8) (by rw [k1.1 _ (by omega)]; exact h2) (fun k hk => by rw [k1.1 _ (by omega)]; exact hg k hk) hd' (by omega)
      refine ⟨E, E1, fun μ' P => ?_⟩
      obtain ⟨μ2, P2, eq⟩ := k4 μ' P
      obtain ⟨μ3, q⟩ := E2 μ2 P2
      exact ⟨μ3, by rw [eq f 9000 (by rw [df μ' P]; exact nle (b := 9000) (by omega) (by decide)), q]⟩
end HD
