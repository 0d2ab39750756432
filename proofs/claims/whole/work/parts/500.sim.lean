/-! the relation of the two states -/
def ShR (μ : Mem) (T : Nat) (d : Nat → Int32) (s : Nat) : Prop := μ (T + 3) s = d (336 + 4 * s) ∧ μ (T + 4) s = d (337 + 4 * s) ∧ μ (T + 5) s = d (338 + 4 * s) ∧ μ (T + 6) s = d (339 + 4 * s) ∧ (∃ x, x ≤ 30 ∧ μ (T + 3) s = nI x) ∧ ∃ y, y ≤ 30 ∧ μ (T + 4) s = nI y
def RdR (μ : Mem) (T : Nat) (d : Nat → Int32) (r : Nat) : Prop := μ (T + 14) r = d (1124 + 4 * r) ∧ μ (T + 15) r = d (1125 + 4 * r) ∧ μ (T + 16) r = d (1126 + 4 * r) ∧ μ (T + 17) r = d (1127 + 4 * r)
def TpR (μ : Mem) (T : Nat) (d : Nat → Int32) (t : Nat) : Prop := μ (T + 19) t = d (1284 + 3 * t) ∧ μ (T + 20) t = d (1285 + 3 * t) ∧ μ (T + 21) t = d (1286 + 3 * t)
def TaR (μ : Mem) (T : Nat) (d : Nat → Int32) (j : Nat) : Prop := (μ (T + 22) j).toInt8.toInt32 &&& 255 = d (1884 + j)
def TS (T : Nat) (μ : Mem) (d : Nat → Int32) (h nm ns nl nr nt tl : Nat) : Prop :=
  (h ≤ 9000 ∧ nm ≤ 8 ∧ ns ≤ 8 ∧ nr ≤ 40 ∧ nt ≤ 200 ∧ tl ≤ 60) ∧ (μ T 8 = nI h ∧ d 0 = nI h) ∧ (μ T 6 = nI nm ∧ d 1 = nI nm) ∧ (μ (T + 2) 4 = nI ns ∧ d 2 = nI ns) ∧ LR μ T d nl ∧ (μ (T + 13) 4 = nI nr ∧ d 4 = nI nr) ∧ (μ (T + 18) 3 = nI nt ∧ d 5 = nI nt) ∧ (μ T 7 = nI tl ∧ d 6 = nI tl) ∧ (μ (T + 18) 4 = d 7 ∧ μ (T + 18) 5 = d 8) ∧
  (∀ i, i < nm → MR i nl (μ (T + 23 + 2 * i)) (μ (T + 23 + 2 * i + 1)) (fun w => d (16 + 40 * i + w))) ∧ (∀ s, s < ns → ShR μ T d s) ∧ (∀ r, r < nr → RdR μ T d r) ∧ (∀ t, t < nt → TpR μ T d t) ∧ ∀ j, j < tl → TaR μ T d j
def FS (μ ν : Mem) : Prop := ∀ k, 1 ≤ k → k ≤ 5 → μ 86 k = ν 4 k
def VS (μ ν : Mem) : Prop := ∃ n, n ≤ 40 ∧ μ 83 1 = nI n ∧ ν 0 14 = nI n ∧ ∀ j, j < n → μ 84 j = ν 7 j
def Sh1 (f g : Nat → Int32) (b z : Int32) (q : Nat → Int32) : Prop := f 1 = b ∧ (b = 0 ∨ b = 8 ∨ b = 16 ∨ b = 32) ∧ (¬ b = 0 → ∃ n, n ≤ 24 ∧ f 2 = nI n ∧ z = nI n ∧ ∀ k, k < n → g k = q k)
def SS (μ ν : Mem) : Prop := ∀ s, s < 4 → Sh1 (μ (88 + 2 * s)) (μ (88 + 2 * s + 1)) (ν 8 s) (ν 9 s) (fun k => ν 10 (24 * s + k))
def IS (j : Nat) (μ ν : Mem) : Prop := ∃ n, n ≤ j ∧ n < 100000 ∧ μ 0 8 = nI n ∧ ν 0 3 = nI n ∧ ν 0 2 = (if n = 0 then 0 else 1) ∧ (¬ n = 0 → ∃ h nm ns nl nr nt tl, TS 40 μ (ν 2) h nm ns nl nr nt tl)
def OT (j : Nat) (μ ν : Mem) : Prop := FS μ ν ∧ VS μ ν ∧ SS μ ν ∧ IS j μ ν ∧ ν 6 = letF
def Sim (j : Nat) (μ ν : Mem) : Prop := (∃ h nm ns nl nr nt tl, TS 1 μ (ν 1) h nm ns nl nr nt tl) ∧ OT j μ ν
theorem MR.cong {i nl : Nat} {f lo q f2 lo2 q2 : Nat → Int32} (h : MR i nl f lo q) (h1 : f2 = f) (h2 : lo2 = lo) (h3 : ∀ w, w < 40 → q2 w = q w) : MR i nl f2 lo2 q2 := by
  subst h1
  subst h2
  obtain ⟨r1, r2, r3, r4, r5⟩ := h
  exact ⟨r1, fun w hw => (h3 w (by omega)).trans (r2 w hw), r3.imp_right (fun r => (h3 12 (by omega)).trans r), fun w hw => (h3 _ (by omega)).trans (r4 w hw), r5⟩
theorem TS.c {T : Nat} {μ μ2 : Mem} {d d2 : Nat → Int32} {h nm ns nl nr nt tl : Nat} (H : TS T μ d h nm ns nl nr nt tl) (hμ : ∀ a, T ≤ a → a < T + 39 → a ≠ T + 12 → μ2 a = μ a) (hd : ∀ w, w < 1944 → d2 w = d w) : TS T μ2 d2 h nm ns nl nr nt tl := by
  obtain ⟨⟨b1, b2, b3, b4, b5, b6⟩, h1, h2, h3, h4, h5, h6, h7, h8, h9, h10, h11, h12, h13⟩ := H
  have hl := h4.1
  refine ⟨⟨b1, b2, b3, b4, b5, b6⟩, ?_, ?_, ?_, h4.c (fun a q1 q2 => hμ a (by omega) (by omega) (by omega)) (fun w hw => hd w (by omega)), ?_, ?_, ?_, ?_, fun i hi => ?_, fun s hs => ?_, fun r hr => ?_, fun t ht => ?_, fun j hj => ?_⟩
  · rw [hμ T (by omega) (by omega) (by omega), hd 0 (by omega)]; exact h1
  · rw [hμ T (by omega) (by omega) (by omega), hd 1 (by omega)]; exact h2
  · rw [hμ (T + 2) (by omega) (by omega) (by omega), hd 2 (by omega)]; exact h3
  · rw [hμ (T + 13) (by omega) (by omega) (by omega), hd 4 (by omega)]; exact h5
  · rw [hμ (T + 18) (by omega) (by omega) (by omega), hd 5 (by omega)]; exact h6
  · rw [hμ T (by omega) (by omega) (by omega), hd 6 (by omega)]; exact h7
  · rw [hμ (T + 18) (by omega) (by omega) (by omega), hd 7 (by omega), hd 8 (by omega)]; exact h8
  · exact (h9 i hi).cong (hμ _ (by omega) (by omega) (by omega)) (hμ _ (by omega) (by omega) (by omega)) (fun w hw => hd _ (by omega))
  · unfold ShR
    rw [hμ (T + 3) (by omega) (by omega) (by omega), hμ (T + 4) (by omega) (by omega) (by omega), hμ (T + 5) (by omega) (by omega) (by omega), hμ (T + 6) (by omega) (by omega) (by omega), hd _ (by omega), hd _ (by omega), hd _ (by omega), hd _ (by omega)]
    exact h10 s hs
  · unfold RdR
    rw [hμ (T + 14) (by omega) (by omega) (by omega), hμ (T + 15) (by omega) (by omega) (by omega), hμ (T + 16) (by omega) (by omega) (by omega), hμ (T + 17) (by omega) (by omega) (by omega), hd _ (by omega), hd _ (by omega), hd _ (by omega), hd _ (by omega)]
    exact h11 r hr
  · unfold TpR
    rw [hμ (T + 19) (by omega) (by omega) (by omega), hμ (T + 20) (by omega) (by omega) (by omega), hμ (T + 21) (by omega) (by omega) (by omega), hd _ (by omega), hd _ (by omega), hd _ (by omega)]
    exact h12 t ht
  · unfold TaR
    rw [hμ (T + 22) (by omega) (by omega) (by omega), hd _ (by omega)]
    exact h13 j hj
/-- what the rest of the relation stands on -/
def FrX (μ μ2 : Mem) : Prop := ∀ a, (a = 0 ∨ a = 83 ∨ a = 84 ∨ a = 86 ∨ (88 ≤ a ∧ a < 96) ∨ (40 ≤ a ∧ a < 79)) → μ2 a = μ a
def FrM (ν ν2 : Mem) : Prop := (∀ a, (a = 2 ∨ a = 4 ∨ (6 ≤ a ∧ a ≤ 10)) → ν2 a = ν a) ∧ ∀ j, (j < 6 ∨ 10 < j) → ν2 0 j = ν 0 j
theorem FrX.rf (μ : Mem) : FrX μ μ := fun _ _ => rfl
theorem FrM.rf (ν : Mem) : FrM ν ν := ⟨fun _ _ => rfl, fun _ _ => rfl⟩
theorem IS.c {j : Nat} {μ μ2 ν ν2 : Mem} (h : IS j μ ν) (hx : ∀ a, (a = 0 ∨ (40 ≤ a ∧ a < 79)) → μ2 a = μ a) (h2 : ν2 2 = ν 2) (h3 : ν2 0 3 = ν 0 3) (h4 : ν2 0 2 = ν 0 2) : IS (j + 1) μ2 ν2 := by
  obtain ⟨n, a1, a2, a3, a4, a5, a6⟩ := h
  refine ⟨n, by omega, a2, by rw [hx 0 (Or.inl rfl)]; exact a3, h3.trans a4, h4.trans a5, fun hn => ?_⟩
  obtain ⟨h, nm, ns, nl, nr, nt, tl, t⟩ := a6 hn
  exact ⟨h, nm, ns, nl, nr, nt, tl, t.c (fun a q1 q2 _ => hx a (Or.inr ⟨q1, q2⟩)) (fun w _ => by rw [h2])⟩
theorem OT.fr {j : Nat} {μ μ2 ν ν2 : Mem} (h : OT j μ ν) (hx : FrX μ μ2) (hm : FrM ν ν2) : OT (j + 1) μ2 ν2 := by
  obtain ⟨h1, ⟨n, v1, v2, v3, v4⟩, h3, h4, h5⟩ := h
  refine ⟨fun k q1 q2 => ?_, ⟨n, v1, ?_, ?_, fun i hi => ?_⟩, fun s hs => ?_, h4.c (fun a ha => hx a (by omega)) (hm.1 2 (by omega)) (hm.2 3 (by omega)) (hm.2 2 (by omega)), (hm.1 6 (by omega)).trans h5⟩
  · rw [hx 86 (by omega), hm.1 4 (by omega)]; exact h1 k q1 q2
  · rw [hx 83 (by omega)]; exact v2
  · rw [hm.2 14 (by omega)]; exact v3
  · rw [hx 84 (by omega), hm.1 7 (by omega)]; exact v4 i hi
  · rw [hx _ (by omega), hx _ (by omega), hm.1 8 (by omega), hm.1 9 (by omega), hm.1 10 (by omega)]
    exact h3 s hs
theorem Sim.up {j : Nat} {μ ν : Mem} (h : Sim j μ ν) : Sim (j + 1) μ ν := ⟨h.1, h.2.fr (FrX.rf μ) (FrM.rf ν)⟩
/-- nothing that counts has changed -/
theorem Sim.sc {j : Nat} {μ ν μ2 ν2 : Mem} (h : Sim j μ ν) (hx : ∀ a, (a < 79 ∧ a ≠ 13 ∨ a = 83 ∨ a = 84 ∨ a = 86 ∨ (88 ≤ a ∧ a < 96)) → μ2 a = μ a) (h1 : ν2 1 = ν 1) (hm : FrM ν ν2) : Sim (j + 1) μ2 ν2 := by
  obtain ⟨⟨hh, nm, ns, nl, nr, nt, tl, t⟩, o⟩ := h
  exact ⟨⟨hh, nm, ns, nl, nr, nt, tl, t.c (fun a q1 q2 q3 => hx a (by omega)) (fun w _ => by rw [h1])⟩, o.fr (fun a ha => hx a (by omega)) hm⟩
/-! findings -/
theorem find_ok {j : Nat} {μ ν : Mem} (h : Sim j μ ν) (k : Nat) (hk : 1 ≤ k ∧ k ≤ 5) {x : Int32} (hx : x = nI k := by rfl) : ∃ r μ2 ν2, (ob2 (X9_finding x μ) fun r m => some (r, m)) = some (r, μ2) ∧ (ob2 (X10_finding x ν) fun r m => some (r, m)) = some (r, ν2) ∧ Sim (j + 1) μ2 ν2 := by
  subst hx
  have e1 : X9_finding (nI k) μ = some (-1000000 - nI k, st μ 86 k (μ 86 k + 1)) := by
    unfold X9_finding
    rw [if_neg (by rw [i_lt, i_n _ (by omega)]; show ¬ (k : Int) < 0; omega), if_neg (by rw [i_le, i_n _ (by omega)]; show ¬ (6 : Int) ≤ k; omega), gd_pos (i_in (by omega) (by omega)), gd_pos (i_in (by omega) (by omega)), i_tn (by omega), lt_of]
    rfl
  have e2 : X10_finding (nI k) ν = some (-1000000 - nI k, st ν 4 k (ν 4 k + 1)) := by
    unfold X10_finding
    rw [gd_pos (i_in (by omega) (by omega)), gd_pos (i_in (by omega) (by omega)), i_tn (by omega), lt_of]
  refine ⟨_, _, _, by rw [ob2_of e1], by rw [ob2_of e2], ?_⟩
  obtain ⟨⟨hh, nm, ns, nl, nr, nt, tl, t⟩, f1, ⟨n, v1, v2, v3, v4⟩, s1, i1, l1⟩ := h
  have ox : ∀ a, a ≠ 86 → st μ 86 k (μ 86 k + 1) a = μ a := fun a ha => st_other _ _ _ ha
  have om : ∀ a, a ≠ 4 → st ν 4 k (ν 4 k + 1) a = ν a := fun a ha => st_other _ _ _ ha
  refine ⟨⟨hh, nm, ns, nl, nr, nt, tl, t.c (fun a q1 q2 _ => ox a (by omega)) (fun w _ => by rw [om 1 (by decide)])⟩, fun i q1 q2 => ?_, ⟨n, v1, ?_, ?_, fun i hi => ?_⟩, fun s hs => ?_, i1.c (fun a ha => ox a (by omega)) (om 2 (by decide)) (by rw [om 0 (by decide)]) (by rw [om 0 (by decide)]), (om 6 (by decide)).trans l1⟩
  · rw [st_at, st_at]
    by_cases hik : i = k
    · subst hik
      rw [if_pos ⟨rfl, rfl⟩, if_pos ⟨rfl, rfl⟩, f1 i q1 q2]
    · rw [if_neg (by omega), if_neg (by omega)]
      exact f1 i q1 q2
  · rw [ox 83 (by decide)]; exact v2
  · rw [om 0 (by decide)]; exact v3
  · rw [ox 84 (by decide), om 7 (by decide)]; exact v4 i hi
  · rw [ox _ (by omega), ox _ (by omega), om 8 (by decide), om 9 (by decide), om 10 (by decide)]
    exact s1 s hs
/-! limits of numbers -/
def rg (x : Int32) (lo hi : Int) : Int32 := if lo ≤ x.toInt ∧ x.toInt ≤ hi then 1 else 0
theorem rg_cases (x : Int32) (lo hi : Int) : (rg x lo hi = 0 ∧ ¬ (lo ≤ x.toInt ∧ x.toInt ≤ hi)) ∨ (rg x lo hi = 1 ∧ lo ≤ x.toInt ∧ x.toInt ≤ hi) := by
  unfold rg
  by_cases h : lo ≤ x.toInt ∧ x.toInt ≤ hi
  · exact Or.inr ⟨if_pos h, h⟩
  · exact Or.inl ⟨if_neg h, h⟩
theorem to_nat {x : Int32} {hi : Nat} (h : 0 ≤ x.toInt ∧ x.toInt ≤ hi) (hh : hi < 1000000) : ∃ k, k ≤ hi ∧ x = nI k ∧ x.toInt = (k : Int) := ⟨x.toInt.toNat, by omega, i_eq.mpr (by rw [i_n _ (by omega)]; omega), by omega⟩
theorem in_rg (x lo hi : Int32) (m : Mem) : X10_in x lo hi m = some (rg x lo.toInt hi.toInt, m) := by
  unfold X10_in rg
  by_cases h1 : x < lo
  · rw [if_pos h1, if_neg (by rw [i_lt] at h1; omega)]
  · rw [if_neg h1]
    by_cases h2 : hi < x
    · rw [if_pos h2, if_neg (by rw [i_lt] at h2; omega)]
    · rw [if_neg h2, if_pos (by rw [i_lt] at h1 h2; omega)]
theorem two_rg (x lo hi : Int32) {b : Int} (hb : hi.toInt = b + 1) (m : Mem) : (if x < lo then some ((0 : Int32), m) else (if hi ≤ x then some (0, m) else some (1, m))) = some (rg x lo.toInt b, m) := by
  unfold rg
  by_cases h1 : x < lo
  · rw [if_pos h1, if_neg (by rw [i_lt] at h1; omega)]
  · rw [if_neg h1]
    by_cases h2 : hi ≤ x
    · rw [if_pos h2, if_neg (by rw [i_le] at h2; omega)]
    · rw [if_neg h2, if_pos (by rw [i_lt] at h1; rw [i_le] at h2; omega)]
theorem isKind_rg (x : Int32) (m : Mem) : X9_isKind x m = some (rg x 0 5, m) := two_rg x 0 6 (by decide) m
theorem isClock_rg (x : Int32) (m : Mem) : X9_isClock x m = some (rg x 0 23, m) := two_rg x 0 24 (by decide) m
theorem isPence_rg (x : Int32) (m : Mem) : X9_isPence x m = some (rg x 1 9999, m) := in_rg x 1 9999 m
theorem isPart_rg (x : Int32) (m : Mem) : X9_isPart x m = some (rg x 0 200, m) := in_rg x 0 200 m
/-- is there such a meter -/
theorem isM {h nm ns nl nr nt tl : Nat} {μ ν : Mem} (t : TS 1 μ (ν 1) h nm ns nl nr nt tl) (x : Int32) : (∃ i, i < nm ∧ x = nI i ∧ X7_hasMeter x μ = some (1, μ) ∧ X10_isMeter x ν = some (1, ν)) ∨ (X7_hasMeter x μ = some (0, μ) ∧ X10_isMeter x ν = some (0, ν)) := by
  have b := t.1.2.1
  have e1 : μ 1 6 = nI nm := t.2.2.1.1
  have e2 : ν 1 1 = nI nm := t.2.2.1.2
  have e3 : (nI nm - 1).toInt = (nm : Int) - 1 := by
    rw [i_sub (by rw [i_n _ (by omega)]; show _ ≤ (nm : Int) - 1; omega) (by rw [i_n _ (by omega)]; show (nm : Int) - 1 < _; omega), i_n _ (by omega)]
    rfl
  have c1 : X7_hasMeter x μ = some (rg x 0 ((nm : Int) - 1), μ) := by
    unfold X7_hasMeter
    rw [e1]
    exact two_rg x 0 (nI nm) (by rw [i_n _ (by omega)]; omega) μ
  have c2 : X10_isMeter x ν = some (rg x 0 ((nm : Int) - 1), ν) := by
    unfold X10_isMeter
    rw [e2, ob2_of (in_rg _ _ _ _), e3]
    rcases rg_cases x (0 : Int32).toInt ((nm : Int) - 1) with ⟨r, -⟩ | ⟨r, -⟩
    · rw [gd_pos (Or.inl r)]; rfl
    · rw [gd_pos (Or.inr r)]; rfl
  rcases rg_cases x 0 ((nm : Int) - 1) with ⟨r, -⟩ | ⟨r, r1, r2⟩
  · exact Or.inr ⟨by rw [c1, r], by rw [c2, r]⟩
  · exact Or.inl ⟨x.toInt.toNat, by omega, i_eq.mpr (by rw [i_n _ (by omega)]; omega), by rw [c1, r], by rw [c2, r]⟩
/-- one meter of the town, as the hours' rows have it -/
theorem hx_of {h nm ns nl nr nt tl i : Nat} {μ ν : Mem} (t : TS 1 μ (ν 1) h nm ns nl nr nt tl) (hF : ν 6 = letF) (hi : i < nm) : HX (24 + 2 * i) i nl h μ ν ∧ HR (24 + 2 * i) i nl μ ν μ ν := by
  have b := t.1
  refine ⟨⟨t.2.2.2.2.1, hF, by omega, by omega, t.2.1.2, by omega⟩, ?_, EqC.rf _ _, EqD.rf _ _⟩
  have := t.2.2.2.2.2.2.2.2.2.1 i hi
  rw [show 1 + 23 + 2 * i = 24 + 2 * i by omega] at this
  exact this
theorem ts_meter {h nm ns nl nr nt tl i : Nat} {μ ν μ2 ν2 : Mem} (t : TS 1 μ (ν 1) h nm ns nl nr nt tl) (hi : i < nm) (R : HR (24 + 2 * i) i nl μ ν μ2 ν2) : TS 1 μ2 (ν2 1) h nm ns nl nr nt tl := by
  obtain ⟨⟨b1, b2, b3, b4, b5, b6⟩, h1, h2, h3, h4, h5, h6, h7, h8, h9, h10, h11, h12, h13⟩ := t
  have ox : ∀ a, a < 24 → a ≠ 13 → μ2 a = μ a := fun a q1 q2 => R.2.1 a q2 (by omega)
  have od : ∀ w, (w < 16 ∨ 336 ≤ w) → ν2 1 w = ν 1 w := fun w hw => R.2.2.2.2 w (by omega)
  have hl := h4.1
  refine ⟨⟨b1, b2, b3, b4, b5, b6⟩, ?_, ?_, ?_, h4.c (fun a q1 q2 => ox a (by omega) (by omega)) (fun w hw => od w (by omega)), ?_, ?_, ?_, ?_, fun k hk => ?_, fun s hs => ?_, fun r hr => ?_, fun k hk => ?_, fun k hk => ?_⟩
  · rw [ox 1 (by omega) (by omega), od 0 (by omega)]; exact h1
  · rw [ox 1 (by omega) (by omega), od 1 (by omega)]; exact h2
  · rw [ox (1 + 2) (by omega) (by omega), od 2 (by omega)]; exact h3
  · rw [ox (1 + 13) (by omega) (by omega), od 4 (by omega)]; exact h5
  · rw [ox (1 + 18) (by omega) (by omega), od 5 (by omega)]; exact h6
  · rw [ox 1 (by omega) (by omega), od 6 (by omega)]; exact h7
  · rw [ox (1 + 18) (by omega) (by omega), od 7 (by omega), od 8 (by omega)]; exact h8
  · rw [show 1 + 23 + 2 * k = 24 + 2 * k by omega]
    by_cases hki : k = i
    · subst hki
      exact R.1
    · have := h9 k hk
      rw [show 1 + 23 + 2 * k = 24 + 2 * k by omega] at this
      exact this.cong (R.2.1 _ (by omega) (by omega)) (R.2.1 _ (by omega) (by omega)) (fun w hw => R.2.2.2.2 _ (by omega))
  · unfold ShR
    rw [ox (1 + 3) (by omega) (by omega), ox (1 + 4) (by omega) (by omega), ox (1 + 5) (by omega) (by omega), ox (1 + 6) (by omega) (by omega), od _ (by omega), od _ (by omega), od _ (by omega), od _ (by omega)]
    exact h10 s hs
  · unfold RdR
    rw [ox (1 + 14) (by omega) (by omega), ox (1 + 15) (by omega) (by omega), ox (1 + 16) (by omega) (by omega), ox (1 + 17) (by omega) (by omega), od _ (by omega), od _ (by omega), od _ (by omega), od _ (by omega)]
    exact h11 r hr
  · unfold TpR
    rw [ox (1 + 19) (by omega) (by omega), ox (1 + 20) (by omega) (by omega), ox (1 + 21) (by omega) (by omega), od _ (by omega), od _ (by omega), od _ (by omega)]
    exact h12 k hk
  · unfold TaR
    rw [ox (1 + 22) (by omega) (by omega), od _ (by omega)]
    exact h13 k hk
theorem sim_meter {j h nm ns nl nr nt tl i : Nat} {μ ν μ2 ν2 : Mem} (t : TS 1 μ (ν 1) h nm ns nl nr nt tl) (o : OT j μ ν) (hi : i < nm) (R : HR (24 + 2 * i) i nl μ ν μ2 ν2) : Sim (j + 1) μ2 ν2 := by
  have b := t.1
  refine ⟨⟨h, nm, ns, nl, nr, nt, tl, ts_meter t hi R⟩, o.fr (fun a ha => R.2.1 a (by omega) (by omega)) ⟨fun a ha => R.2.2.1 a (by omega) (by omega) (by omega), R.2.2.2.1⟩⟩
