/-! images: the class copies objects, the model a row of numbers -/
theorem keeps_loop {b : Nat} (hb : b ≠ 1) : ∀ (z k f : Nat) (ν : Mem), 1944 - k < z → k ≤ 1944 → z ≤ f → ∃ ν2, X10_keeps_2 f b (nI k) ν = some ν2 ∧ (∀ a, a ≠ b → ν2 a = ν a) ∧ (∀ i, i < k → ν2 b i = ν b i) ∧ ∀ i, k ≤ i → i < 1944 → ν2 b i = ν 1 i := by
  intro z
  induction z with
  | zero => intro k f ν h; omega
  | succ z ih =>
    intro k f ν hz hk hf
    obtain ⟨f, rfl⟩ : ∃ f1, f = f1 + 1 := ⟨f - 1, by omega⟩
    rw [X10_keeps_2.eq_2]
    by_cases hkn : k = 1944
    · subst hkn
      rw [if_pos (show (1944 : Int32) ≤ nI 1944 by decide)]
      exact ⟨ν, rfl, fun _ _ => rfl, fun _ _ => rfl, fun i h1 h2 => by omega⟩
    · have hin : inB (nI k) 1944 := i_in (by omega) (by omega)
      rw [if_neg (show ¬ (1944 : Int32) ≤ nI k from nle (b := 1944) (by omega) (by decide)), gd_pos hin, gd_pos hin, i_tn (by omega), lt_of, nI_1]
      obtain ⟨ν2, c1, c2, c3, c4⟩ := ih (k + 1) f (st ν b k (ν 1 k)) (by omega) (by omega) (by omega)
      refine ⟨ν2, c1, fun a ha => (c2 a ha).trans (st_other _ _ _ ha), fun i hi => ?_, fun i h1 h2 => ?_⟩
      · rw [c3 i (by omega), st_ne (by omega)]
      · by_cases hik : i = k
        · subst hik
          rw [c3 _ (by omega), st_eq]
        · rw [c4 i (by omega) h2, st_other _ _ _ (by omega)]
theorem keeps_ok {b : Nat} (hb : b ≠ 1) (ν : Mem) : ∃ ν2, X10_keeps b ν = some ν2 ∧ (∀ a, a ≠ b → ν2 a = ν a) ∧ ∀ i, i < 1944 → ν2 b i = ν 1 i := by
  have hFU := FU_ge
  obtain ⟨ν2, c1, c2, -, c4⟩ := keeps_loop hb 2000 0 FU ν (by omega) (by omega) (by omega)
  exact ⟨ν2, c1, c2, fun i hi => c4 i (by omega) hi⟩
theorem takes_loop {b : Nat} (hb : b ≠ 1) : ∀ (z k f : Nat) (ν : Mem), 1944 - k < z → k ≤ 1944 → z ≤ f → ∃ ν2, X10_takes_2 f b (nI k) ν = some ν2 ∧ (∀ a, a ≠ 1 → ν2 a = ν a) ∧ (∀ i, i < k → ν2 1 i = ν 1 i) ∧ ∀ i, k ≤ i → i < 1944 → ν2 1 i = ν b i := by
  intro z
  induction z with
  | zero => intro k f ν h; omega
  | succ z ih =>
    intro k f ν hz hk hf
    obtain ⟨f, rfl⟩ : ∃ f1, f = f1 + 1 := ⟨f - 1, by omega⟩
    rw [X10_takes_2.eq_2]
    by_cases hkn : k = 1944
    · subst hkn
      rw [if_pos (show (1944 : Int32) ≤ nI 1944 by decide)]
      exact ⟨ν, rfl, fun _ _ => rfl, fun _ _ => rfl, fun i h1 h2 => by omega⟩
    · have hin : inB (nI k) 1944 := i_in (by omega) (by omega)
      rw [if_neg (show ¬ (1944 : Int32) ≤ nI k from nle (b := 1944) (by omega) (by decide)), gd_pos hin, gd_pos hin, i_tn (by omega), lt_of, nI_1]
      obtain ⟨ν2, c1, c2, c3, c4⟩ := ih (k + 1) f (st ν 1 k (ν b k)) (by omega) (by omega) (by omega)
      refine ⟨ν2, c1, fun a ha => (c2 a ha).trans (st_other _ _ _ ha), fun i hi => ?_, fun i h1 h2 => ?_⟩
      · rw [c3 i (by omega), st_ne (by omega)]
      · by_cases hik : i = k
        · subst hik
          rw [c3 _ (by omega), st_eq]
        · rw [c4 i (by omega) h2, st_other _ _ _ (by omega)]
theorem takes_ok {b : Nat} (hb : b ≠ 1) (ν : Mem) : ∃ ν2, X10_takes b ν = some ν2 ∧ (∀ a, a ≠ 1 → ν2 a = ν a) ∧ ∀ i, i < 1944 → ν2 1 i = ν b i := by
  have hFU := FU_ge
  obtain ⟨ν2, c1, c2, -, c4⟩ := takes_loop hb 2000 0 FU ν (by omega) (by omega) (by omega)
  exact ⟨ν2, c1, c2, fun i hi => c4 i (by omega) hi⟩
theorem cpy0 {f g : Nat → Int32} {n k : Nat} (h : k < n) : va_cpy f g 0 0 n k = f k := by
  unfold va_cpy
  rw [if_pos (by omega)]
  congr 1
  omega
section CP
variable {μ : Mem}
theorem cp5 {a0 a1 : Nat} (h : a0 + 5 ≤ a1 ∨ a1 + 5 ≤ a0) : ∃ μ2, X5_copyFrom a0 a1 μ = some μ2 ∧ (∀ a, (a < a0 ∨ a0 + 5 ≤ a) → μ2 a = μ a) ∧ μ2 a0 4 = μ a1 4 ∧ ∀ k, k < 8 → μ2 (a0 + 1) k = μ (a1 + 1) k ∧ μ2 (a0 + 2) k = μ (a1 + 2) k ∧ μ2 (a0 + 3) k = μ (a1 + 3) k ∧ μ2 (a0 + 4) k = μ (a1 + 4) k := by
  unfold X5_copyFrom
  simp only [lt_of]
  refine ⟨_, rfl, fun a ha => ?_, ?_, fun k hk => ⟨?_, ?_, ?_, ?_⟩⟩
  · simp (disch := omega) only [str_other, st_other]
  · simp (disch := omega) only [str_other, st_other, st_eq]
  · simp (disch := omega) only [str_other, st_other, str_same, cpy0]
  · simp (disch := omega) only [str_other, st_other, str_same, cpy0]
  · simp (disch := omega) only [str_other, st_other, str_same, cpy0]
  · simp (disch := omega) only [str_other, st_other, str_same, cpy0]
theorem cp1 {a0 a1 : Nat} (h : a0 + 5 ≤ a1 ∨ a1 + 5 ≤ a0) : ∃ μ2, X1_copyFrom a0 a1 μ = some μ2 ∧ (∀ a, (a < a0 ∨ a0 + 5 ≤ a) → μ2 a = μ a) ∧ μ2 a0 5 = μ a1 5 ∧ (∀ k, k < 12 → μ2 (a0 + 1) k = μ (a1 + 1) k ∧ μ2 (a0 + 2) k = μ (a1 + 2) k ∧ μ2 (a0 + 3) k = μ (a1 + 3) k) ∧ ∀ k, k < 720 → μ2 (a0 + 4) k = μ (a1 + 4) k := by
  unfold X1_copyFrom
  simp only [lt_of]
  refine ⟨_, rfl, fun a ha => ?_, ?_, fun k hk => ⟨?_, ?_, ?_⟩, fun k hk => ?_⟩
  · simp (disch := omega) only [str_other, st_other]
  · simp (disch := omega) only [str_other, st_other, st_eq]
  · simp (disch := omega) only [str_other, st_other, str_same, cpy0]
  · simp (disch := omega) only [str_other, st_other, str_same, cpy0]
  · simp (disch := omega) only [str_other, st_other, str_same, cpy0]
  · simp (disch := omega) only [str_other, st_other, str_same, cpy0]
theorem cp3 {a0 a1 : Nat} (h : a0 + 5 ≤ a1 ∨ a1 + 5 ≤ a0) : ∃ μ2, X3_copyFrom a0 a1 μ = some μ2 ∧ (∀ a, (a < a0 ∨ a0 + 5 ≤ a) → μ2 a = μ a) ∧ μ2 a0 4 = μ a1 4 ∧ ∀ k, k < 40 → μ2 (a0 + 1) k = μ (a1 + 1) k ∧ μ2 (a0 + 2) k = μ (a1 + 2) k ∧ μ2 (a0 + 3) k = μ (a1 + 3) k ∧ μ2 (a0 + 4) k = μ (a1 + 4) k := by
  unfold X3_copyFrom
  simp only [lt_of]
  refine ⟨_, rfl, fun a ha => ?_, ?_, fun k hk => ⟨?_, ?_, ?_, ?_⟩⟩
  · simp (disch := omega) only [str_other, st_other]
  · simp (disch := omega) only [str_other, st_other, st_eq]
  · simp (disch := omega) only [str_other, st_other, str_same, cpy0]
  · simp (disch := omega) only [str_other, st_other, str_same, cpy0]
  · simp (disch := omega) only [str_other, st_other, str_same, cpy0]
  · simp (disch := omega) only [str_other, st_other, str_same, cpy0]
theorem cp6 {a0 a1 : Nat} (h : a0 + 4 ≤ a1 ∨ a1 + 4 ≤ a0) : ∃ μ2, X6_copyFrom a0 a1 μ = some μ2 ∧ (∀ a, (a < a0 ∨ a0 + 4 ≤ a) → μ2 a = μ a) ∧ (μ2 a0 3 = μ a1 3 ∧ μ2 a0 4 = μ a1 4 ∧ μ2 a0 5 = μ a1 5) ∧ ∀ k, k < 200 → μ2 (a0 + 1) k = μ (a1 + 1) k ∧ μ2 (a0 + 2) k = μ (a1 + 2) k ∧ μ2 (a0 + 3) k = μ (a1 + 3) k := by
  unfold X6_copyFrom
  simp only [lt_of]
  refine ⟨_, rfl, fun a ha => ?_, ⟨?_, ?_, ?_⟩, fun k hk => ⟨?_, ?_, ?_⟩⟩
  · simp (disch := omega) only [str_other, st_other]
  · simp (disch := omega) only [str_other, st_other, st_ne, st_eq]
  · simp (disch := omega) only [str_other, st_other, st_ne, st_eq]
  · simp (disch := omega) only [str_other, st_other, st_ne, st_eq]
  · simp (disch := omega) only [str_other, st_other, str_same, cpy0]
  · simp (disch := omega) only [str_other, st_other, str_same, cpy0]
  · simp (disch := omega) only [str_other, st_other, str_same, cpy0]
theorem cp2 {a0 a1 : Nat} (h : a0 + 2 ≤ a1 ∨ a1 + 2 ≤ a0) (h8 : μ a1 8 = 0 ∨ μ a1 8 = 1) (h9 : μ a1 9 = 0 ∨ μ a1 9 = 1) : ∃ μ2, X2_copyFrom a0 a1 μ = some μ2 ∧ (∀ a, (a < a0 ∨ a0 + 2 ≤ a) → μ2 a = μ a) ∧ (∀ k, 1 ≤ k → k < 15 → μ2 a0 k = μ a1 k) ∧ ∀ k, k < 24 → μ2 (a0 + 1) k = μ (a1 + 1) k := by
  unfold X2_copyFrom
  have hne : a1 ≠ a0 := by omega
  simp only [lt_of, st_other _ _ _ hne, gd_pos h8, gd_pos h9]
  refine ⟨_, rfl, fun a ha => ?_, fun k k1 k2 => ?_, fun k hk => ?_⟩
  · simp (disch := omega) only [str_other, st_other]
  · rw [str_other _ _ (by omega)]
    rcases (show k = 1 ∨ k = 2 ∨ k = 3 ∨ k = 4 ∨ k = 5 ∨ k = 6 ∨ k = 7 ∨ k = 8 ∨ k = 9 ∨ k = 10 ∨ k = 11 ∨ k = 12 ∨ k = 13 ∨ k = 14 by omega) with rfl | rfl | rfl | rfl | rfl | rfl | rfl | rfl | rfl | rfl | rfl | rfl | rfl | rfl <;> simp [st_at]
  · rw [str_same, cpy0 hk]
    simp (disch := omega) only [st_other]
theorem MR.pw {i nl : Nat} {f lo f2 lo2 q q2 : Nat → Int32} (h : MR i nl f lo q) (h1 : ∀ k, 1 ≤ k → k < 15 → f2 k = f k) (h2 : ∀ k, k < 24 → lo2 k = lo k) (h3 : ∀ w, w < 40 → q2 w = q w) : MR i nl f2 lo2 q2 := by
  obtain ⟨r1, r2, r3, r4, r5⟩ := h
  refine ⟨(h1 1 (by omega) (by omega)).trans r1, fun w hw => by rw [h1 _ (by omega) (by omega), h3 _ (by omega)]; exact r2 w hw, ?_, fun w hw => by rw [h2 w hw, h3 _ (by omega)]; exact r4 w hw, ?_⟩
  · unfold smart
    rw [h1 2 (by omega) (by omega), h1 14 (by omega) (by omega), h3 12 (by omega)]
    exact r3
  · unfold MB
    rw [h1 2 (by omega) (by omega), h1 3 (by omega) (by omega), h1 4 (by omega) (by omega), h1 6 (by omega) (by omega), h1 7 (by omega) (by omega), h1 8 (by omega) (by omega), h1 9 (by omega) (by omega), h1 14 (by omega) (by omega)]
    exact r5
/-- the meters' copying; then the rest -/
def CT (a0 a1 : Nat) (μ : Mem) : Option Mem := ob (X5_copyFrom (a0 + 2) (a1 + 2) μ) fun μ2 => ob (X1_copyFrom (a0 + 7) (a1 + 7) μ2) fun μ3 => ob (X3_copyFrom (a0 + 13) (a1 + 13) μ3) fun μ4 => ob (X6_copyFrom (a0 + 18) (a1 + 18) μ4) fun μ5 => lt (str μ5 (a0 + 22) (va_cpy (μ5 (a1 + 22)) (μ5 (a0 + 22)) 0 0 60)) fun μ6 => lt (st μ6 a0 6 (μ6 a1 6)) fun μ7 => lt (st μ7 a0 7 (μ7 a1 7)) fun μ8 => lt (st μ8 a0 8 (μ8 a1 8)) fun μ9 => some μ9
theorem cpm_loop {a0 a1 nm : Nat} (h : a0 + 39 ≤ a1 ∨ a1 + 39 ≤ a0) (hn : nm ≤ 8) : ∀ (z k f : Nat) (μ : Mem), nm - k < z → k ≤ nm → z ≤ f → μ a1 6 = nI nm → (∀ i, i < nm → (μ (a1 + 23 + 2 * i) 8 = 0 ∨ μ (a1 + 23 + 2 * i) 8 = 1) ∧ (μ (a1 + 23 + 2 * i) 9 = 0 ∨ μ (a1 + 23 + 2 * i) 9 = 1)) → ∃ μ2, X7_copyFrom_2 f a0 a1 (nI k) μ = CT a0 a1 μ2 ∧ (∀ a, (a < a0 + 23 + 2 * k ∨ a0 + 39 ≤ a) → μ2 a = μ a) ∧ ∀ i, k ≤ i → i < nm → (∀ w, 1 ≤ w → w < 15 → μ2 (a0 + 23 + 2 * i) w = μ (a1 + 23 + 2 * i) w) ∧ ∀ w, w < 24 → μ2 (a0 + 23 + 2 * i + 1) w = μ (a1 + 23 + 2 * i + 1) w := by
  intro z
  induction z with
  | zero => intro k f μ h; omega
  | succ z ih =>
    intro k f μ hz hk hf h6 h89
    obtain ⟨f, rfl⟩ : ∃ f1, f = f1 + 1 := ⟨f - 1, by omega⟩
    rw [X7_copyFrom_2.eq_2, h6]
    by_cases hkn : k = nm
    · subst hkn
      rw [if_pos (by rw [i_le]; omega)]
      refine ⟨μ, ?_, fun _ _ => rfl, fun i h1 h2 => by omega⟩
      rfl
    · have hkm : k < nm := by omega
      rw [if_neg (nle hkm (by omega)), gd_pos (m8 hkm hn).1, gd_pos (m8 hkm hn).1, (m8 hkm hn).2, nI_1]
      have g0 : a0 + 1 + 22 + 2 * k = a0 + 23 + 2 * k := by omega
      have g1 : a1 + 1 + 22 + 2 * k = a1 + 23 + 2 * k := by omega
      rw [g0, g1]
      obtain ⟨μ1, d1, d2, d3, d4⟩ := cp2 (μ := μ) (a0 := a0 + 23 + 2 * k) (a1 := a1 + 23 + 2 * k) (by omega) (h89 k hkm).1 (h89 k hkm).2
      rw [ob_of d1]
      obtain ⟨μ2, c1, c2, c3⟩ := ih (k + 1) f μ1 (by omega) (by omega) (by omega) (by rw [d2 a1 (by omega)]; exact h6) (fun i hi => by rw [d2 _ (by omega)]; exact h89 i hi)
      refine ⟨μ2, c1, fun a ha => by rw [c2 a (by omega), d2 a (by omega)], fun i h1 h2 => ?_⟩
      by_cases hik : i = k
      · subst hik
        refine ⟨fun w w1 w2 => ?_, fun w hw => ?_⟩
        · rw [c2 _ (by omega)]; exact d3 w w1 w2
        · rw [c2 _ (by omega)]; exact d4 w hw
      · obtain ⟨e1, e2⟩ := c3 i (by omega) h2
        refine ⟨fun w w1 w2 => ?_, fun w hw => ?_⟩
        · rw [e1 w w1 w2, d2 _ (by omega)]
        · rw [e2 w hw, d2 _ (by omega)]
theorem copy_ok {a0 a1 h nm ns nl nr nt tl : Nat} {d : Nat → Int32} (hd : a0 + 39 ≤ a1 ∨ a1 + 39 ≤ a0) (t : TS a1 μ d h nm ns nl nr nt tl) : ∃ μ2, X7_copyFrom a0 a1 μ = some μ2 ∧ TS a0 μ2 d h nm ns nl nr nt tl ∧ ∀ a, (a < a0 ∨ a0 + 39 ≤ a) → μ2 a = μ a := by
  have hFU := FU_ge
  obtain ⟨⟨b1, b2, b3, b4, b5, b6⟩, h1, h2, h3, h4, h5, h6, h7, h8, h9, h10, h11, h12, h13⟩ := t
  obtain ⟨m1, c1, c2, c3⟩ := cpm_loop hd b2 100 0 FU μ (by omega) (by omega) (by omega) h2.1 (fun i hi => ⟨(h9 i hi).2.2.2.2.2.2.2.2.2.1, (h9 i hi).2.2.2.2.2.2.2.2.2.2.1⟩)
  have c1' : X7_copyFrom a0 a1 μ = CT a0 a1 m1 := c1
  rw [c1']
  unfold CT
  have o1 : ∀ a, (a < a0 + 23 ∨ a0 + 39 ≤ a) → m1 a = μ a := fun a ha => c2 a (by omega)
  obtain ⟨m2, p1, p2, p3, p4⟩ := cp5 (μ := m1) (a0 := a0 + 2) (a1 := a1 + 2) (by omega)
  obtain ⟨m3, q1, q2, q3, q4, q5⟩ := cp1 (μ := m2) (a0 := a0 + 7) (a1 := a1 + 7) (by omega)
  obtain ⟨m4, r1, r2, r3, r4⟩ := cp3 (μ := m3) (a0 := a0 + 13) (a1 := a1 + 13) (by omega)
  obtain ⟨m5, s1, s2, s3, s4⟩ := cp6 (μ := m4) (a0 := a0 + 18) (a1 := a1 + 18) (by omega)
  rw [ob_of p1, ob_of q1, ob_of r1, ob_of s1, lt_of, lt_of, lt_of, lt_of]
  refine ⟨_, rfl, ?_⟩
  have ha : a1 ≠ a0 := by omega
  have o5 : ∀ a, (a < a0 + 2 ∨ a0 + 22 ≤ a) → m5 a = m1 a := fun a ha => by rw [s2 a (by omega), r2 a (by omega), q2 a (by omega), p2 a (by omega)]
  have oS : ∀ a, (a < a0 ∨ a0 + 39 ≤ a) → m5 a = μ a := fun a ha => (o5 a (by omega)).trans (o1 a (by omega))
  have e6 : str m5 (a0 + 22) (va_cpy (m5 (a1 + 22)) (m5 (a0 + 22)) 0 0 60) a1 = μ a1 := by
    rw [str_other _ _ (by omega)]
    exact oS a1 (by omega)
  simp only [st_other _ _ _ ha, e6]
  generalize hM : st (st (st (str m5 (a0 + 22) (va_cpy (m5 (a1 + 22)) (m5 (a0 + 22)) 0 0 60)) a0 6 (μ a1 6)) a0 7 (μ a1 7)) a0 8 (μ a1 8) = M
  have M0 : ∀ a, a ≠ a0 → a ≠ a0 + 22 → M a = m5 a := fun a q1 q2 => by
    rw [← hM, st_other _ _ _ q1, st_other _ _ _ q1, st_other _ _ _ q1, str_other _ _ q2]
  have Ms : ∀ a, (a < a0 ∨ a0 + 39 ≤ a) → M a = μ a := fun a q => (M0 a (by omega) (by omega)).trans (oS a q)
  have M6 : M a0 6 = μ a1 6 := by rw [← hM, st_ne (by omega), st_ne (by omega), st_eq]
  have M7 : M a0 7 = μ a1 7 := by rw [← hM, st_ne (by omega), st_eq]
  have M8 : M a0 8 = μ a1 8 := by rw [← hM, st_eq]
  have M22 : ∀ k, k < 60 → M (a0 + 22) k = μ (a1 + 22) k := fun k hk => by
    rw [← hM, st_other _ _ _ (by omega), st_other _ _ _ (by omega), st_other _ _ _ (by omega), str_same, cpy0 hk, oS _ (by omega)]
  have w1 : ∀ a, a1 ≤ a → a < a1 + 39 → m1 a = μ a := fun a x1 x2 => o1 a (by omega)
  have w2 : ∀ a, a1 ≤ a → a < a1 + 39 → m2 a = μ a := fun a x1 x2 => by rw [p2 a (by omega)]; exact w1 a x1 x2
  have w3 : ∀ a, a1 ≤ a → a < a1 + 39 → m3 a = μ a := fun a x1 x2 => by rw [q2 a (by omega)]; exact w2 a x1 x2
  have w4 : ∀ a, a1 ≤ a → a < a1 + 39 → m4 a = μ a := fun a x1 x2 => by rw [r2 a (by omega)]; exact w3 a x1 x2
  have f5 : ∀ a, a0 + 2 ≤ a → a < a0 + 7 → M a = m2 a := fun a x1 x2 => by rw [M0 a (by omega) (by omega), s2 a (by omega), r2 a (by omega), q2 a (by omega)]
  have f1 : ∀ a, a0 + 7 ≤ a → a < a0 + 12 → M a = m3 a := fun a x1 x2 => by rw [M0 a (by omega) (by omega), s2 a (by omega), r2 a (by omega)]
  have f3 : ∀ a, a0 + 13 ≤ a → a < a0 + 18 → M a = m4 a := fun a x1 x2 => by rw [M0 a (by omega) (by omega), s2 a (by omega)]
  have f6 : ∀ a, a0 + 18 ≤ a → a < a0 + 22 → M a = m5 a := fun a x1 x2 => by rw [M0 a (by omega) (by omega)]
  have f2 : ∀ a, a0 + 23 ≤ a → M a = m1 a := fun a x1 => by rw [M0 a (by omega) (by omega), o5 a (by omega)]
  refine ⟨⟨⟨b1, b2, b3, b4, b5, b6⟩, ?_, ?_, ?_, ⟨h4.1, ?_, h4.2.2.1, fun l hl => ?_⟩, ?_, ?_, ?_, ?_, fun i hi => ?_, fun s hs => ?_, fun r hr => ?_, fun k hk => ?_, fun k hk => ?_⟩, Ms⟩
  · rw [M8]; exact h1
  · rw [M6]; exact h2
  · rw [f5 _ (by omega) (by omega), p3, w1 _ (by omega) (by omega)]; exact h3
  · rw [f1 _ (by omega) (by omega), q3, w2 _ (by omega) (by omega)]; exact h4.2.1
  · have hl12 := h4.1
    obtain ⟨e1, e2, B, n, cs, v, e3, e4, e5, e6', e7⟩ := h4.2.2.2 l hl
    have g1 := e3.1
    have g2 := e3.2.1
    obtain ⟨x1, x2, x3⟩ := q4 l (by omega)
    refine ⟨?_, ?_, B, n, cs, v, e3, e4, e5, ?_, fun k hk => ?_⟩
    · rw [f1 (a0 + 8) (by omega) (by omega)]
      exact x1.trans ((congrFun (w2 (a1 + 8) (by omega) (by omega)) l).trans e1)
    · rw [f1 (a0 + 9) (by omega) (by omega)]
      exact x2.trans ((congrFun (w2 (a1 + 9) (by omega) (by omega)) l).trans e2)
    · rw [f1 (a0 + 10) (by omega) (by omega)]
      exact x3.trans ((congrFun (w2 (a1 + 10) (by omega) (by omega)) l).trans e6')
    · rw [f1 (a0 + 11) (by omega) (by omega)]
      exact (q5 (60 * l + k) (by omega)).trans ((congrFun (w2 (a1 + 11) (by omega) (by omega)) _).trans (e7 k hk))
  · rw [f3 _ (by omega) (by omega), r3, w3 _ (by omega) (by omega)]; exact h5
  · rw [f6 _ (by omega) (by omega), s3.1, w4 _ (by omega) (by omega)]; exact h6
  · rw [M7]; exact h7
  · rw [f6 _ (by omega) (by omega), s3.2.1, s3.2.2, w4 _ (by omega) (by omega)]; exact h8
  · rw [f2 _ (by omega), f2 _ (by omega)]
    obtain ⟨e1, e2⟩ := c3 i (by omega) hi
    exact (h9 i hi).pw e1 e2 (fun _ _ => rfl)
  · obtain ⟨x1, x2, x3, x4⟩ := p4 s (by omega)
    refine (?_ : ShR M a0 d s)
    have y1 : M (a0 + 3) s = μ (a1 + 3) s := by rw [f5 (a0 + 3) (by omega) (by omega)]; exact x1.trans (congrFun (w1 (a1 + 3) (by omega) (by omega)) s)
    have y2 : M (a0 + 4) s = μ (a1 + 4) s := by rw [f5 (a0 + 4) (by omega) (by omega)]; exact x2.trans (congrFun (w1 (a1 + 4) (by omega) (by omega)) s)
    have y3 : M (a0 + 5) s = μ (a1 + 5) s := by rw [f5 (a0 + 5) (by omega) (by omega)]; exact x3.trans (congrFun (w1 (a1 + 5) (by omega) (by omega)) s)
    have y4 : M (a0 + 6) s = μ (a1 + 6) s := by rw [f5 (a0 + 6) (by omega) (by omega)]; exact x4.trans (congrFun (w1 (a1 + 6) (by omega) (by omega)) s)
    unfold ShR
    rw [y1, y2, y3, y4]
    exact h10 s hs
  · obtain ⟨x1, x2, x3, x4⟩ := r4 r (by omega)
    have y1 : M (a0 + 14) r = μ (a1 + 14) r := by rw [f3 (a0 + 14) (by omega) (by omega)]; exact x1.trans (congrFun (w3 (a1 + 14) (by omega) (by omega)) r)
    have y2 : M (a0 + 15) r = μ (a1 + 15) r := by rw [f3 (a0 + 15) (by omega) (by omega)]; exact x2.trans (congrFun (w3 (a1 + 15) (by omega) (by omega)) r)
    have y3 : M (a0 + 16) r = μ (a1 + 16) r := by rw [f3 (a0 + 16) (by omega) (by omega)]; exact x3.trans (congrFun (w3 (a1 + 16) (by omega) (by omega)) r)
    have y4 : M (a0 + 17) r = μ (a1 + 17) r := by rw [f3 (a0 + 17) (by omega) (by omega)]; exact x4.trans (congrFun (w3 (a1 + 17) (by omega) (by omega)) r)
    unfold RdR
    rw [y1, y2, y3, y4]
    exact h11 r hr
  · obtain ⟨x1, x2, x3⟩ := s4 k (by omega)
    have y1 : M (a0 + 19) k = μ (a1 + 19) k := by rw [f6 (a0 + 19) (by omega) (by omega)]; exact x1.trans (congrFun (w4 (a1 + 19) (by omega) (by omega)) k)
    have y2 : M (a0 + 20) k = μ (a1 + 20) k := by rw [f6 (a0 + 20) (by omega) (by omega)]; exact x2.trans (congrFun (w4 (a1 + 20) (by omega) (by omega)) k)
    have y3 : M (a0 + 21) k = μ (a1 + 21) k := by rw [f6 (a0 + 21) (by omega) (by omega)]; exact x3.trans (congrFun (w4 (a1 + 21) (by omega) (by omega)) k)
    unfold TpR
    rw [y1, y2, y3]
    exact h12 k hk
  · unfold TaR
    rw [M22 k (by omega)]
    exact h13 k hk
end CP
section O9
variable {j : Nat} {μ ν : Mem}
theorem op_image (hj : j < 512) (hS : Sim j μ ν) : ∃ r μ2 ν2, X9_image μ = some (r, μ2) ∧ X10_image ν = some (r, ν2) ∧ Sim (j + 1) μ2 ν2 := by
  obtain ⟨⟨h, nm, ns, nl, nr, nt, tl, t⟩, f1, ⟨n, v1, v2, v3, v4⟩, s1, ⟨n2, i1, i2, i3, i4, i5, i6⟩, l1⟩ := id hS
  obtain ⟨μ2, c1, c2, c3⟩ := copy_ok (a0 := 40) (a1 := 1) (by omega) t
  obtain ⟨ν2, d1, d2, d3⟩ := keeps_ok (b := 2) (by decide) ν
  unfold X9_image X10_image
  rw [ob_of c1, ob_of d1, lt_of, lt_of, lt_of]
  have e1 : μ2 0 8 = nI n2 := by rw [c3 0 (by omega)]; exact i3
  have e2 : st ν2 0 2 1 0 3 = nI n2 := by rw [st_ne (by omega), d2 0 (by decide)]; exact i4
  rw [e1, e2, st_eq, st_eq]
  refine ⟨_, _, _, rfl, rfl, ⟨h, nm, ns, nl, nr, nt, tl, t.c (fun a q1 q2 q3 => ?_) (fun w hw => ?_)⟩, fun k q1 q2 => ?_, ⟨n, v1, ?_, ?_, fun k hk => ?_⟩, fun s hs => ?_, ⟨n2 + 1, by omega, by omega, by rw [st_eq, nI_1], by rw [st_eq, nI_1], ?_, fun _ => ⟨h, nm, ns, nl, nr, nt, tl, c2.c (fun a q1 q2 q3 => ?_) (fun w hw => ?_)⟩⟩, ?_⟩
  · rw [st_other _ _ _ (by omega), c3 a (by omega)]
  · rw [st_other _ _ _ (by decide), st_other _ _ _ (by decide), d2 1 (by decide)]
  · rw [st_other _ _ _ (by decide), c3 86 (by omega), st_other _ _ _ (by decide), st_other _ _ _ (by decide), d2 4 (by decide)]; exact f1 k q1 q2
  · rw [st_other _ _ _ (by decide), c3 83 (by omega)]; exact v2
  · rw [st_ne (by omega), st_ne (by omega), d2 0 (by decide)]; exact v3
  · rw [st_other _ _ _ (by decide), c3 84 (by omega), st_other _ _ _ (by decide), st_other _ _ _ (by decide), d2 7 (by decide)]; exact v4 k hk
  · rw [st_other _ _ _ (by omega), c3 _ (by omega), st_other _ _ _ (by omega), c3 _ (by omega)]
    simp only [st_other _ _ _ (show 8 ≠ 0 by decide), st_other _ _ _ (show 9 ≠ 0 by decide), st_other _ _ _ (show 10 ≠ 0 by decide), d2 8 (by decide), d2 9 (by decide), d2 10 (by decide)]
    exact s1 s hs
  · rw [st_ne (by omega), st_eq, if_neg (by omega)]
  · rw [st_other _ _ _ (by omega)]
  · rw [st_other _ _ _ (by decide), st_other _ _ _ (by decide)]
    exact d3 w hw
  · rw [st_other _ _ _ (by decide), st_other _ _ _ (by decide), d2 6 (by decide)]; exact l1
theorem op_restore (hS : Sim j μ ν) : ∃ r μ2 ν2, X9_restore μ = some (r, μ2) ∧ X10_restore ν = some (r, ν2) ∧ Sim (j + 1) μ2 ν2 := by
  obtain ⟨-, f1, ⟨n, v1, v2, v3, v4⟩, s1, ⟨n2, i1, i2, i3, i4, i5, i6⟩, l1⟩ := id hS
  unfold X9_restore X10_restore
  rw [i3, i5]
  by_cases hn : n2 = 0
  · rw [if_pos hn, if_pos (show nI n2 = 0 by rw [hn]; rfl), if_pos (show (0 : Int32) = 0 from rfl)]
    exact find_ok hS 2 (by decide)
  · obtain ⟨h, nm, ns, nl, nr, nt, tl, t⟩ := i6 hn
    rw [if_neg hn, if_neg (show ¬ nI n2 = 0 from fun q => hn ((nI_z i2).mp q)), if_neg (show ¬ (1 : Int32) = 0 by decide)]
    obtain ⟨μ2, c1, c2, c3⟩ := copy_ok (a0 := 1) (a1 := 40) (by omega) t
    obtain ⟨ν2, d1, d2, d3⟩ := takes_ok (b := 2) (by decide) ν
    have t2 : TS 1 μ2 (ν2 1) h nm ns nl nr nt tl := c2.c (fun _ _ _ _ => rfl) d3
    have e1 : μ2 1 8 = nI h := t2.2.1.1
    have e2 : ν2 1 0 = nI h := t2.2.1.2
    rw [ob_of c1, ob_of d1, e1, e2]
    refine ⟨_, _, _, rfl, rfl, ⟨h, nm, ns, nl, nr, nt, tl, t2⟩, hS.2.fr (fun a ha => c3 a (by omega)) ⟨fun a ha => d2 a (by omega), fun k hk => by rw [d2 0 (by decide)]⟩⟩
end O9
