/-! a law's text: read by the class once, by the model each time -/
/-- nothing but the model's reader's own fields has changed -/
def EqR (ν ν2 : Mem) : Prop := (∀ a, a ≠ 0 → ν2 a = ν a) ∧ ∀ j, (j < 6 ∨ 10 < j) → ν2 0 j = ν 0 j
theorem EqR.rf (ν : Mem) : EqR ν ν := ⟨fun _ _ => rfl, fun _ _ => rfl⟩
theorem MM_eqr (ν : Mem) (fr n : Int32) (i op : Nat) (b : Bool) : EqR ν (MM (st (st ν 0 6 fr) 0 7 n) i op b) := by
  refine ⟨fun a ha => ?_, fun j hj => ?_⟩
  · rw [MM_o _ _ _ _ ha, st_other _ _ _ ha, st_other _ _ _ ha]
  · unfold MM
    rw [if_pos rfl, if_neg (by omega), if_neg (by omega), if_neg (by omega), st_at, if_neg (by omega), st_at, if_neg (by omega)]
theorem reads_start (ν : Mem) (x1 x2 : Int32) : st (st (st (st (st ν 0 6 x1) 0 7 x2) 0 8 0) 0 9 0) 0 10 0 = MM (st (st ν 0 6 x1) 0 7 x2) 0 0 false := by
  funext a k
  rw [st_at, st_at, st_at]
  unfold MM
  by_cases ha : a = 0
  · subst ha
    by_cases h8 : k = 8
    · simp [h8]; rfl
    · by_cases h9 : k = 9
      · simp [h9]; rfl
      · by_cases h10 : k = 10
        · simp [h10]
        · simp [h8, h9, h10]
  · simp [ha]
theorem fault_start (μ : Mem) (x2 : Int32) : st (st (st (st (st μ 81 2 1) 81 3 x2) 81 4 0) 81 1 0) 81 5 (-1) = CM (st (st μ 81 2 1) 81 3 x2) 0 (-1) 0 (μ 82) := by
  funext a k
  rw [st_at, st_at, st_at]
  unfold CM
  by_cases ha : a = 81
  · subst ha
    by_cases h4 : k = 4
    · simp [h4]; rfl
    · by_cases h5 : k = 5
      · simp [h5]
      · by_cases h1 : k = 1
        · simp [h1]; rfl
        · simp [h4, h5, h1]
  · by_cases ha2 : a = 82
    · subst ha2
      simp
      rw [st_other _ _ _ (by decide), st_other _ _ _ (by decide)]
    · simp [ha, ha2]
/-- a text B of n bytes is a law with the codes cs; the model reads it to v of its names -/
def LawOK (B : Nat → Nat) (n : Nat) (cs : List Int32) (v : (Nat → Int32) → Int32) : Prop :=
  n ≤ 60 ∧ cs.length ≤ n ∧ Rp cs v ∧ ∀ ν fr, fr + n ≤ 1944 → (∀ j, j < n → ν 1 (fr + j) = nI (B j)) → ν 6 = letF → ∃ ν2, X10_reads (nI fr) (nI n) ν = some (v (ν 5), ν2) ∧ ν2 0 10 = 0 ∧ EqR ν ν2
/-- the class's tape and the model's, read for a new law: both find the same -/
theorem law_read (μ : Mem) (B : Nat → Nat) (n : Nat) (hn : n ≤ 60) (hB : ∀ j, B j < 256) (hT : ∀ j, j < n → (μ 23 j).toInt8.toInt32 &&& 255 = nI (B j)) :
    (∃ cs v ft, LawOK B n cs v ∧ X0_faultOf (nI n) μ = some (-1, CM (st (st μ 81 2 1) 81 3 (nI n)) n ft cs.length (app (μ 82) 0 cs))) ∨
    (∃ j cnt cd, j ≤ n ∧ X0_faultOf (nI n) μ = some (nI j, CM (st (st μ 81 2 1) 81 3 (nI n)) j (nI j) cnt cd) ∧ ∀ ν fr, fr + n ≤ 1944 → (∀ i, i < n → ν 1 (fr + i) = nI (B i)) → ν 6 = letF → ∃ w ν2, X10_reads (nI fr) (nI n) ν = some (w, ν2) ∧ ν2 0 10 = 1 ∧ ν2 0 8 = nI j ∧ EqR ν ν2) := by
  generalize hμ : st (st μ 81 2 1) 81 3 (nI n) = μ2
  have hC : COK μ2 B n := by
    subst hμ
    refine ⟨?_, ?_, hn, fun j hj => ?_, hB⟩
    · rw [st_at, if_neg (by decide), st_at, if_pos (by decide)]; decide
    · rw [st_at, if_pos (by decide)]
    · rw [st_other _ _ _ (by decide), st_other _ _ _ (by decide)]
      exact hT j hj
  have hMOK : ∀ ν fr, fr + n ≤ 1944 → (∀ j, j < n → ν 1 (fr + j) = nI (B j)) → ν 6 = letF → MOK (st (st ν 0 6 (nI fr)) 0 7 (nI n)) B n fr := by
    intro ν fr h1 h2 h3
    refine ⟨?_, ?_, h1, hn, fun j hj => ?_, hB, ?_⟩
    · rw [st_at, if_neg (by decide), st_at, if_pos (by decide)]
    · rw [st_at, if_pos (by decide)]
    · rw [st_other _ _ _ (by decide), st_other _ _ _ (by decide)]
      exact h2 j hj
    · rw [st_other _ _ _ (by decide), st_other _ _ _ (by decide)]
      exact h3
  obtain ⟨j, bad, cs, v, -, h2, h3, h4, h5⟩ := nt_top hC
  obtain ⟨ft, cnt, cd, e1, e2, e3, e4⟩ := h4 0 (μ 82) (Nat.le_refl 0)
  have hf : X0_faultOf (nI n) μ = (if nI n ≤ nI j then some (ft, CM μ2 j ft cnt cd) else ob (X0_fail (CM μ2 j ft cnt cd)) fun μ8 => X0_faultOf_45 μ8) := by
    unfold X0_faultOf
    rw [lt_of, lt_of, lt_of, lt_of, lt_of, fault_start, hμ]
    have e1' : X0_readEither (X0_readSingle 10) 0 (CM μ2 0 (-1) 0 (μ 82)) = some (CM μ2 j ft cnt cd) := e1
    rw [ob_of e1', CM_3, CM_4, hC.2.1]
    rfl
  have hle : nI n ≤ nI j ↔ n ≤ j := by rw [i_le, i_n n (by omega), i_n j (by omega)]; omega
  have hr : ∀ ν fr, fr + n ≤ 1944 → (∀ j, j < n → ν 1 (fr + j) = nI (B j)) → ν 6 = letF → ∃ w, (bad = false → w = v (ν 5)) ∧ X10_reads (nI fr) (nI n) ν = some (w, MM (st (st ν 0 6 (nI fr)) 0 7 (nI n)) j 0 (bad || decide (j < n))) := by
    intro ν fr q1 q2 q3
    obtain ⟨w, a1, a2⟩ := h5 _ fr (hMOK ν fr q1 q2 q3)
    refine ⟨w, fun h => ?_, ?_⟩
    · rw [a2 h, st_other _ _ _ (by decide), st_other _ _ _ (by decide)]
    unfold X10_reads
    rw [lt_of, lt_of, lt_of, lt_of, lt_of, reads_start, ob2_of a1, MM_10, MM_7, MM_8, (hMOK ν fr q1 q2 q3).2.1]
    cases bad with
    | true =>
      rw [if_neg (by decide)]
      unfold X10_reads_49 X10_reads_54
      rw [gd_pos (by decide), lt_of, MM_bad2]
      rfl
    | false =>
      rw [if_pos (by decide)]
      by_cases hjn : n ≤ j
      · rw [if_pos (hle.mpr hjn), decide_eq_false (show ¬ j < n by omega)]
        unfold X10_reads_54
        have e := MM_st10 (st (st ν 0 6 (nI fr)) 0 7 (nI n)) j 0 false false
        rw [if_neg (by decide)] at e
        rw [gd_pos (by decide), lt_of, e]
        rfl
      · rw [if_neg (fun q => hjn (hle.mp q)), decide_eq_true (show j < n by omega)]
        unfold X10_reads_49 X10_reads_54
        rw [gd_pos (by decide), lt_of, MM_bad2]
        rfl
  by_cases hgood : bad = false ∧ n ≤ j
  · obtain ⟨rfl, hjn⟩ := hgood
    obtain rfl : j = n := by omega
    obtain ⟨g1, g2, g3⟩ := h3 rfl
    obtain ⟨rfl, rfl, rfl⟩ := e4 rfl
    refine Or.inl ⟨cs, v, -1, ⟨hn, by omega, g3, fun ν fr q1 q2 q3 => ?_⟩, ?_⟩
    · obtain ⟨w, w1, w2⟩ := hr ν fr q1 q2 q3
      refine ⟨_, by rw [w2, w1 rfl], ?_, MM_eqr ν _ _ _ _ _⟩
      rw [MM_10, decide_eq_false (Nat.lt_irrefl j)]
      rfl
    · rw [hf, if_pos (hle.mpr hjn), Nat.zero_add]
  · refine Or.inr ⟨j, cnt, cd, h2, ?_, fun ν fr q1 q2 q3 => ?_⟩
    · have hst : stk B n j ft ∨ ft = -1 := by
        cases bad with
        | true => exact Or.inl (e3 rfl)
        | false => exact Or.inr (e4 rfl).1
      rw [hf]
      by_cases hjn : n ≤ j
      · rw [if_pos (hle.mpr hjn)]
        cases bad with
        | true =>
          rcases e3 rfl with h | h
          · rw [h]
          · omega
        | false => exact absurd ⟨rfl, hjn⟩ hgood
      · rw [if_neg (fun q => hjn (hle.mp q)), ob_of (fail_ok (by omega) hst)]
        rfl
    · obtain ⟨w, -, w2⟩ := hr ν fr q1 q2 q3
      refine ⟨w, _, w2, ?_, MM_8 _ _ _ _, MM_eqr ν _ _ _ _ _⟩
      rw [MM_10]
      have hb : (bad || decide (j < n)) = true := by
        cases bad with
        | true => rfl
        | false =>
          have : ¬ n ≤ j := fun q => hgood ⟨rfl, q⟩
          rw [decide_eq_true (show j < n by omega)]
          rfl
      rw [hb]
      rfl
/-- names beyond the seven don't matter -/
theorem rst_cong {e1 e2 : Nat → Int32} (h : ∀ k, k < 7 → e1 k = e2 k) (s : List Int32) (c : Int32) : rst e1 s c = rst e2 s c := by
  have hn : ∀ o, nmv e1 o = nmv e2 o := fun o => by
    unfold nmv
    rw [h 5 (by decide), h 1 (by decide), h 0 (by decide), h 3 (by decide), h 4 (by decide), h 2 (by decide), h 6 (by decide)]
  unfold rst
  rw [hn]
theorem rp_cong {e1 e2 : Nat → Int32} (h : ∀ k, k < 7 → e1 k = e2 k) (cs : List Int32) : ∀ s, rp e1 cs s = rp e2 cs s := by
  induction cs with
  | nil => intro s; rfl
  | cons c cs ih =>
    intro s
    show rp e1 cs (rst e1 s c) = rp e2 cs (rst e2 s c)
    rw [rst_cong h, ih]
theorem v_cong {cs : List Int32} {v : (Nat → Int32) → Int32} (h : Rp cs v) (hl : cs.length ≤ 60) {e1 e2 : Nat → Int32} (he : ∀ k, k < 7 → e1 k = e2 k) : v e1 = v e2 := by
  have a := h.2 e1 [] (by simp; omega)
  have b := h.2 e2 [] (by simp; omega)
  rw [rp_cong he, b] at a
  exact (List.cons.inj a).1.symm
