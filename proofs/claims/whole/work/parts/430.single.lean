/-! numbers, names, signs in front, brackets -/
abbrev dig (k : Nat) : Prop := 48 ≤ k ∧ k ≤ 57
theorem isDigit_n {k : Nat} (h : k < 256) (m : Mem) : X0_isDigit (nI k) m = some (if 48 ≤ k ∧ k ≤ 57 then 1 else 0, m) := by
  unfold X0_isDigit
  by_cases h1 : k < 48
  · rw [if_pos (by rw [i_lt, i_n k (by omega)]; show (k : Int) < 48; omega), if_neg (by omega)]
  · rw [if_neg (by rw [i_lt, i_n k (by omega)]; show ¬ (k : Int) < 48; omega)]
    by_cases h2 : 57 < k
    · rw [if_pos (by rw [i_lt, i_n k (by omega)]; show (57 : Int) < k; omega), if_neg (by omega)]
    · rw [if_neg (by rw [i_lt, i_n k (by omega)]; show ¬ (57 : Int) < k; omega), if_pos (by omega)]
theorem isDigit_m (m : Mem) : X0_isDigit (-1) m = some (0, m) := by
  unfold X0_isDigit
  rw [if_pos (by decide)]
theorem in_n {k : Nat} (h : k < 256) (m : Mem) : X10_in (nI k) 48 57 m = some (if 48 ≤ k ∧ k ≤ 57 then 1 else 0, m) := by
  unfold X10_in
  by_cases h1 : k < 48
  · rw [if_pos (by rw [i_lt, i_n k (by omega)]; show (k : Int) < 48; omega), if_neg (by omega)]
  · rw [if_neg (by rw [i_lt, i_n k (by omega)]; show ¬ (k : Int) < 48; omega)]
    by_cases h2 : 57 < k
    · rw [if_pos (by rw [i_lt, i_n k (by omega)]; show (57 : Int) < k; omega), if_neg (by omega)]
    · rw [if_neg (by rw [i_lt, i_n k (by omega)]; show ¬ (57 : Int) < k; omega), if_pos (by omega)]
theorem in_m (m : Mem) : X10_in (-1) 48 57 m = some (0, m) := by
  unfold X10_in
  rw [if_pos (by decide)]
theorem pk_dig {B : Nat → Nat} {n i : Nat} (hB : ∀ j, B j < 256) (m : Mem) : X0_isDigit (pk B n i) m = some (if i < n ∧ dig (B i) then 1 else 0, m) ∧ X10_in (pk B n i) 48 57 m = some (if i < n ∧ dig (B i) then 1 else 0, m) := by
  unfold pk dig
  by_cases hi : i < n
  · rw [if_pos hi, isDigit_n (hB i), in_n (hB i)]
    simp only [hi, true_and, and_self]
  · rw [if_neg hi, isDigit_m, in_m]
    simp only [hi, false_and, if_false, and_self]
theorem k4 {k : Nat} (h : k < 4) : ¬ (4 : Int32) ≤ nI k := by
  rw [i_le, i_n k (by omega)]
  show ¬ (4 : Int) ≤ k
  omega
theorem num_step (x d : Nat) (hx : x < 100000) (hd : dig d) : (nI x * 10 + nI d) - 48 = nI (10 * x + (d - 48)) ∧ (10 * nI x + nI d) - 48 = nI (10 * x + (d - 48)) := by
  have e1 : (nI x * 10 + nI d) = nI (10 * x + d) := by
    rw [show (10 : Int32) = nI 10 from rfl, pk_mul, nI_add]
    congr 1
    omega
  have e2 : (10 * nI x + nI d) = nI (10 * x + d) := by
    rw [show (10 : Int32) = nI 10 from rfl, pk_mul, nI_add]
  have e3 : nI (10 * x + d) - 48 = nI (10 * x + (d - 48)) := by
    rw [show (48 : Int32) = nI 48 from rfl, pk_sub (by have := hd.1; omega)]
    congr 1
    have := hd.1
    omega
  rw [e1, e2]
  exact ⟨e3, e3⟩
section RS
variable {μ : Mem} {B : Nat → Nat} {n op : Nat} {S : Int32 → Mem → Option Mem} {S2 : Mem → Option (Int32 × Mem)}
/-- a number from its k-th digit on -/
theorem nt_num (hC : COK μ B n) : ∀ (m k i x f : Nat), 4 - k < m → k ≤ 4 → m ≤ f → i ≤ n → x < 10 ^ k →
    ∃ (j y : Nat) (bad : Bool), i ≤ j ∧ j ≤ n ∧ y < 10000 ∧ (i < n ∧ dig (B i) ∧ k < 4 → i < j) ∧ (bad = true → j < n ∧ dig (B j)) ∧
      (∀ cnt cd, cnt < 60 → X0_readNumber_4 f (nI x) (nI k) (CM μ i (-1) cnt cd) = some (CM μ j (-1) (cnt + 1) (upd cd cnt (nI y)))) ∧
      (∀ ν fr, MOK ν B n fr → X10_single_20 S2 f (nI x) (nI k) (MM ν i op false) = some (nI y, MM ν j op bad)) := by
  have hn60 := hC.2.2.1
  have hB := hC.2.2.2.2
  intro m
  induction m with
  | zero => intro k i x f h; omega
  | succ m ih =>
    intro k i x f hm hk hf hi hx
    obtain ⟨f, rfl⟩ : ∃ f1, f = f1 + 1 := ⟨f - 1, by omega⟩
    have hx4 : x < 10000 := by
      rcases (show k = 0 ∨ k = 1 ∨ k = 2 ∨ k = 3 ∨ k = 4 by omega) with rfl | rfl | rfl | rfl | rfl <;> omega
    -- the end of a number
    have hend : ∀ ν fr, MOK ν B n fr → X10_single_68 S2 (nI x) (MM ν i op false) = some (nI x, MM ν i op (decide (i < n ∧ 48 ≤ B i ∧ B i ≤ 57))) := by
      intro ν fr hν
      unfold X10_single_68
      rw [MM_10, if_pos (by decide), ob2_of (byte_good hν hi), ob2_of (pk_dig hB _).2]
      by_cases hd : i < n ∧ dig (B i)
      · rw [if_pos hd, if_neg (by decide)]
        unfold X10_single_90 X10_single_95
        rw [gd_pos (by decide), lt_of]
        have e := MM_st10 ν i op false true
        rw [if_pos rfl] at e
        rw [e, decide_eq_true (show i < n ∧ 48 ≤ B i ∧ B i ≤ 57 from hd)]
      · rw [if_neg hd, if_pos rfl]
        unfold X10_single_95
        rw [gd_pos (by decide), lt_of]
        have e := MM_st10 ν i op false false
        rw [if_neg (by decide)] at e
        rw [e, decide_eq_false (show ¬ (i < n ∧ 48 ≤ B i ∧ B i ≤ 57) from hd)]
    by_cases hk4 : k = 4
    · subst hk4
      refine ⟨i, x, decide (i < n ∧ 48 ≤ B i ∧ B i ≤ 57), Nat.le_refl i, hi, hx4, fun h => by omega, fun h => of_decide_eq_true h, fun cnt cd hcnt => ?_, fun ν fr hν => ?_⟩
      · rw [X0_readNumber_4.eq_2, if_pos (by decide)]
        unfold X0_readNumber_48
        rw [ob_of (emit_ok hcnt)]
      · rw [X10_single_20.eq_2, if_pos (by decide), hend ν fr hν]
    · by_cases hd : i < n ∧ dig (B i)
      · have hst := num_step x (B i) (by omega) hd.2
        have hx2 : 10 * x + (B i - 48) < 10 ^ (k + 1) := by
          have h9 := hd.2.2
          rw [Nat.pow_succ]
          omega
        obtain ⟨j, y, bad, a1, a2, a3, a4, a5, a6, a7⟩ := ih (k + 1) (i + 1) (10 * x + (B i - 48)) f (by omega) (by omega) (by omega) (by omega) hx2
        have hpk : pk B n i = nI (B i) := by unfold pk; rw [if_pos hd.1]
        refine ⟨j, y, bad, by omega, a2, a3, fun _ => by omega, a5, fun cnt cd hcnt => ?_, fun ν fr hν => ?_⟩
        · rw [X0_readNumber_4.eq_2, if_neg (k4 (by omega)), ob2_of (next_good hC hi), ob2_of (pk_dig hB _).1, if_pos hd, if_neg (by decide), ob2_of (next_good hC hi), lt_of, CM_up, nI_1, hpk, hst.1]
          exact a6 cnt cd hcnt
        · rw [X10_single_20.eq_2, if_neg (k4 (by omega)), ob2_of (byte_good hν hi), ob2_of (pk_dig hB _).2, if_pos hd, if_neg (by decide), ob2_of (byte_good hν hi), lt_of, MM_up, nI_1, hpk, hst.2]
          exact a7 ν fr hν
      · refine ⟨i, x, decide (i < n ∧ 48 ≤ B i ∧ B i ≤ 57), Nat.le_refl i, hi, hx4, fun h => absurd ⟨h.1, h.2.1⟩ hd, fun h => of_decide_eq_true h, fun cnt cd hcnt => ?_, fun ν fr hν => ?_⟩
        · rw [X0_readNumber_4.eq_2, if_neg (k4 (by omega)), ob2_of (next_good hC hi), ob2_of (pk_dig hB _).1, if_neg hd, if_pos rfl]
          unfold X0_readNumber_48
          rw [ob_of (emit_ok hcnt)]
        · rw [X10_single_20.eq_2, if_neg (k4 (by omega)), ob2_of (byte_good hν hi), ob2_of (pk_dig hB _).2, if_neg hd, if_pos rfl, hend ν fr hν]
theorem Rp_num {y : Nat} (hy : y < 10000) : Rp [nI y] (fun _ => nI y) := by
  refine ⟨by simp, fun env s hs => ?_⟩
  have h0 : (0 : Int32) ≤ nI y := by rw [i_le, i_n y (by omega)]; show 0 ≤ (y : Int); omega
  have h1 : ¬ isNm (nI y) := fun q => by
    have := q.2
    rw [i_le, i_n y (by omega)] at this
    have e : (-97 : Int32).toInt = -97 := by decide
    omega
  show rst env s (nI y) = _
  unfold rst
  simp only [List.length_cons, List.length_nil] at hs
  rw [if_pos ⟨Or.inl h0, by omega⟩, if_neg h1]
/-- names: their letters, in the order of the model's row -/
def letN (k : Nat) : Nat := ([104, 100, 117, 107, 111, 99, 110] : List Nat).getD k 0
theorem letF_n : ∀ k, k < 7 → letF k = nI (letN k) := by decide
theorem letN_inj : ∀ k, k < 7 → ∀ j, j < 7 → letN k = letN j → k = j := by decide
theorem letN_r : ∀ k, k < 7 → 97 ≤ letN k ∧ letN k ≤ 122 := by decide
theorem nmv_let (env : Nat → Int32) : ∀ k, k < 7 → nmv env (nI (letN k)) = env k := by
  intro k hk
  rcases (show k = 0 ∨ k = 1 ∨ k = 2 ∨ k = 3 ∨ k = 4 ∨ k = 5 ∨ k = 6 by omega) with rfl | rfl | rfl | rfl | rfl | rfl | rfl <;> rfl
theorem isName_yes {k : Nat} (hk : k < 7) (m : Mem) : X0_isName (nI (letN k)) m = some (1, m) := by
  rcases (show k = 0 ∨ k = 1 ∨ k = 2 ∨ k = 3 ∨ k = 4 ∨ k = 5 ∨ k = 6 by omega) with rfl | rfl | rfl | rfl | rfl | rfl | rfl <;> rfl
theorem isName_no {z : Int32} (h : ∀ k, k < 7 → ¬ z = nI (letN k)) (m : Mem) : X0_isName z m = some (0, m) := by
  unfold X0_isName
  rw [if_neg (show ¬ z = (104 : Int32) from h 0 (by decide)), if_neg (show ¬ z = (100 : Int32) from h 1 (by decide)), if_neg (show ¬ z = (117 : Int32) from h 2 (by decide)), if_neg (show ¬ z = (107 : Int32) from h 3 (by decide)), if_neg (show ¬ z = (111 : Int32) from h 4 (by decide)), if_neg (show ¬ z = (99 : Int32) from h 5 (by decide)), if_neg (show ¬ z = (110 : Int32) from h 6 (by decide))]
theorem Rp_name {k : Nat} (hk : k < 7) : Rp [-(nI (letN k))] (fun env => env k) := by
  refine ⟨by simp, fun env s hs => ?_⟩
  have h1 : isNm (-(nI (letN k))) := by
    rcases (show k = 0 ∨ k = 1 ∨ k = 2 ∨ k = 3 ∨ k = 4 ∨ k = 5 ∨ k = 6 by omega) with rfl | rfl | rfl | rfl | rfl | rfl | rfl <;> decide
  show rst env s _ = _
  unfold rst
  simp only [List.length_cons, List.length_nil] at hs
  have e : -(-(nI (letN k))) = nI (letN k) := Int32.neg_neg
  rw [if_pos ⟨Or.inr h1, by omega⟩, if_pos h1, e, nmv_let env k hk]
theorem Rp_not {cs : List Int32} {v : (Nat → Int32) → Int32} (h : Rp cs v) : Rp (cs ++ [-33]) (fun env => if v env = 0 then 1 else 0) := by
  refine ⟨by simp, fun env s hs => ?_⟩
  simp only [List.length_append, List.length_cons, List.length_nil] at hs
  rw [rp_app, h.2 env s (by omega)]
  show rst env (v env :: s) (-33) = _
  unfold rst
  rw [if_neg (by intro q; exact absurd q.1 (by decide)), if_pos ⟨rfl, by simp⟩]
  rfl
theorem k7 {k : Nat} (h : k < 7) : ¬ (7 : Int32) ≤ nI k := by
  rw [i_le, i_n k (by omega)]
  show ¬ (7 : Int) ≤ k
  omega
/-- the model looks its letters through -/
theorem let_yes {ν : Mem} {fr i : Nat} (hν : MOK ν B n fr) {k : Nat} (hk : k < 7) : ∀ (m j f : Nat), k - j < m → j ≤ k → m ≤ f → X10_single_102 S2 f (nI (letN k)) (nI j) (MM ν i op false) = some (ν 5 k, MM ν (i + 1) op false) := by
  intro m
  induction m with
  | zero => intro j f h; omega
  | succ m ih =>
    intro j f hm hj hf
    obtain ⟨f, rfl⟩ : ∃ f1, f = f1 + 1 := ⟨f - 1, by omega⟩
    rw [X10_single_102.eq_2, if_neg (k7 (by omega)), gd_pos (i_in (by omega) (by omega)), i_tn (by omega), MM_o _ _ _ _ (by decide), hν.2.2.2.2.2.2, letF_n j (by omega)]
    by_cases hjk : j = k
    · subst hjk
      rw [if_pos rfl, lt_of, MM_up, gd_pos (i_in (by omega) (by omega)), MM_o _ _ _ _ (by decide)]
    · have hne : ¬ nI (letN k) = nI (letN j) := fun q => by
        have h2 := congrArg Int32.toInt q
        have r1 := letN_r k hk
        have r2 := letN_r j (by omega)
        rw [i_n _ (by omega), i_n _ (by omega)] at h2
        exact hjk (letN_inj j (by omega) k hk (by omega))
      rw [if_neg hne, nI_1]
      exact ih (j + 1) f (by omega) (by omega) (by omega)
theorem let_no {ν : Mem} {fr i : Nat} (hν : MOK ν B n fr) {z : Int32} (hz : ∀ k, k < 7 → ¬ z = nI (letN k)) : ∀ (m j f : Nat), 7 - j < m → j ≤ 7 → m ≤ f → X10_single_102 S2 f z (nI j) (MM ν i op false) = (if z = 33 then X10_single_153 S2 z (MM ν i op false) else (if z = 40 then X10_single_153 S2 z (MM ν i op false) else X10_single_161 S2 (MM ν i op false))) := by
  intro m
  induction m with
  | zero => intro j f h; omega
  | succ m ih =>
    intro j f hm hj hf
    obtain ⟨f, rfl⟩ : ∃ f1, f = f1 + 1 := ⟨f - 1, by omega⟩
    by_cases h7 : j = 7
    · subst h7
      rw [X10_single_102.eq_2, if_pos (by decide)]
    · rw [X10_single_102.eq_2, if_neg (k7 (by omega)), gd_pos (i_in (by omega) (by omega)), i_tn (by omega), MM_o _ _ _ _ (by decide), hν.2.2.2.2.2.2, letF_n j (by omega), if_neg (hz j (by omega)), nI_1]
      exact ih (j + 1) f (by omega) (by omega) (by omega)
end RS
