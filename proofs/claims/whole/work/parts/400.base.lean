/-! the pure side: first rows -/
theorem st_at (μ : Mem) (k i : Nat) (v : Int32) (a j : Nat) : st μ k i v a j = if a = k ∧ j = i then v else μ a j := by
  unfold st upd
  by_cases ha : a = k
  · subst ha
    by_cases hj : j = i <;> simp [hj]
  · simp [ha]
theorem gd_pos {α : Type} {q : Prop} [Decidable q] {x : Option α} (h : q) : gd q x = x := if_pos h
theorem ob_of {α β : Type} {x : Option α} {f : α → Option β} {a : α} (h : x = some a) : ob x f = f a := by rw [h]; rfl
theorem ob2_of {β : Type} {x : Option (Int32 × Mem)} {f : Int32 → Mem → Option β} {a : Int32} {ν : Mem} (h : x = some (a, ν)) : ob2 x f = f a ν := by rw [h]; rfl
theorem lt_of {α β : Type} (x : α) (f : α → Option β) : lt x f = f x := rfl
theorem i_lt {a b : Int32} : a < b ↔ a.toInt < b.toInt := Int32.lt_iff_toInt_lt
theorem i_le {a b : Int32} : a ≤ b ↔ a.toInt ≤ b.toInt := Int32.le_iff_toInt_le
theorem i_eq {a b : Int32} : a = b ↔ a.toInt = b.toInt := Int32.toInt_inj.symm
theorem i_n (n : Nat) (h : n < 2 ^ 31) : (nI n).toInt = (n : Int) := nI_toInt h
theorem i_tn {n : Nat} (h : n < 2 ^ 31) : (nI n).toNatClampNeg = n := nI_clamp h
theorem i_in {n N : Nat} (h : n < N) (hN : n < 2 ^ 31) : inB (nI n) N := by
  show 0 ≤ (nI n).toInt ∧ (nI n).toInt < (N : Int)
  rw [i_n n hN]
  omega
theorem i_lit (n : Nat) : (OfNat.ofNat n : Int32) = nI n := rfl
theorem i_rng (x : Int32) : -2147483648 ≤ x.toInt ∧ x.toInt < 2147483648 := by
  have h1 := Int32.le_toInt x
  have h2 := Int32.toInt_lt x
  exact ⟨by omega, by omega⟩
theorem i_add {x y : Int32} (h1 : -2147483648 ≤ x.toInt + y.toInt) (h2 : x.toInt + y.toInt < 2147483648) : (x + y).toInt = x.toInt + y.toInt := by
  rw [Int32.toInt_add]
  exact Int.bmod_eq_of_le (by omega) (by omega)
theorem i_sub {x y : Int32} (h1 : -2147483648 ≤ x.toInt - y.toInt) (h2 : x.toInt - y.toInt < 2147483648) : (x - y).toInt = x.toInt - y.toInt := by
  rw [Int32.toInt_sub]
  exact Int.bmod_eq_of_le (by omega) (by omega)
theorem i_mul {x y : Int32} (h1 : -2147483648 ≤ x.toInt * y.toInt) (h2 : x.toInt * y.toInt < 2147483648) : (x * y).toInt = x.toInt * y.toInt := by
  rw [Int32.toInt_mul]
  exact Int.bmod_eq_of_le (by omega) (by omega)
theorem FU_ge : 60000 ≤ FU := by decide
/-! the texts' readers: a canonical memory of the class's reader, and of the model's -/
def CM (μ : Mem) (i : Nat) (ft : Int32) (cnt : Nat) (cd : Nat → Int32) : Mem := fun a => if a = 81 then (fun j => if j = 4 then nI i else if j = 5 then ft else if j = 1 then nI cnt else μ 81 j) else if a = 82 then cd else μ a
theorem CM_4 (μ : Mem) (i : Nat) (ft : Int32) (cnt : Nat) (cd : Nat → Int32) : CM μ i ft cnt cd 81 4 = nI i := rfl
theorem CM_5 (μ : Mem) (i : Nat) (ft : Int32) (cnt : Nat) (cd : Nat → Int32) : CM μ i ft cnt cd 81 5 = ft := rfl
theorem CM_1 (μ : Mem) (i : Nat) (ft : Int32) (cnt : Nat) (cd : Nat → Int32) : CM μ i ft cnt cd 81 1 = nI cnt := rfl
theorem CM_2 (μ : Mem) (i : Nat) (ft : Int32) (cnt : Nat) (cd : Nat → Int32) : CM μ i ft cnt cd 81 2 = μ 81 2 := rfl
theorem CM_3 (μ : Mem) (i : Nat) (ft : Int32) (cnt : Nat) (cd : Nat → Int32) : CM μ i ft cnt cd 81 3 = μ 81 3 := rfl
theorem CM_23 (μ : Mem) (i : Nat) (ft : Int32) (cnt : Nat) (cd : Nat → Int32) : CM μ i ft cnt cd 23 = μ 23 := rfl
theorem CM_st4 (μ : Mem) (i j : Nat) (ft : Int32) (cnt : Nat) (cd : Nat → Int32) : st (CM μ i ft cnt cd) 81 4 (nI j) = CM μ j ft cnt cd := by
  funext a k
  rw [st_at]
  unfold CM
  by_cases ha : a = 81
  · by_cases hk : k = 4 <;> simp [ha, hk]
  · simp [ha]
theorem CM_st5 (μ : Mem) (i : Nat) (ft v : Int32) (cnt : Nat) (cd : Nat → Int32) : st (CM μ i ft cnt cd) 81 5 v = CM μ i v cnt cd := by
  funext a k
  rw [st_at]
  unfold CM
  by_cases ha : a = 81
  · by_cases hk : k = 5 <;> simp [ha, hk]
  · simp [ha]
theorem CM_em (μ : Mem) (i : Nat) (ft : Int32) (cnt n2 : Nat) (cd : Nat → Int32) (c : Int32) : st (st (CM μ i ft cnt cd) 82 cnt c) 81 1 (nI n2) = CM μ i ft n2 (upd cd cnt c) := by
  funext a k
  rw [st_at, st_at]
  unfold CM upd
  by_cases ha : a = 81
  · by_cases hk : k = 1
    · simp [ha, hk]
    · simp [ha, hk]
  · by_cases ha2 : a = 82
    · by_cases hk : k = cnt <;> simp [ha2, hk]
    · simp [ha, ha2]
/-- the bytes B, n of them, stand on the class's tape; the reader has them -/
def COK (μ : Mem) (B : Nat → Nat) (n : Nat) : Prop := ¬ μ 81 2 = 0 ∧ μ 81 3 = nI n ∧ n ≤ 60 ∧ (∀ j, j < n → (μ 23 j).toInt8.toInt32 &&& 255 = nI (B j)) ∧ ∀ j, B j < 256
def pk (B : Nat → Nat) (n i : Nat) : Int32 := if i < n then nI (B i) else -1
theorem next_good {μ : Mem} {B : Nat → Nat} {n i cnt : Nat} {cd : Nat → Int32} (h : COK μ B n) (hi : i ≤ n) : X0_next (CM μ i (-1) cnt cd) = some (pk B n i, CM μ i (-1) cnt cd) := by
  obtain ⟨h1, h2, h3, h4, h5⟩ := h
  unfold X0_next
  rw [CM_5, CM_4, CM_3, CM_2, CM_23, h2, if_neg (by decide), gd_pos h1, if_neg (by rw [i_lt, i_n i (by omega)]; show ¬ (i : Int) < 0; omega)]
  by_cases hin : i < n
  · rw [if_neg (by rw [i_le, i_n i (by omega), i_n n (by omega)]; omega), gd_pos h1, if_pos (by rw [i_lt, i_n i (by omega)]; show (i : Int) < 60; omega), gd_pos h1, gd_pos (i_in (by omega) (by omega)), i_tn (by omega), h4 i hin]
    unfold pk
    rw [if_pos hin]
  · rw [if_pos (by rw [i_le, i_n i (by omega), i_n n (by omega)]; omega)]
    unfold pk
    rw [if_neg hin]
theorem next_bad {μ : Mem} {i cnt : Nat} {ft : Int32} {cd : Nat → Int32} (h : 0 ≤ ft) : X0_next (CM μ i ft cnt cd) = some (-1, CM μ i ft cnt cd) := by
  unfold X0_next
  rw [CM_5, if_pos h]
/-- behind a fault of the model's the class's reader has its own, or stands at a digit with which nothing goes on -/
def stk (B : Nat → Nat) (n i : Nat) (ft : Int32) : Prop := ft = nI i ∨ (ft = -1 ∧ i < n ∧ 48 ≤ B i ∧ B i ≤ 57)
def noop (z : Int32) : Prop := z = -1 ∨ ∃ d : Nat, 48 ≤ d ∧ d ≤ 57 ∧ z = nI d
theorem noop_ne {z : Int32} (h : noop z) {k : Nat} (hk : k < 48 ∨ (57 < k ∧ k < 256)) : ¬ z = nI k := by
  rcases h with rfl | ⟨d, h1, h2, rfl⟩
  · intro q
    have := congrArg Int32.toInt q
    rw [i_n k (by omega)] at this
    have e : (-1 : Int32).toInt = -1 := by decide
    omega
  · intro q
    have := congrArg Int32.toInt q
    rw [i_n k (by omega), i_n d (by omega)] at this
    omega
theorem next_stk {μ : Mem} {B : Nat → Nat} {n i cnt : Nat} {ft : Int32} {cd : Nat → Int32} (h : COK μ B n) (hi : i ≤ n) (hs : stk B n i ft) : ∃ z, X0_next (CM μ i ft cnt cd) = some (z, CM μ i ft cnt cd) ∧ noop z := by
  rcases hs with rfl | ⟨rfl, h1, h2, h3⟩
  · have := h.2.2.1
    exact ⟨-1, next_bad (by rw [i_le, i_n i (by omega)]; show 0 ≤ (i : Int); omega), Or.inl rfl⟩
  · exact ⟨_, next_good h hi, Or.inr ⟨B i, h2, h3, by unfold pk; rw [if_pos h1]⟩⟩
theorem emit_ok {μ : Mem} {i cnt : Nat} {ft c : Int32} {cd : Nat → Int32} (h : cnt < 60) : X0_emit c (CM μ i ft cnt cd) = some (CM μ i ft (cnt + 1) (upd cd cnt c)) := by
  unfold X0_emit
  rw [CM_1, if_neg (by rw [i_le, i_n cnt (by omega)]; show ¬ (60 : Int) ≤ cnt; omega), gd_pos (i_in (by omega) (by omega)), i_tn (by omega), lt_of, lt_of]
  have e : st (CM μ i ft cnt cd) 82 cnt c 81 1 = nI cnt := by rw [st_other _ _ _ (by decide)]; rfl
  rw [e, nI_1, CM_em]
theorem fail_ok {μ : Mem} {B : Nat → Nat} {n i cnt : Nat} {ft : Int32} {cd : Nat → Int32} (hi : i < 2 ^ 31) (hs : stk B n i ft ∨ ft = -1) : X0_fail (CM μ i ft cnt cd) = some (CM μ i (nI i) cnt cd) := by
  have h0 : (0 : Int32) ≤ nI i := by rw [i_le, i_n i hi]; show 0 ≤ (i : Int); omega
  have key : ft = nI i ∨ ft = -1 := by
    rcases hs with (h | ⟨h, -⟩) | h
    · exact Or.inl h
    · exact Or.inr h
    · exact Or.inr h
  unfold X0_fail
  rw [CM_5, CM_4]
  rcases key with rfl | rfl
  · rw [if_pos h0]
  · rw [if_neg (by decide), lt_of, CM_st5]
/-- the model's reader -/
def MM (ν : Mem) (i op : Nat) (bad : Bool) : Mem := fun a => if a = 0 then (fun j => if j = 8 then nI i else if j = 9 then nI op else if j = 10 then (if bad then 1 else 0) else ν 0 j) else ν a
def MOK (ν : Mem) (B : Nat → Nat) (n fr : Nat) : Prop := ν 0 6 = nI fr ∧ ν 0 7 = nI n ∧ fr + n ≤ 1944 ∧ n ≤ 60 ∧ (∀ j, j < n → ν 1 (fr + j) = nI (B j)) ∧ (∀ j, B j < 256) ∧ ν 6 = letF
theorem MM_8 (ν : Mem) (i op : Nat) (bad : Bool) : MM ν i op bad 0 8 = nI i := rfl
theorem MM_9 (ν : Mem) (i op : Nat) (bad : Bool) : MM ν i op bad 0 9 = nI op := rfl
theorem MM_10 (ν : Mem) (i op : Nat) (bad : Bool) : MM ν i op bad 0 10 = (if bad then 1 else 0) := rfl
theorem MM_6 (ν : Mem) (i op : Nat) (bad : Bool) : MM ν i op bad 0 6 = ν 0 6 := rfl
theorem MM_7 (ν : Mem) (i op : Nat) (bad : Bool) : MM ν i op bad 0 7 = ν 0 7 := rfl
theorem MM_o (ν : Mem) (i op : Nat) (bad : Bool) {a : Nat} (h : a ≠ 0) : MM ν i op bad a = ν a := by
  unfold MM
  rw [if_neg h]
theorem MM_st8 (ν : Mem) (i j op : Nat) (bad : Bool) : st (MM ν i op bad) 0 8 (nI j) = MM ν j op bad := by
  funext a k
  rw [st_at]
  unfold MM
  by_cases ha : a = 0
  · by_cases hk : k = 8 <;> simp [ha, hk]
  · simp [ha]
theorem MM_st9 (ν : Mem) (i j op : Nat) (bad : Bool) : st (MM ν i op bad) 0 9 (nI j) = MM ν i j bad := by
  funext a k
  rw [st_at]
  unfold MM
  by_cases ha : a = 0
  · by_cases hk : k = 9 <;> simp [ha, hk]
  · simp [ha]
theorem MM_st10 (ν : Mem) (i op : Nat) (bad b2 : Bool) : st (MM ν i op bad) 0 10 (if b2 then 1 else 0) = MM ν i op b2 := by
  funext a k
  rw [st_at]
  unfold MM
  by_cases ha : a = 0
  · by_cases hk : k = 10 <;> simp [ha, hk]
  · simp [ha]
theorem byte_good {ν : Mem} {B : Nat → Nat} {n fr i op : Nat} (h : MOK ν B n fr) (hi : i ≤ n) : X10_byteAt (MM ν i op false) = some (pk B n i, MM ν i op false) := by
  obtain ⟨h1, h2, h3, h4, h5, h6, h7⟩ := h
  unfold X10_byteAt
  rw [MM_10, if_pos (by decide), MM_8, MM_7, MM_6, h1, h2, nI_add]
  unfold pk
  by_cases hin : i < n
  · rw [if_pos (by rw [i_lt, i_n i (by omega), i_n n (by omega)]; omega), gd_pos (i_in (by omega) (by omega)), i_tn (by omega), MM_o _ _ _ _ (by decide), h5 i hin, if_pos hin]
  · rw [if_neg (by rw [i_lt, i_n i (by omega), i_n n (by omega)]; omega), if_neg hin]
theorem byte_bad {ν : Mem} {i op : Nat} : X10_byteAt (MM ν i op true) = some (-1, MM ν i op true) := by
  unfold X10_byteAt
  rw [MM_10, if_neg (by decide)]
theorem eats_yes {ν : Mem} {i op : Nat} {bad : Bool} {c : Int32} (h : X10_byteAt (MM ν i op bad) = some (c, MM ν i op bad)) : X10_eats c (MM ν i op bad) = some (1, MM ν (i + 1) op bad) := by
  unfold X10_eats
  rw [ob2_of h, if_pos rfl]
  unfold X10_eats_13
  rw [if_neg (by decide)]
  unfold X10_eats_28
  rw [MM_8, nI_1, lt_of, MM_st8, gd_pos (by decide)]
theorem eats_no {ν : Mem} {i op : Nat} {bad : Bool} {c z : Int32} (h : X10_byteAt (MM ν i op bad) = some (z, MM ν i op bad)) (hz : ¬ z = c) : X10_eats c (MM ν i op bad) = some (0, MM ν i op bad) := by
  unfold X10_eats
  rw [ob2_of h, if_neg hz]
  unfold X10_eats_13
  rw [if_pos rfl]
  unfold X10_eats_28
  rw [MM_8, lt_of, Int32.add_zero, MM_st8, gd_pos (by decide)]
