/-! what a law comes to: the class's codes on its stack -/
def env7 (μ : Mem) (m : Nat) (hr n : Int32) : Nat → Int32 := fun k => if k = 0 then hr - hr / 24 * 24 else if k = 1 then hr / 24 - hr / 24 / 7 * 7 else if k = 2 then μ m 11 else if k = 3 then μ m 2 else if k = 4 then μ m 6 else if k = 5 then μ m 5 else n
def SK (f : Nat → Int32) : List Int32 → Prop
  | [] => True
  | a :: t => f t.length = a ∧ SK f t
theorem SK_upd {f : Nat → Int32} {k : Nat} {x : Int32} : ∀ (s : List Int32), s.length ≤ k → SK f s → SK (upd f k x) s
  | [], _, _ => trivial
  | a :: t, h, hs => by
    simp only [List.length_cons] at h
    refine ⟨?_, SK_upd t (by omega) hs.2⟩
    rw [pk_un (by omega)]
    exact hs.1
theorem SK_push {f : Nat → Int32} {s : List Int32} (x : Int32) (h : SK f s) : SK (upd f s.length x) (x :: s) := ⟨pk_us, SK_upd s (Nat.le_refl _) h⟩
/-- nothing but the class's stack has changed -/
def EqX (μ μ2 : Mem) : Prop := ∀ a, a ≠ 13 → μ2 a = μ a
theorem EqX.rf (μ : Mem) : EqX μ μ := fun _ _ => rfl
theorem EqX.st {μ μ2 : Mem} (h : EqX μ μ2) (k : Nat) (x : Int32) : EqX μ (st μ2 13 k x) := fun a ha => by rw [st_other _ _ _ ha]; exact h a ha
theorem EqX.tr {μ μ2 μ3 : Mem} (h : EqX μ μ2) (h2 : EqX μ2 μ3) : EqX μ μ3 := fun a ha => (h2 a ha).trans (h a ha)
theorem st13 (μ : Mem) (k : Nat) (x : Int32) : st μ 13 k x 13 = upd (μ 13) k x := st_same μ 13 k x
theorem joined_eq (a o b : Int32) (m : Mem) : X1_joined a o b m = some (jn a o b, m) := by
  unfold X1_joined jn
  by_cases h1 : o = 38
  · rw [if_pos h1, if_pos h1]
    by_cases ha : a = 0
    · rw [if_pos ha, if_pos ha]
    · rw [if_neg ha, if_neg ha]
      by_cases hb : b = 0
      · rw [if_pos hb, if_pos hb]
      · rw [if_neg hb, if_neg hb]
  rw [if_neg h1, if_neg h1]
  by_cases h2 : o = 42
  · rw [if_pos h2, if_pos h2]
  rw [if_neg h2, if_neg h2]
  by_cases h3 : o = 43
  · rw [if_pos h3, if_pos h3]
  rw [if_neg h3, if_neg h3]
  by_cases h4 : o = 45
  · rw [if_pos h4, if_pos h4]
  rw [if_neg h4, if_neg h4]
  by_cases h5 : o = 60
  · rw [if_pos h5, if_pos h5]
    split <;> rfl
  rw [if_neg h5, if_neg h5]
  by_cases h6 : o = 61
  · rw [if_pos h6, if_pos h6]
    split <;> rfl
  rw [if_neg h6, if_neg h6]
  by_cases h7 : o = 62
  · rw [if_pos h7, if_pos h7]
    split <;> rfl
  rw [if_neg h7, if_neg h7]
  by_cases h8 : o = 124
  · rw [if_pos h8, if_pos h8]
    by_cases ha : a = 0
    · rw [if_pos ha, if_pos ha]
      split <;> rfl
    · rw [if_neg ha, if_neg ha]
  rw [if_neg h8, if_neg h8]
  by_cases hb : b = 0
  · rw [if_pos hb, if_pos hb]
  · rw [if_neg hb, if_neg hb, gd_pos hb]
theorem named_eq (o : Int32) (m : Nat) (hr n : Int32) (μ : Mem) : X1_named o m hr n μ = some (nmv (env7 μ m hr n) o, μ) := by
  unfold X1_named nmv
  by_cases h1 : o = 99
  · rw [if_pos h1, if_pos h1]; rfl
  rw [if_neg h1, if_neg h1]
  by_cases h2 : o = 100
  · rw [if_pos h2, if_pos h2]; rfl
  rw [if_neg h2, if_neg h2]
  by_cases h3 : o = 104
  · rw [if_pos h3, if_pos h3]; rfl
  rw [if_neg h3, if_neg h3]
  by_cases h4 : o = 107
  · rw [if_pos h4, if_pos h4]; rfl
  rw [if_neg h4, if_neg h4]
  by_cases h5 : o = 111
  · rw [if_pos h5, if_pos h5]; rfl
  rw [if_neg h5, if_neg h5]
  by_cases h6 : o = 117
  · rw [if_pos h6, if_pos h6]; rfl
  rw [if_neg h6, if_neg h6]; rfl
theorem env7_eq {μ μ2 : Mem} (h : EqX μ μ2) {m : Nat} (hm : m ≠ 13) (hr n : Int32) : env7 μ2 m hr n = env7 μ m hr n := by
  unfold env7
  rw [h m hm]
section WO
variable {μ : Mem} {li m : Nat} {hr n : Int32} {cs : List Int32}
theorem worth_step (K : Int32 → Nat → Int32 → Int32 → Int32 → Int32 → Int32 → Mem → Option (Int32 × Mem)) {μc : Mem} (hE : EqX μ μc) (hm : m ≠ 13) {s : List Int32} (hs : s.length < 60) (hK : SK (μc 13) s) (c x1 x5 x7 : Int32) :
    ∃ μd, EqX μ μd ∧ SK (μd 13) (rst (env7 μ m hr n) s c) ∧ (if (-97 : Int32) < c then X1_worth_63 K x1 m hr n x5 (nI s.length) x7 c μc else (if c < (-122 : Int32) then X1_worth_63 K x1 m hr n x5 (nI s.length) x7 c μc else X1_worth_64 K x1 m hr n x5 (nI s.length) x7 c (1 : Int32) μc)) = K x1 m hr n x5 (nI (rst (env7 μ m hr n) s c).length) (x7 + 1) μd := by
  have e60 : ¬ (60 : Int32) ≤ nI s.length := k60 hs
  -- pushing
  have push : ∀ x : Int32, EqX μ (st μc 13 s.length x) ∧ SK (st μc 13 s.length x 13) (x :: s) ∧ X1_worth_112 K x1 m hr n x5 (nI s.length) x7 (nI s.length) x μc = K x1 m hr n x5 (nI (x :: s).length) (x7 + 1) (st μc 13 s.length x) := by
    intro x
    refine ⟨hE.st _ _, by rw [st13]; exact SK_push x hK, ?_⟩
    unfold X1_worth_112 X1_worth_201
    rw [gd_pos (i_in hs (by omega)), lt_of, i_tn (by omega), nI_1]
    rfl
  by_cases hn : isNm c
  · -- a name
    have h1 : ¬ (-97 : Int32) < c := fun q => by have := hn.2; rw [i_le] at this; rw [i_lt] at q; omega
    have h2 : ¬ c < (-122 : Int32) := fun q => by have := hn.1; rw [i_le] at this; rw [i_lt] at q; omega
    have h3 : ¬ (0 : Int32) ≤ c := fun q => by have := hn.2; rw [i_le] at this q; have e1 : (-97 : Int32).toInt = -97 := (by decide); have e2 : (0 : Int32).toInt = 0 := rfl; omega
    have er : rst (env7 μ m hr n) s c = nmv (env7 μ m hr n) (-c) :: s := by
      unfold rst
      rw [if_pos ⟨Or.inr hn, hs⟩, if_pos hn]
    obtain ⟨p1, p2, p3⟩ := push (nmv (env7 μ m hr n) (-c))
    refine ⟨_, p1, er ▸ p2, ?_⟩
    rw [if_neg h1, if_neg h2, er, ← p3]
    unfold X1_worth_64
    rw [if_neg h3, if_neg (by decide)]
    unfold X1_worth_76
    rw [if_neg e60, if_neg (by decide), ob2_of (named_eq _ _ _ _ _), env7_eq hE hm]
  · -- no name: the flag is 0
    have hfl : (if (-97 : Int32) < c then X1_worth_63 K x1 m hr n x5 (nI s.length) x7 c μc else (if c < (-122 : Int32) then X1_worth_63 K x1 m hr n x5 (nI s.length) x7 c μc else X1_worth_64 K x1 m hr n x5 (nI s.length) x7 c (1 : Int32) μc)) = X1_worth_64 K x1 m hr n x5 (nI s.length) x7 c 0 μc := by
      by_cases h1 : (-97 : Int32) < c
      · rw [if_pos h1]; rfl
      · rw [if_neg h1]
        by_cases h2 : c < (-122 : Int32)
        · rw [if_pos h2]; rfl
        · exact absurd ⟨by rw [i_le]; rw [i_lt] at h2; omega, by rw [i_le]; rw [i_lt] at h1; omega⟩ hn
    rw [hfl]
    unfold X1_worth_64
    by_cases h0 : (0 : Int32) ≤ c
    · have er : rst (env7 μ m hr n) s c = c :: s := by
        unfold rst
        rw [if_pos ⟨Or.inl h0, hs⟩, if_neg hn]
      obtain ⟨p1, p2, p3⟩ := push c
      refine ⟨_, p1, er ▸ p2, ?_⟩
      rw [if_pos h0, er, ← p3]
      unfold X1_worth_76
      rw [if_neg e60, if_pos rfl]
    · rw [if_neg h0, if_pos rfl]
      have er : rst (env7 μ m hr n) s c = if c = -33 ∧ 1 ≤ s.length then rnot s else rjoin (-c) s := by
        unfold rst
        rw [if_neg (fun q => by rcases q.1 with q | q; exact h0 q; exact hn q)]
      -- joining
      have join : ∃ μd, EqX μ μd ∧ SK (μd 13) (rjoin (-c) s) ∧ X1_worth_161 K x1 m hr n x5 (nI s.length) x7 c μc = K x1 m hr n x5 (nI (rjoin (-c) s).length) (x7 + 1) μd := by
        unfold X1_worth_161
        match s, hs, hK with
        | [], hs, hK =>
          refine ⟨μc, hE, hK, ?_⟩
          rw [if_pos (by decide)]
          rfl
        | [a], hs, hK =>
          refine ⟨μc, hE, hK, ?_⟩
          rw [if_pos (show nI [a].length < (2 : Int32) from (show nI 1 < (2 : Int32) by decide))]
          rfl
        | b :: a :: t, hs, hK =>
          simp only [List.length_cons] at hs
          have et : nI (b :: a :: t).length = nI (t.length + 2) := rfl
          have e1 : nI (t.length + 2) + (-1) = nI (t.length + 1) := pk_m1 (t.length + 1)
          have e2 : nI (t.length + 1) - 1 = nI t.length := nI_pred t.length
          refine ⟨st μc 13 t.length (jn a (-c) b), hE.st _ _, ?_, ?_⟩
          · rw [st13]
            exact SK_push _ hK.2.2
          · rw [et, if_neg (by rw [i_lt, i_n _ (by omega)]; show ¬ ((t.length + 2 : Nat) : Int) < 2; omega), e1, e2, gd_pos (i_in (by omega) (by omega)), gd_pos (i_in (by omega) (by omega)), i_tn (by omega), i_tn (by omega)]
            have ka : μc 13 t.length = a := hK.2.1
            have kb : μc 13 (t.length + 1) = b := hK.1
            rw [ka, kb, ob2_of (joined_eq _ _ _ _), gd_pos (i_in (by omega) (by omega)), lt_of]
            rfl
      unfold X1_worth_119
      by_cases h33 : c = -33
      · rw [if_pos h33]
        match s, hs, hK with
        | [], hs, hK =>
          obtain ⟨μd, j1, j2, j3⟩ := join
          rw [if_pos (by decide), er, if_neg (by simp)]
          exact ⟨μd, j1, j2, j3⟩
        | a :: t, hs, hK =>
          simp only [List.length_cons] at hs
          have et : nI (a :: t).length = nI (t.length + 1) := rfl
          have e2 : nI (t.length + 1) - 1 = nI t.length := nI_pred t.length
          have ka : μc 13 t.length = a := hK.1
          rw [er, if_pos ⟨h33, by simp⟩, et, if_neg (by rw [i_lt, i_n _ (by omega)]; show ¬ ((t.length + 1 : Nat) : Int) < 1; omega), e2, gd_pos (i_in (by omega) (by omega)), i_tn (by omega), ka]
          refine ⟨st μc 13 t.length (if a = 0 then 1 else 0), hE.st _ _, ?_, ?_⟩
          · rw [st13]
            exact SK_push _ hK.2
          · unfold X1_worth_157 X1_worth_201
            by_cases ha : a = 0
            · rw [if_pos ha, gd_pos (i_in (by omega) (by omega)), lt_of, i_tn (by omega)]
              unfold rnot
              rw [if_pos ha]
              rfl
            · rw [if_neg ha, gd_pos (i_in (by omega) (by omega)), lt_of, i_tn (by omega)]
              unfold rnot
              rw [if_neg ha]
              rfl
      · rw [if_neg h33, er, if_neg (fun q => h33 q.1)]
        exact join
theorem rst_len (env : Nat → Int32) (s : List Int32) (c : Int32) : (rst env s c).length ≤ s.length + 1 := by
  unfold rst
  split
  · simp
  · split
    · cases s <;> simp [rnot]
    · match s with
      | [] => simp [rjoin]
      | [a] => simp [rjoin]
      | b :: a :: t => simp [rjoin]
theorem worth_loop (hm : m ≠ 13) (hli : li < 12) (hlen : μ 11 li = nI cs.length) (hcs : cs.length ≤ 60) (hcd : ∀ k (h : k < cs.length), μ 12 (60 * li + k) = cs[k]) {V : Int32} :
    ∀ (z i f : Nat) (s : List Int32) (μc : Mem), cs.length - i < z → z ≤ f → i ≤ cs.length → s.length ≤ i → EqX μ μc → SK (μc 13) s → rp (env7 μ m hr n) (cs.drop i) s = [V] →
      ∃ μ2, EqX μ μ2 ∧ X1_worth_22 f (nI li) m hr n (nI (60 * li)) (nI s.length) (nI i) μc = some (V, μ2) := by
  intro z
  induction z with
  | zero => intro i f s μc h; omega
  | succ z ih =>
    intro i f s μc hz hf hi hs hE hK hr2
    obtain ⟨f, rfl⟩ : ∃ f1, f = f1 + 1 := ⟨f - 1, by omega⟩
    rw [X1_worth_22.eq_2, gd_pos (i_in hli (by omega)), i_tn (by omega), hE 11 (by decide), hlen]
    by_cases hend : i = cs.length
    · subst hend
      rw [List.drop_length] at hr2
      obtain rfl : s = [V] := hr2
      refine ⟨μc, hE, ?_⟩
      rw [if_pos (by rw [i_le, i_n _ (by omega)]; omega)]
      have : μc 13 0 = V := hK.1
      rw [this]
    · have hlt : i < cs.length := by omega
      rw [if_neg (by rw [i_le, i_n _ (by omega), i_n _ (by omega)]; omega), nI_add, gd_pos (i_in (by omega) (by omega)), i_tn (by omega), hE 12 (by decide), hcd i hlt]
      obtain ⟨μd, d1, d2, d3⟩ := worth_step (hr := hr) (n := n) (X1_worth_22 f) hE hm (s := s) (by omega) hK cs[i] (nI li) (nI (60 * li)) (nI i)
      rw [d3, nI_1]
      have hl := rst_len (env7 μ m hr n) s cs[i]
      refine ih (i + 1) f _ μd (by omega) (by omega) (by omega) (by omega) d1 d2 ?_
      rw [← List.getElem_cons_drop hlt] at hr2
      exact hr2
end WO
/-- the class's law li comes to v of the names -/
theorem worth_ok {μ : Mem} {li m nl : Nat} {hr n : Int32} {cs : List Int32} {v : (Nat → Int32) → Int32} (hm : m ≠ 13) (hnl : μ 8 5 = nI nl) (hn12 : nl ≤ 12) (hli : li < nl) (hlen : μ 11 li = nI cs.length) (hcs : cs.length ≤ 60) (hcd : ∀ k (h : k < cs.length), μ 12 (60 * li + k) = cs[k]) (hv : Rp cs v) : ∃ μ2, EqX μ μ2 ∧ X1_worth (nI li) m hr n μ = some (v (env7 μ m hr n), μ2) := by
  have hFU := FU_ge
  have hhas : X1_has (nI li) μ = some (1, μ) := by
    unfold X1_has
    rw [if_neg (by rw [i_lt, i_n _ (by omega)]; show ¬ (li : Int) < 0; omega), hnl, if_neg (by rw [i_le, i_n _ (by omega), i_n _ (by omega)]; omega)]
  obtain ⟨μ2, h1, h2⟩ := worth_loop (hr := hr) (n := n) hm (by omega) hlen hcs hcd (V := v (env7 μ m hr n)) 100 0 FU [] μ (by omega) (by omega) (by omega) (by simp) (EqX.rf μ) trivial (by rw [List.drop_zero]; exact hv.2 _ _ (by simp; omega))
  refine ⟨μ2, h1, ?_⟩
  unfold X1_worth
  rw [ob2_of hhas, if_neg (by decide), show (60 : Int32) = nI 60 from rfl, pk_mul, Nat.mul_comm li 60]
  exact h2
