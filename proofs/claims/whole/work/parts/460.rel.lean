/-! the relation between the class's state and the model's: laws, meters -/
/-- a law's number, or none -/
def LD (nl : Nat) (x : Int32) : Prop := x = -1 ∨ ∃ l, l < nl ∧ x = nI l
def LR (μ : Mem) (T : Nat) (d : Nat → Int32) (nl : Nat) : Prop := nl ≤ 12 ∧ μ (T + 7) 5 = nI nl ∧ d 3 = nI nl ∧ ∀ l, l < nl → μ (T + 8) l = d (368 + l) ∧ μ (T + 9) l = d (380 + l) ∧ ∃ (B : Nat → Nat) (n : Nat) (cs : List Int32) (v : (Nat → Int32) → Int32), LawOK B n cs v ∧ d (392 + l) = nI n ∧ (∀ j, j < n → d (404 + 60 * l + j) = nI (B j)) ∧ μ (T + 10) l = nI cs.length ∧ ∀ k (h : k < cs.length), μ (T + 11) (60 * l + k) = cs[k]
def MB (nl : Nat) (f : Nat → Int32) : Prop := (∃ k, k < 6 ∧ f 2 = nI k) ∧ (∃ x, x ≤ 30 ∧ f 3 = nI x) ∧ (∃ y, y ≤ 30 ∧ f 4 = nI y) ∧ (∃ o, o ≤ 99999 ∧ f 6 = nI o) ∧ (∃ p, p ≤ 200 ∧ f 7 = nI p) ∧ (f 8 = 0 ∨ f 8 = 1) ∧ (f 9 = 0 ∨ f 9 = 1) ∧ LD nl (f 14)
def smart (f : Nat → Int32) : Prop := f 2 = 2 ∨ f 2 = 4
def MR (i nl : Nat) (f lo q : Nat → Int32) : Prop := f 1 = nI i ∧ (∀ w, w < 12 → q w = f (w + 2)) ∧ (smart f ∨ q 12 = f 14) ∧ (∀ w, w < 24 → q (13 + w) = lo w) ∧ MB nl f
/-- nothing but cell c and the stack has changed -/
def EqC (c : Nat) (μ μ2 : Mem) : Prop := ∀ a, a ≠ 13 → a ≠ c → μ2 a = μ a
/-- nothing but the reader's own, the names and meter i's rows has changed -/
def EqD (i : Nat) (ν ν2 : Mem) : Prop := (∀ a, a ≠ 0 → a ≠ 5 → a ≠ 1 → ν2 a = ν a) ∧ (∀ j, (j < 6 ∨ 10 < j) → ν2 0 j = ν 0 j) ∧ ∀ w, (w < 16 + 40 * i ∨ 56 + 40 * i ≤ w) → ν2 1 w = ν 1 w
/-- nothing but the reader's own and the names has changed -/
def EqS (ν ν2 : Mem) : Prop := (∀ a, a ≠ 0 → a ≠ 5 → ν2 a = ν a) ∧ ∀ j, (j < 6 ∨ 10 < j) → ν2 0 j = ν 0 j
theorem EqC.rf (c : Nat) (μ : Mem) : EqC c μ μ := fun _ _ _ => rfl
theorem EqD.rf (i : Nat) (ν : Mem) : EqD i ν ν := ⟨fun _ _ _ _ => rfl, fun _ _ => rfl, fun _ _ => rfl⟩
theorem EqS.rf (ν : Mem) : EqS ν ν := ⟨fun _ _ _ => rfl, fun _ _ => rfl⟩
theorem EqS.tr {a b c : Mem} (h : EqS a b) (k : EqS b c) : EqS a c := ⟨fun x h1 h2 => (k.1 x h1 h2).trans (h.1 x h1 h2), fun j hj => (k.2 j hj).trans (h.2 j hj)⟩
theorem EqC.x {c : Nat} {μ μ2 μ3 : Mem} (h : EqC c μ μ2) (k : EqX μ2 μ3) : EqC c μ μ3 := fun a h1 h2 => (k a h1).trans (h a h1 h2)
theorem EqC.st {c : Nat} {μ μ2 : Mem} (h : EqC c μ μ2) (j : Nat) (v : Int32) : EqC c μ (st μ2 c j v) := fun a h1 h2 => (st_other _ _ _ h2).trans (h a h1 h2)
theorem EqD.s {i : Nat} {ν ν2 ν3 : Mem} (h : EqD i ν ν2) (k : EqS ν2 ν3) : EqD i ν ν3 := ⟨fun a h1 h2 h3 => (k.1 a h1 h2).trans (h.1 a h1 h2 h3), fun j hj => (k.2 j hj).trans (h.2.1 j hj), fun w hw => (congrFun (k.1 1 (by decide) (by decide)) w).trans (h.2.2 w hw)⟩
theorem EqD.st {i : Nat} {ν ν2 : Mem} (h : EqD i ν ν2) {w : Nat} (hw : w < 40) (v : Int32) : EqD i ν (st ν2 1 (16 + 40 * i + w) v) := by
  refine ⟨fun a h1 h2 h3 => (st_other _ _ _ h3).trans (h.1 a h1 h2 h3), fun j hj => ?_, fun x hx => ?_⟩
  · rw [st_other _ _ _ (by decide)]
    exact h.2.1 j hj
  · rw [st_at, if_neg (by omega)]
    exact h.2.2 x hx
theorem LR.c {μ μ2 : Mem} {d d2 : Nat → Int32} {nl T : Nat} (h : LR μ T d nl) (hμ : ∀ a, T + 7 ≤ a → a ≤ T + 11 → μ2 a = μ a) (hd : ∀ w, (w = 3 ∨ (368 ≤ w ∧ w < 1124)) → d2 w = d w) : LR μ2 T d2 nl := by
  obtain ⟨h1, h2, h3, h4⟩ := h
  refine ⟨h1, by rw [hμ _ (by omega) (by omega)]; exact h2, by rw [hd 3 (Or.inl rfl)]; exact h3, fun l hl => ?_⟩
  obtain ⟨a1, a2, B, n, cs, v, a3, a4, a5, a6, a7⟩ := h4 l hl
  have hn := a3.1
  refine ⟨by rw [hμ _ (by omega) (by omega), hd _ (by omega)]; exact a1, by rw [hμ _ (by omega) (by omega), hd _ (by omega)]; exact a2, B, n, cs, v, a3, by rw [hd _ (by omega)]; exact a4, fun j hj => by rw [hd _ (by omega)]; exact a5 j hj, by rw [hμ _ (by omega) (by omega)]; exact a6, fun k hk => by rw [hμ _ (by omega) (by omega)]; exact a7 k hk⟩
/-! the model's rows of meters -/
theorem ix {i w : Nat} (hi : i < 8) (hw : w < 40) : (16 : Int32) + 40 * nI i + nI w = nI (16 + 40 * i + w) ∧ inB (nI (16 + 40 * i + w)) 1944 ∧ (nI (16 + 40 * i + w)).toNatClampNeg = 16 + 40 * i + w := by
  refine ⟨?_, i_in (by omega) (by omega), i_tn (by omega)⟩
  rw [show (16 : Int32) = nI 16 from rfl, show (40 : Int32) = nI 40 from rfl, pk_mul, nI_add, nI_add]
theorem of_ok {i w : Nat} (hi : i < 8) (hw : w < 40) (ν : Mem) {x : Int32} (hx : x = nI w := by rfl) : X10_of (nI i) x ν = some (ν 1 (16 + 40 * i + w), ν) := by
  subst hx
  obtain ⟨e1, e2, e3⟩ := ix hi hw
  unfold X10_of
  rw [e1, gd_pos e2, e3]
theorem set_ok {i w : Nat} (hi : i < 8) (hw : w < 40) (v : Int32) (ν : Mem) {x : Int32} (hx : x = nI w := by rfl) : X10_set (nI i) x v ν = some (st ν 1 (16 + 40 * i + w) v) := by
  subst hx
  obtain ⟨e1, e2, e3⟩ := ix hi hw
  unfold X10_set
  rw [e1, gd_pos e2, e3, lt_of]
theorem more_ok {i w : Nat} (hi : i < 8) (hw : w < 40) (v : Int32) (ν : Mem) {x : Int32} (hx : x = nI w := by rfl) : X10_more (nI i) x v ν = some (st ν 1 (16 + 40 * i + w) (ν 1 (16 + 40 * i + w) + v)) := by
  subst hx
  obtain ⟨e1, e2, e3⟩ := ix hi hw
  unfold X10_more
  rw [e1, gd_pos e2, gd_pos e2, e3, lt_of]
/-! which law is in force -/
def rul (us fr : Nat → Int32) (u h : Int32) : Nat → Int32
  | 0 => -1
  | n + 1 => if us n = u ∧ fr n ≤ h then nI n else rul us fr u h n
theorem rul_LD (us fr : Nat → Int32) (u h : Int32) : ∀ n, LD n (rul us fr u h n)
  | 0 => Or.inl rfl
  | n + 1 => by
    unfold rul
    split
    · exact Or.inr ⟨n, by omega, rfl⟩
    · rcases rul_LD us fr u h n with e | ⟨l, h1, h2⟩
      · exact Or.inl e
      · exact Or.inr ⟨l, by omega, h2⟩
theorem rul_cong {us fr us2 fr2 : Nat → Int32} {u h : Int32} : ∀ {n : Nat}, (∀ l, l < n → us l = us2 l ∧ fr l = fr2 l) → rul us fr u h n = rul us2 fr2 u h n
  | 0, _ => rfl
  | n + 1, hh => by
    unfold rul
    rw [(hh n (by omega)).1, (hh n (by omega)).2, rul_cong (fun l hl => hh l (by omega))]
theorem ruling_loop (μ : Mem) (u h : Int32) : ∀ (k f : Nat), k ≤ 12 → k < f → X1_ruling_7 f u h (nI k - 1) μ = some (rul (μ 9) (μ 10) u h k, μ) := by
  intro k
  induction k with
  | zero =>
    intro f _ hf
    obtain ⟨f, rfl⟩ : ∃ f1, f = f1 + 1 := ⟨f - 1, by omega⟩
    rw [X1_ruling_7.eq_2, if_pos (by decide)]
    rfl
  | succ k ih =>
    intro f hk hf
    obtain ⟨f, rfl⟩ : ∃ f1, f = f1 + 1 := ⟨f - 1, by omega⟩
    rw [X1_ruling_7.eq_2, nI_pred, if_neg (by rw [i_lt, i_n _ (by omega)]; show ¬ (k : Int) < 0; omega), gd_pos (i_in (by omega) (by omega)), i_tn (by omega)]
    unfold rul X1_ruling_33
    have hr : nI k + -1 = nI k - 1 := (Int32.sub_eq_add_neg _ _).symm
    rw [hr, ih f (by omega) (by omega)]
    by_cases h1 : μ 9 k = u
    · rw [if_pos h1, gd_pos (i_in (by omega) (by omega))]
      by_cases h2 : h < μ 10 k
      · rw [if_pos h2, if_neg (fun q => by have := q.2; rw [i_le] at this; rw [i_lt] at h2; omega)]
      · rw [if_neg h2, if_pos ⟨h1, by rw [i_le]; rw [i_lt] at h2; omega⟩]
    · rw [if_neg h1, if_neg (fun q => h1 q.1)]
theorem force_loop (ν : Mem) (u h : Int32) {nl : Nat} (hnl : nl ≤ 12) (h3 : ν 1 3 = nI nl) : ∀ (z k f : Nat), nl - k < z → k ≤ nl → z ≤ f → X10_forceIn_5 f u h (rul (fun l => ν 1 (368 + l)) (fun l => ν 1 (380 + l)) u h k) (nI k) ν = some (rul (fun l => ν 1 (368 + l)) (fun l => ν 1 (380 + l)) u h nl, ν) := by
  intro z
  induction z with
  | zero => intro k f h; omega
  | succ z ih =>
    intro k f hz hk hf
    obtain ⟨f, rfl⟩ : ∃ f1, f = f1 + 1 := ⟨f - 1, by omega⟩
    rw [X10_forceIn_5.eq_2, h3]
    by_cases hkn : k = nl
    · subst hkn
      rw [if_pos (by rw [i_le]; omega)]
    · rw [if_neg (by rw [i_le, i_n _ (by omega), i_n _ (by omega)]; omega), show (368 : Int32) = nI 368 from rfl, show (380 : Int32) = nI 380 from rfl, nI_add, nI_add, gd_pos (i_in (by omega) (by omega)), i_tn (by omega)]
      have hn := ih (k + 1) f (by omega) (by omega) (by omega)
      unfold rul at hn
      unfold X10_forceIn_51 X10_forceIn_52
      rw [nI_1]
      by_cases h1 : ν 1 (368 + k) = u
      · rw [if_pos h1, gd_pos (i_in (by omega) (by omega)), i_tn (by omega)]
        by_cases h2 : h < ν 1 (380 + k)
        · rw [if_neg (fun q => by have := q.2; rw [i_le] at this; rw [i_lt] at h2; omega)] at hn
          rw [if_pos h2]
          have e : ∀ x, nl = x → rul (fun l => ν 1 (368 + l)) (fun l => ν 1 (380 + l)) u h nl = rul (fun l => ν 1 (368 + l)) (fun l => ν 1 (380 + l)) u h x := fun x q => by rw [q]
          cases nl with
          | zero => omega
          | succ nl => exact hn
        · rw [if_pos ⟨h1, by rw [i_le]; rw [i_lt] at h2; omega⟩] at hn
          rw [if_neg h2]
          cases nl with
          | zero => omega
          | succ nl => exact hn
      · rw [if_neg (fun q => h1 q.1)] at hn
        rw [if_neg h1]
        cases nl with
        | zero => omega
        | succ nl => exact hn
theorem rul_ok {μ ν : Mem} {nl : Nat} (h : LR μ 1 (ν 1) nl) (u hr : Int32) : ∃ r, LD nl r ∧ X1_ruling u hr μ = some (r, μ) ∧ X10_forceIn u hr ν = some (r, ν) := by
  obtain ⟨h1, h2, h3, h4⟩ := h
  have hFU := FU_ge
  refine ⟨rul (μ 9) (μ 10) u hr nl, rul_LD _ _ _ _ _, ?_, ?_⟩
  · have h2 : μ 8 5 = nI nl := h2
    unfold X1_ruling
    rw [h2]
    exact ruling_loop μ u hr nl FU h1 (by omega)
  · rw [rul_cong (us2 := fun l => ν 1 (368 + l)) (fr2 := fun l => ν 1 (380 + l)) (fun l hl => ⟨(h4 l hl).1, (h4 l hl).2.1⟩)]
    exact force_loop ν u hr h1 h3 100 0 FU (by omega) (by omega) (by omega)
theorem has_ok {μ : Mem} {nl : Nat} (h : μ 8 5 = nI nl) (hn : nl ≤ 12) {r : Int32} (hr : LD nl r) : X1_has r μ = some (if r = -1 then 0 else 1, μ) := by
  unfold X1_has
  rcases hr with rfl | ⟨l, h1, rfl⟩
  · rw [if_pos (by decide), if_pos rfl]
  · rw [if_neg (by rw [i_lt, i_n _ (by omega)]; show ¬ (l : Int) < 0; omega), h, if_neg (by rw [i_le, i_n _ (by omega), i_n _ (by omega)]; omega), if_neg (fun q => by have := congrArg Int32.toInt q; rw [i_n _ (by omega)] at this; have e : (-1 : Int32).toInt = -1 := (by decide); omega)]
theorem LD_neg {nl : Nat} (hn : nl ≤ 12) {r : Int32} (hr : LD nl r) : (0 ≤ r ↔ ¬ r = -1) := by
  rcases hr with rfl | ⟨l, h1, rfl⟩
  · exact ⟨fun h => absurd h (by decide), fun h => absurd rfl h⟩
  · refine ⟨fun _ q => ?_, fun _ => by rw [i_le, i_n _ (by omega)]; show 0 ≤ (l : Int); omega⟩
    have := congrArg Int32.toInt q
    rw [i_n _ (by omega)] at this
    have e : (-1 : Int32).toInt = -1 := (by decide)
    omega
/-- both sides say the same of a meter by a law -/
theorem says_ok {μ ν : Mem} {nl i c l : Nat} {hr n : Int32} (hL : LR μ 1 (ν 1) nl) (hF : ν 6 = letF) (hi : i < 8) (hc : c ≠ 13) (hq : ∀ w, w < 12 → ν 1 (16 + 40 * i + w) = μ c (w + 2)) (hl : l < nl) : ∃ V μ2 ν2, X1_worth (nI l) c hr n μ = some (V, μ2) ∧ EqX μ μ2 ∧ X10_saysOf (nI l) (nI i) hr n ν = some (V, ν2) ∧ EqS ν ν2 := by
  obtain ⟨h1, h2, h3, h4⟩ := hL
  obtain ⟨-, -, B, m, cs, v, a3, a4, a5, a6, a7⟩ := h4 l hl
  have hm60 := a3.1
  have hcm := a3.2.1
  obtain ⟨μ2, b1, b2⟩ := worth_ok (hr := hr) (n := n) hc h2 h1 hl a6 (by omega) a7 a3.2.2.1
  generalize hν : st (st (st (st (st (st (st ν 5 0 (hr - hr / 24 * 24)) 5 1 ((hr / 24) - (hr / 24) / 7 * 7)) 5 2 (ν 1 (16 + 40 * i + 9))) 5 3 (ν 1 (16 + 40 * i + 0))) 5 4 (ν 1 (16 + 40 * i + 4))) 5 5 (ν 1 (16 + 40 * i + 3))) 5 6 n = ν7
  have ho : ∀ a, a ≠ 5 → ν7 a = ν a := fun a ha => by
    rw [← hν, st_other _ _ _ ha, st_other _ _ _ ha, st_other _ _ _ ha, st_other _ _ _ ha, st_other _ _ _ ha, st_other _ _ _ ha, st_other _ _ _ ha]
  obtain ⟨ν2, d1, -, d3⟩ := a3.2.2.2 ν7 (404 + 60 * l) (by omega) (fun j hj => by rw [ho 1 (by decide)]; exact a5 j hj) (by rw [ho 6 (by decide)]; exact hF)
  have he : v (ν7 5) = v (env7 μ c hr n) := by
    refine v_cong a3.2.2.1 (by omega) (fun k hk => ?_)
    have q9 := hq 9 (by decide)
    have q0 := hq 0 (by decide)
    have q4 := hq 4 (by decide)
    have q3 := hq 3 (by decide)
    rw [← hν, q9, q0, q4, q3]
    rcases (show k = 0 ∨ k = 1 ∨ k = 2 ∨ k = 3 ∨ k = 4 ∨ k = 5 ∨ k = 6 by omega) with rfl | rfl | rfl | rfl | rfl | rfl | rfl <;> simp [st_at, env7]
  refine ⟨_, μ2, ν2, b2, b1, ?_, ⟨fun a h0 h5 => (d3.1 a h0).trans (ho a h5), fun j hj => (d3.2 j hj).trans (congrFun (ho 0 (by decide)) j)⟩⟩
  have s1 : ∀ (ν' : Mem) (x : Nat), x ≠ 5 → ∀ k y, st ν' 5 k y x = ν' x := fun ν' x hx k y => st_other _ _ _ hx
  unfold X10_saysOf
  rw [lt_of, lt_of, ob2_of (of_ok (w := 9) hi (by decide) _), lt_of, ob2_of (of_ok (w := 0) hi (by decide) _), lt_of, ob2_of (of_ok (w := 4) hi (by decide) _), lt_of, ob2_of (of_ok (w := 3) hi (by decide) _), lt_of, lt_of]
  simp only [s1 _ 1 (by decide)]
  rw [hν, show (392 : Int32) = nI 392 from rfl, nI_add, gd_pos (i_in (by omega) (by omega)), i_tn (by omega), a4, show (404 : Int32) = nI 404 from rfl, show (60 : Int32) = nI 60 from rfl, pk_mul, nI_add, ob2_of d1, he]
