/-! far, fewest -/
/-- shop s is open at c and within r of meter m -/
def WW (ν : Mem) (r c : Int32) (m s : Nat) : Prop := ∃ z, X10_isOpen (nI s) c ν = some (1, ν) ∧ X10_farOf (nI m) (nI s) ν = some (nI z, ν) ∧ ¬ r < nI z
def RB (ν : Mem) (r c : Int32) (ns m : Nat) (x : Int32) : Prop := ∃ s, s < ns ∧ tb x s = true ∧ WW ν r c m s
def NP (ν : Mem) (r c : Int32) (k m : Nat) (y : Int32) : Prop := ∀ x, y &&& x = 0 ↔ ¬ RB ν r c k m x
section MK
variable {j : Nat} {μ ν : Mem} {h nm ns nl nr nt tl : Nat}
theorem ww_or (t : TS 1 μ (ν 1) h nm ns nl nr nt tl) {m s : Nat} (hm : m < nm) (hs : s < ns) (r c : Int32) : ∃ z1 z2, (z1 = 0 ∨ z1 = 1) ∧ X5_isOpen (nI s) c μ = some (z1, μ) ∧ X10_isOpen (nI s) c ν = some (z1, ν) ∧ X5_farFrom (nI s) (24 + 2 * m) μ = some (nI z2, μ) ∧ X10_farOf (nI m) (nI s) ν = some (nI z2, ν) ∧ (WW ν r c m s ↔ z1 = 1 ∧ ¬ r < nI z2) := by
  obtain ⟨z1, h1, h2, h3⟩ := open_ok t hs c
  obtain ⟨z2, -, h5, h6⟩ := far_ok t hm hs
  refine ⟨z1, z2, h1, h2, h3, h5, h6, ⟨fun ⟨z, q1, q2, q3⟩ => ?_, fun ⟨q1, q2⟩ => ⟨z2, by rw [h3, q1], h6, q2⟩⟩⟩
  rw [h3] at q1
  rw [h6] at q2
  injection q1 with q1
  injection q2 with q2
  have q1 : z1 = 1 := congrArg Prod.fst q1
  have q2 : nI z2 = nI z := congrArg Prod.fst q2
  rw [q2]
  exact ⟨q1, q3⟩
theorem RB.up {r c x : Int32} {k m : Nat} : RB ν r c (k + 1) m x ↔ RB ν r c k m x ∨ (tb x k = true ∧ WW ν r c m k) := by
  constructor
  · rintro ⟨s, h1, h2, h3⟩
    by_cases hs : s = k
    · subst hs
      exact Or.inr ⟨h2, h3⟩
    · exact Or.inl ⟨s, by omega, h2, h3⟩
  · rintro (⟨s, h1, h2, h3⟩ | ⟨h2, h3⟩)
    · exact ⟨s, by omega, h2, h3⟩
    · exact ⟨k, by omega, h2, h3⟩
theorem near_mask (t : TS 1 μ (ν 1) h nm ns nl nr nt tl) {m : Nat} (hm : m < nm) (r c : Int32) : ∀ (z k f : Nat) (y : Int32), ns - k < z → k ≤ ns → z ≤ f → NP ν r c k m y → ∃ y2, NP ν r c ns m y2 ∧ X5_openWithin_6 f (24 + 2 * m) r c y (nI k) μ = some (y2, μ) := by
  have b := t.1
  have e1 : μ 3 4 = nI ns := t.2.2.2.1.1
  intro z
  induction z with
  | zero => intro k f y h; omega
  | succ z ih =>
    intro k f y hz hk hf hy
    obtain ⟨f, rfl⟩ : ∃ f1, f = f1 + 1 := ⟨f - 1, by omega⟩
    rw [X5_openWithin_6.eq_2, e1]
    by_cases hkn : k = ns
    · subst hkn
      rw [if_pos (by rw [i_le]; omega)]
      exact ⟨y, hy, rfl⟩
    · have hkl : k < ns := by omega
      obtain ⟨z1, z2, g0, g1, g2, g3, g4, g5⟩ := ww_or t hm hkl r c
      rw [if_neg (nle hkl (by omega)), ob2_of g1]
      unfold X5_openWithin_45
      rw [nI_1]
      have stay : ¬ WW ν r c m k → ∃ y2, NP ν r c ns m y2 ∧ X5_openWithin_6 f (24 + 2 * m) r c y (nI (k + 1)) μ = some (y2, μ) := fun hn => ih (k + 1) f y (by omega) (by omega) (by omega) (fun x => by rw [hy x, RB.up]; exact ⟨fun q w => w.elim q (fun w => hn w.2), fun q w => q (Or.inl w)⟩)
      by_cases h0 : z1 = 0
      · rw [if_pos h0]
        exact stay (fun w => by have := (g5.mp w).1; rw [h0] at this; exact absurd this (by decide))
      · rw [if_neg h0, ob2_of g3]
        have h1 : z1 = 1 := g0.resolve_left h0
        by_cases h2 : r < nI z2
        · rw [if_pos h2]
          exact stay (fun w => (g5.mp w).2 h2)
        · rw [if_neg h2]
          have hw : WW ν r c m k := g5.mpr ⟨h1, h2⟩
          refine ih (k + 1) f _ (by omega) (by omega) (by omega) (fun x => ?_)
          rw [RB.up]
          have hb : ∀ i, i < 32 → tb ((y ||| 1 <<< (nI k &&& 31)) &&& x) i = ((tb (y &&& x) i) || (decide (i = k) && tb x i)) := fun i _ => by
            rw [tb_and, tb_or, tb_shl (by omega), tb_and]
            cases tb y i <;> cases tb x i <;> simp
          constructor
          · intro q
            have q' := (zero_tb _).mp q
            rintro (w | ⟨w, -⟩)
            · refine (hy x).mp ((zero_tb _).mpr (fun i hi => ?_)) w
              have := q' i hi
              rw [hb i hi] at this
              exact (Bool.or_eq_false_iff.mp this).1
            · have := q' k (by omega)
              rw [hb k (by omega), w] at this
              simp at this
          · intro q
            have q1 := (zero_tb _).mp ((hy x).mpr (fun w => q (Or.inl w)))
            refine (zero_tb _).mpr (fun i hi => ?_)
            rw [hb i hi, q1 i hi, Bool.false_or]
            by_cases hik : i = k
            · subst hik
              have : tb x i = false := by
                cases hc : tb x i with
                | false => rfl
                | true => exact absurd (Or.inr ⟨hc, hw⟩) q
              rw [this, Bool.and_false]
            · rw [decide_eq_false hik, Bool.false_and]
theorem NP.start (r c : Int32) (m : Nat) : NP ν r c 0 m 0 := fun x => ⟨fun _ ⟨s, h1, _⟩ => by omega, fun _ => tb_ext (fun i _ => by rw [tb_and, tb_0, Bool.false_and])⟩
theorem find_loop (r c : Int32) : ∀ (z k f : Nat) (μ : Mem), TS 1 μ (ν 1) h nm ns nl nr nt tl → nm - k < z → k ≤ nm → z ≤ f → ∃ μ2, X9_findNear_2 f r c (nI k) μ = some μ2 ∧ (∀ a, a ≠ 87 → μ2 a = μ a) ∧ (∀ i, i < k → μ2 87 i = μ 87 i) ∧ ∀ i, k ≤ i → i < nm → NP ν r c ns i (μ2 87 i) := by
  have hFU := FU_ge
  intro z
  induction z with
  | zero => intro k f μ _ h; omega
  | succ z ih =>
    intro k f μ t hz hk hf
    have b := t.1
    have e1 : μ 1 6 = nI nm := t.2.2.1.1
    obtain ⟨f, rfl⟩ : ∃ f1, f = f1 + 1 := ⟨f - 1, by omega⟩
    rw [X9_findNear_2.eq_2, e1]
    by_cases hkn : k = nm
    · subst hkn
      rw [if_pos (by rw [i_le]; omega)]
      exact ⟨μ, rfl, fun _ _ => rfl, fun _ _ => rfl, fun i h1 h2 => by omega⟩
    · have hkm : k < nm := by omega
      obtain ⟨y, y1, y2⟩ := near_mask t hkm r c 100 0 FU 0 (by omega) (by omega) (by omega) (NP.start r c k)
      have y2' : X5_openWithin (24 + 2 * k) r c μ = some (y, μ) := y2
      rw [if_neg (nle hkm (by omega)), gd_pos (m8 hkm b.2.1).1, (m8 hkm b.2.1).2, ob2_of y2', gd_pos (m8 hkm b.2.1).1, lt_of, nI_1]
      obtain ⟨μ2, c1, c2, c3, c4⟩ := ih (k + 1) f (st μ 87 k y) (t.c (fun a q1 q2 q3 => st_other _ _ _ (by omega)) (fun _ _ => rfl)) (by omega) (by omega) (by omega)
      refine ⟨μ2, c1, fun a ha => (c2 a ha).trans (st_other _ _ _ ha), fun i hi => ?_, fun i h1 h2 => ?_⟩
      · rw [c3 i (by omega), st_ne (by omega)]
      · by_cases hik : i = k
        · subst hik
          rw [c3 _ (by omega), st_eq]
          exact y1
        · exact c4 i (by omega) h2
theorem reach_loop (t : TS 1 μ (ν 1) h nm ns nl nr nt tl) {m : Nat} (hm : m < nm) (r c x : Int32) : ∀ (z k f : Nat) (y : Int32), ns - k < z → k ≤ ns → z ≤ f → ((y = 1 ∧ RB ν r c k m x) ∨ (y = 0 ∧ ¬ RB ν r c k m x)) → ∃ y2, ((y2 = 1 ∧ RB ν r c ns m x) ∨ (y2 = 0 ∧ ¬ RB ν r c ns m x)) ∧ X10_reaches_6 f (nI m) r c x y (nI k) ν = some (y2, ν) := by
  have b := t.1
  have e1 : ν 1 2 = nI ns := t.2.2.2.1.2
  intro z
  induction z with
  | zero => intro k f y h; omega
  | succ z ih =>
    intro k f y hz hk hf hy
    obtain ⟨f, rfl⟩ : ∃ f1, f = f1 + 1 := ⟨f - 1, by omega⟩
    rw [X10_reaches_6.eq_2, e1]
    by_cases hkn : k = ns
    · subst hkn
      rw [if_pos (by rw [i_le]; omega), gd_pos (by rcases hy with ⟨q, -⟩ | ⟨q, -⟩ <;> simp [q])]
      exact ⟨y, hy, rfl⟩
    · have hkl : k < ns := by omega
      obtain ⟨z1, z2, g0, g1, g2, g3, g4, g5⟩ := ww_or t hm hkl r c
      rw [if_neg (nle hkl (by omega))]
      unfold X10_reaches_55 X10_reaches_56
      rw [nI_1]
      have o0 : y ||| 0 = y := tb_ext (fun i _ => by rw [tb_or, tb_0, Bool.or_false])
      have o1 : y ||| 1 = 1 := by
        rcases hy with ⟨q, -⟩ | ⟨q, -⟩ <;> rw [q] <;> decide
      rw [o0, o1]
      have stay : ¬ (tb x k = true ∧ WW ν r c m k) → ∃ y2, ((y2 = 1 ∧ RB ν r c ns m x) ∨ (y2 = 0 ∧ ¬ RB ν r c ns m x)) ∧ X10_reaches_6 f (nI m) r c x y (nI (k + 1)) ν = some (y2, ν) := fun hn => ih (k + 1) f y (by omega) (by omega) (by omega) (by
        rcases hy with ⟨q1, q2⟩ | ⟨q1, q2⟩
        · exact Or.inl ⟨q1, RB.up.mpr (Or.inl q2)⟩
        · exact Or.inr ⟨q1, fun w => (RB.up.mp w).elim q2 hn⟩)
      by_cases hb : (x >>> (nI k &&& 31)) &&& 1 = 1
      · rw [if_pos hb, ob2_of g2]
        by_cases h0 : z1 = 0
        · rw [if_pos h0]
          exact stay (fun w => by have := (g5.mp w.2).1; rw [h0] at this; exact absurd this (by decide))
        · have h1 : z1 = 1 := g0.resolve_left h0
          rw [if_neg h0, ob2_of g4]
          by_cases h2 : r < nI z2
          · rw [if_pos h2]
            exact stay (fun w => (g5.mp w.2).2 h2)
          · rw [if_neg h2]
            exact ih (k + 1) f 1 (by omega) (by omega) (by omega) (Or.inl ⟨rfl, RB.up.mpr (Or.inr ⟨(shr_n (by omega) x).mp hb, g5.mpr ⟨h1, h2⟩⟩)⟩)
      · rw [if_neg hb]
        exact stay (fun w => hb ((shr_n (by omega) x).mpr w.1))
theorem reach_ok (t : TS 1 μ (ν 1) h nm ns nl nr nt tl) {m : Nat} (hm : m < nm) (r c x : Int32) : ∃ y, ((y = 1 ∧ RB ν r c ns m x) ∨ (y = 0 ∧ ¬ RB ν r c ns m x)) ∧ X10_reaches (nI m) r c x ν = some (y, ν) := by
  have hFU := FU_ge
  have b := t.1
  exact reach_loop t hm r c x 100 0 FU 0 (by omega) (by omega) (by omega) (Or.inr ⟨rfl, fun ⟨s, h1, _⟩ => by omega⟩)
/-- bits of those that lack -/
def BP (n : Nat) (P : Nat → Prop) (y : Int32) : Prop := ∀ i, i < 32 → (tb y i = true ↔ i < n ∧ ¬ P i)
theorem BP.put {n : Nat} {P : Nat → Prop} {y : Int32} (hn : n < 8) (h : BP n P y) : (P n → BP (n + 1) P y) ∧ (¬ P n → BP (n + 1) P (y ||| 1 <<< (nI n &&& 31))) := by
  refine ⟨fun hp i hi => ?_, fun hp i hi => ?_⟩
  · rw [h i hi]
    constructor
    · exact fun ⟨q1, q2⟩ => ⟨by omega, q2⟩
    · rintro ⟨q1, q2⟩
      by_cases hin : i = n
      · subst hin
        exact absurd hp q2
      · exact ⟨by omega, q2⟩
  · rw [tb_or, tb_shl (by omega), Bool.or_eq_true, h i hi, decide_eq_true_iff]
    constructor
    · rintro (⟨q1, q2⟩ | q)
      · exact ⟨by omega, q2⟩
      · subst q
        exact ⟨by omega, hp⟩
    · rintro ⟨q1, q2⟩
      by_cases hin : i = n
      · exact Or.inr hin
      · exact Or.inl ⟨by omega, q2⟩
theorem BP.eq {n : Nat} {P Q : Nat → Prop} {y y2 : Int32} (hn : n ≤ 8) (h : BP n P y) (h2 : BP n Q y2) : y = y2 ↔ ∀ i, i < n → (P i ↔ Q i) := by
  constructor
  · intro q i hi
    subst q
    have a := h i (by omega)
    have b := h2 i (by omega)
    by_cases hp : P i
    · by_cases hq : Q i
      · exact ⟨fun _ => hq, fun _ => hp⟩
      · exact absurd hp (a.mp (b.mpr ⟨hi, hq⟩)).2
    · by_cases hq : Q i
      · exact absurd hq (b.mp (a.mpr ⟨hi, hp⟩)).2
      · exact ⟨fun w => absurd w hp, fun w => absurd w hq⟩
  · intro q
    refine tb_ext (fun i hi => ?_)
    have a := h i hi
    have b := h2 i hi
    have : tb y i = true ↔ tb y2 i = true := by
      rw [a, b]
      exact ⟨fun ⟨q1, q2⟩ => ⟨q1, fun w => q2 ((q i q1).mpr w)⟩, fun ⟨q1, q2⟩ => ⟨q1, fun w => q2 ((q i q1).mp w)⟩⟩
    cases hy : tb y i <;> cases hy2 : tb y2 i <;> simp_all
theorem lacks_loop (t : TS 1 μ (ν 1) h nm ns nl nr nt tl) (r c x : Int32) : ∀ (z k f : Nat) (y : Int32), nm - k < z → k ≤ nm → z ≤ f → BP k (fun m => RB ν r c ns m x) y → ∃ y2, BP nm (fun m => RB ν r c ns m x) y2 ∧ X10_lacks_6 f r c x y (nI k) ν = some (y2, ν) := by
  have b := t.1
  have e1 : ν 1 1 = nI nm := t.2.2.1.2
  intro z
  induction z with
  | zero => intro k f y h; omega
  | succ z ih =>
    intro k f y hz hk hf hy
    obtain ⟨f, rfl⟩ : ∃ f1, f = f1 + 1 := ⟨f - 1, by omega⟩
    rw [X10_lacks_6.eq_2, e1]
    by_cases hkn : k = nm
    · subst hkn
      rw [if_pos (by rw [i_le]; omega)]
      exact ⟨y, hy, rfl⟩
    · have hkl : k < nm := by omega
      obtain ⟨w, w1, w2⟩ := reach_ok t hkl r c x
      have o0 : y ||| 0 = y := tb_ext (fun i _ => by rw [tb_or, tb_0, Bool.or_false])
      rw [if_neg (nle hkl (by omega)), ob2_of w2]
      unfold X10_lacks_39
      rw [nI_1, o0]
      rcases w1 with ⟨rfl, w1⟩ | ⟨rfl, w1⟩
      · rw [if_neg (show ¬ (1 : Int32) = 0 by decide)]
        exact ih (k + 1) f y (by omega) (by omega) (by omega) ((BP.put (by omega) hy).1 w1)
      · rw [if_pos (show (0 : Int32) = 0 from rfl)]
        exact ih (k + 1) f _ (by omega) (by omega) (by omega) ((BP.put (by omega) hy).2 w1)
theorem lacks_ok (t : TS 1 μ (ν 1) h nm ns nl nr nt tl) (r c x : Int32) : ∃ y, BP nm (fun m => RB ν r c ns m x) y ∧ X10_lacks r c x ν = some (y, ν) := by
  have hFU := FU_ge
  have b := t.1
  exact lacks_loop t r c x 100 0 FU 0 (by omega) (by omega) (by omega) (fun i _ => by rw [tb_0]; exact ⟨fun q => (by cases q), fun q => absurd q.1 (by omega)⟩)
theorem far_loop (t : TS 1 μ (ν 1) h nm ns nl nr nt tl) (r c x : Int32) (hN : ∀ i, i < nm → NP ν r c ns i (μ 87 i)) : ∀ (z k f f2 : Nat) (y : Int32), nm - k < z → k ≤ nm → z ≤ f → z ≤ f2 → ∃ y2, X9_far_32 f x y (nI k) μ = some (y2, μ) ∧ X10_lacks_6 f2 r c x y (nI k) ν = some (y2, ν) := by
  have b := t.1
  have e1 : μ 1 6 = nI nm := t.2.2.1.1
  have e2 : ν 1 1 = nI nm := t.2.2.1.2
  intro z
  induction z with
  | zero => intro k f f2 y h; omega
  | succ z ih =>
    intro k f f2 y hz hk hf hf2
    obtain ⟨f, rfl⟩ : ∃ f1, f = f1 + 1 := ⟨f - 1, by omega⟩
    obtain ⟨f2, rfl⟩ : ∃ f1, f2 = f1 + 1 := ⟨f2 - 1, by omega⟩
    rw [X9_far_32.eq_2, X10_lacks_6.eq_2, e1, e2]
    by_cases hkn : k = nm
    · subst hkn
      rw [if_pos (by rw [i_le]; omega), if_pos (by rw [i_le]; omega)]
      exact ⟨y, rfl, rfl⟩
    · have hkl : k < nm := by omega
      obtain ⟨w, w1, w2⟩ := reach_ok t hkl r c x
      have o0 : y ||| 0 = y := tb_ext (fun i _ => by rw [tb_or, tb_0, Bool.or_false])
      rw [if_neg (nle hkl (by omega)), if_neg (nle hkl (by omega)), gd_pos (m8 hkl b.2.1).1, (m8 hkl b.2.1).2, ob2_of w2]
      unfold X9_far_65 X10_lacks_39
      rw [nI_1, o0]
      rcases w1 with ⟨rfl, w1⟩ | ⟨rfl, w1⟩
      · rw [if_neg (fun q => (hN k hkl x).mp q w1), if_neg (show ¬ (1 : Int32) = 0 by decide)]
        exact ih (k + 1) f f2 _ (by omega) (by omega) (by omega) (by omega)
      · rw [if_pos ((hN k hkl x).mpr w1), if_pos (show (0 : Int32) = 0 from rfl)]
        exact ih (k + 1) f f2 _ (by omega) (by omega) (by omega) (by omega)
theorem isReach_rg (x : Int32) (m : Mem) : X9_isReach x m = some (rg x 0 60, m) := in_rg x 0 60 m
theorem op_far (a0 a1 a2 : Int32) (hS : Sim j μ ν) : ∃ r μ2 ν2, X9_far a0 a1 a2 μ = some (r, μ2) ∧ X10_far a0 a1 a2 ν = some (r, ν2) ∧ Sim (j + 1) μ2 ν2 := by
  obtain ⟨⟨h, nm, ns, nl, nr, nt, tl, t⟩, o⟩ := id hS
  have hFU := FU_ge
  have b := t.1
  unfold X9_far X10_far
  rw [ob2_of (isReach_rg _ _), ob2_of (in_r (a := 0) (b := 60) (by decide) (by decide) _)]
  rcases rg_cases a0 0 60 with ⟨r, -⟩ | ⟨r, -, -⟩
  · rw [r, if_pos (show (0 : Int32) = 0 from rfl), if_pos (show (0 : Int32) = 0 from rfl)]
    exact find_ok hS 1 (by decide)
  · rw [r, if_neg (show ¬ (1 : Int32) = 0 by decide), if_neg (show ¬ (1 : Int32) = 0 by decide), ob2_of (isClock_rg _ _), ob2_of (in_r (a := 0) (b := 23) (by decide) (by decide) _)]
    rcases rg_cases a1 0 23 with ⟨r, -⟩ | ⟨r, -, -⟩
    · rw [r, if_pos (show (0 : Int32) = 0 from rfl), if_pos (show (0 : Int32) = 0 from rfl)]
      exact find_ok hS 1 (by decide)
    · obtain ⟨μ2, c1, c2, -, c4⟩ := find_loop (ν := ν) a0 a1 100 0 FU μ t (by omega) (by omega) (by omega)
      have c1' : X9_findNear a0 a1 μ = some μ2 := c1
      have t2 : TS 1 μ2 (ν 1) h nm ns nl nr nt tl := t.c (fun a q1 q2 q3 => c2 a (by omega)) (fun _ _ => rfl)
      obtain ⟨y, y1, y2⟩ := far_loop t2 a0 a1 a2 (fun i hi => c4 i (by omega) hi) 100 0 FU FU 0 (by omega) (by omega) (by omega) (by omega)
      have y1' : X9_far_32 FU a2 0 0 μ2 = some (y, μ2) := y1
      have y2' : X10_lacks a0 a1 a2 ν = some (y, ν) := y2
      rw [r, if_neg (show ¬ (1 : Int32) = 0 by decide), if_neg (show ¬ (1 : Int32) = 0 by decide), ob_of c1', y1', ob2_of y2']
      exact ⟨_, _, _, rfl, rfl, hS.sc (fun a ha => c2 a (by omega)) rfl (FrM.rf ν)⟩
/-! the fewest shops -/
def SV (ν : Mem) (r c : Int32) (ns nm : Nat) (x : Int32) : Prop := ∀ m, m < nm → RB ν r c ns m (-1) → RB ν r c ns m x
theorem tb_m1 {i : Nat} (hi : i < 32) : tb (-1) i = true := by
  have : ∀ i, i < 32 → tb (-1) i = true := by decide
  exact this i hi
theorem serves_loop (t : TS 1 μ (ν 1) h nm ns nl nr nt tl) (r c x : Int32) (hN : ∀ i, i < nm → NP ν r c ns i (μ 87 i)) : ∀ (z k f : Nat), nm - k < z → k ≤ nm → z ≤ f → (∀ m, m < k → RB ν r c ns m (-1) → RB ν r c ns m x) → ∃ y, X9_servesAll_2 f x (nI k) μ = some (y, μ) ∧ ((y = 1 ∧ SV ν r c ns nm x) ∨ (y = 0 ∧ ¬ SV ν r c ns nm x)) := by
  have b := t.1
  have e1 : μ 1 6 = nI nm := t.2.2.1.1
  have em : ∀ y : Int32, y &&& (-1) = y := fun y => tb_ext (fun i hi => by rw [tb_and, tb_m1 hi, Bool.and_true])
  intro z
  induction z with
  | zero => intro k f h; omega
  | succ z ih =>
    intro k f hz hk hf hv
    obtain ⟨f, rfl⟩ : ∃ f1, f = f1 + 1 := ⟨f - 1, by omega⟩
    rw [X9_servesAll_2.eq_2, e1]
    by_cases hkn : k = nm
    · subst hkn
      rw [if_pos (by rw [i_le]; omega)]
      exact ⟨1, rfl, Or.inl ⟨rfl, hv⟩⟩
    · have hkl : k < nm := by omega
      rw [if_neg (nle hkl (by omega)), gd_pos (m8 hkl b.2.1).1, gd_pos (m8 hkl b.2.1).1, (m8 hkl b.2.1).2]
      unfold X9_servesAll_35
      rw [nI_1]
      have n1 := hN k hkl (-1)
      rw [em] at n1
      have n2 := hN k hkl x
      have go : (RB ν r c ns k (-1) → RB ν r c ns k x) → ∃ y, X9_servesAll_2 f x (nI (k + 1)) μ = some (y, μ) ∧ ((y = 1 ∧ SV ν r c ns nm x) ∨ (y = 0 ∧ ¬ SV ν r c ns nm x)) := fun q => ih (k + 1) f (by omega) (by omega) (by omega) (fun m hm => by
        by_cases hmk : m = k
        · subst hmk
          exact q
        · exact hv m (by omega))
      by_cases h0 : μ 87 k = 0
      · rw [if_pos h0]
        exact go (fun w => absurd w (n1.mp h0))
      · rw [if_neg h0]
        by_cases h1 : μ 87 k &&& x = 0
        · rw [if_pos h1]
          exact ⟨0, rfl, Or.inr ⟨rfl, fun w => n2.mp h1 (w k hkl (Classical.byContradiction (fun q => h0 (n1.mpr q))))⟩⟩
        · rw [if_neg h1]
          exact go (fun _ => Classical.byContradiction (fun q => h1 (n2.mpr q)))
theorem SV.mod {r c : Int32} {k : Nat} (hns : ns ≤ 8) (h : SV ν r c ns nm (nI k)) : SV ν r c ns nm (nI (k % 2 ^ ns)) := by
  intro m hm w
  obtain ⟨s, h1, h2, h3⟩ := h m hm w
  refine ⟨s, h1, ?_, h3⟩
  rw [tb_nI] at h2 ⊢
  rw [Nat.testBit_mod_two_pow, decide_eq_true h1, Bool.true_and]
  exact h2
theorem SV.full {r c : Int32} (hns : ns ≤ 8) : SV ν r c ns nm (nI (2 ^ ns - 1)) := by
  intro m hm ⟨s, h1, h2, h3⟩
  refine ⟨s, h1, ?_, h3⟩
  rw [tb_nI, Nat.testBit_two_pow_sub_one, decide_eq_true h1, decide_eq_true (show s < 32 by omega)]
  rfl
/-- how far the search has come -/
def FJ (ν : Mem) (r c : Int32) (ns nm k : Nat) (cb cc mb : Nat) : Prop := (cc = 9 ∧ cb = 0 ∧ mb = 255 ∧ ∀ m, m < k → ¬ SV ν r c ns nm (nI m)) ∨ (cb = mb ∧ cc = pc cb ∧ cb < 256 ∧ ∀ m, m < k → SV ν r c ns nm (nI m) → pc cb ≤ pc m)
theorem few_tail (t : TS 1 μ (ν 1) h nm ns nl nr nt tl) (r c R : Int32) {cb : Nat} (hcb : cb < 256) (hR : ∀ k, k < 256 → ∃ y, X10_lacks r c (nI k) ν = some (y, ν) ∧ (y = R ↔ SV ν r c ns nm (nI k))) (hmin : ∀ m, m < 2 ^ ns → SV ν r c ns nm (nI m) → pc cb ≤ pc m) : ∀ (z k f : Nat), 256 - k < z → k ≤ 256 → z ≤ f → X10_fewest_44 f r c R (nI cb) (nI k) ν = some (nI cb, ν) := by
  have b := t.1
  intro z
  induction z with
  | zero => intro k f h; omega
  | succ z ih =>
    intro k f hz hk hf
    obtain ⟨f, rfl⟩ : ∃ f1, f = f1 + 1 := ⟨f - 1, by omega⟩
    rw [X10_fewest_44.eq_2]
    by_cases hkn : k = 256
    · subst hkn
      rw [if_pos (show (256 : Int32) ≤ nI 256 by decide)]
    · have hk2 : k < 256 := by omega
      obtain ⟨y, y1, y2⟩ := hR k hk2
      have p1 := pc_le k
      have p2 := pc_le cb
      rw [if_neg (show ¬ (256 : Int32) ≤ nI k from nle (b := 256) (by omega) (by decide)), ob2_of (ones_S _ _), ob2_of (ones_S _ _), S10_pc k hk2, S10_pc cb hcb]
      unfold X10_fewest_82 X10_fewest_84
      rw [nI_1, ih (k + 1) f (by omega) (by omega) (by omega)]
      by_cases h1 : pc cb ≤ pc k
      · rw [if_pos (nI_le h1 (by omega))]
      · have hne : ¬ y = R := fun q => by
          have hsv := (SV.mod (show ns ≤ 8 by omega) (y2.mp q))
          have := hmin (k % 2 ^ ns) (Nat.mod_lt _ (Nat.two_pow_pos ns)) hsv
          have := pc_mod ns (by omega) k hk2
          omega
        rw [if_neg (fun q => h1 ((nI_leI (by omega) (by omega)).mp q)), ob2_of y1, if_neg hne]
        exact ih (k + 1) f (by omega) (by omega) (by omega)
theorem few_loop (t : TS 1 μ (ν 1) h nm ns nl nr nt tl) (r c R : Int32) (hN : ∀ i, i < nm → NP ν r c ns i (μ 87 i)) (hR : ∀ k, k < 256 → ∃ y, X10_lacks r c (nI k) ν = some (y, ν) ∧ (y = R ↔ SV ν r c ns nm (nI k))) : ∀ (z k f f2 cb cc mb : Nat), 2 ^ ns - k < z → k ≤ 2 ^ ns → z ≤ f → z + 300 ≤ f2 → FJ ν r c ns nm k cb cc mb → mb < 256 → ∃ y, X9_fewest_35 f (nI cb) (nI cc) (nI k) μ = some (y, μ) ∧ X10_fewest_44 f2 r c R (nI mb) (nI k) ν = some (y, ν) := by
  have hFU := FU_ge
  have b := t.1
  have e1 : μ 3 4 = nI ns := t.2.2.2.1.1
  have h256 : 2 ^ ns ≤ 256 := Nat.pow_le_pow_right (n := 2) (by decide) (show ns ≤ 8 by omega)
  have hpos : 0 < 2 ^ ns := Nat.two_pow_pos ns
  intro z
  induction z with
  | zero => intro k f f2 cb cc mb h; omega
  | succ z ih =>
    intro k f f2 cb cc mb hz hk hf hf2 hJ hmb
    obtain ⟨f, rfl⟩ : ∃ f1, f = f1 + 1 := ⟨f - 1, by omega⟩
    rw [X9_fewest_35.eq_2, e1, shl_n (show ns ≤ 8 by omega)]
    by_cases hkn : k = 2 ^ ns
    · rw [if_pos (by rw [i_le, hkn]; omega)]
      rcases hJ with ⟨-, -, -, q⟩ | ⟨rfl, q1, q2, q3⟩
      · exact absurd (SV.full (show ns ≤ 8 by omega)) (q (2 ^ ns - 1) (by omega))
      · refine ⟨_, rfl, ?_⟩
        exact few_tail t r c R q2 hR (fun m hm => q3 m (by omega)) 300 k f2 (by omega) (by omega) (by omega)
    · have hk2 : k < 256 := by omega
      obtain ⟨f2, rfl⟩ : ∃ f1, f2 = f1 + 1 := ⟨f2 - 1, by omega⟩
      obtain ⟨y, y1, y2⟩ := hR k hk2
      obtain ⟨w, w1, w2⟩ := serves_loop t r c (nI k) hN 100 0 FU (by omega) (by omega) (by omega) (fun m hm => by omega)
      have w1' : X9_servesAll (nI k) μ = some (w, μ) := w1
      have p1 := pc_le k
      have p3 := pc_le mb
      have hcc : cc ≤ 9 := by
        rcases hJ with ⟨q, -⟩ | ⟨-, q, -⟩
        · omega
        · have := pc_le cb; omega
      rw [if_neg (nle (show k < 2 ^ ns by omega) (by omega)), X10_fewest_44.eq_2, if_neg (show ¬ (256 : Int32) ≤ nI k from nle (b := 256) (by omega) (by decide)), ob2_of (bc_pc _ k hk2), ob2_of w1', ob2_of (bc_pc _ k hk2), ob2_of (ones_S _ _), ob2_of (ones_S _ _), S10_pc k hk2, S10_pc mb hmb, ob2_of y1]
      unfold X9_fewest_81 X10_fewest_82 X10_fewest_84
      rw [nI_1]
      have cst : ¬ (cc ≤ pc k) ↔ ¬ nI cc ≤ nI (pc k) := by rw [nI_leI (by omega) (by omega)]
      have mst : ¬ (pc mb ≤ pc k) ↔ ¬ nI (pc mb) ≤ nI (pc k) := by rw [nI_leI (by omega) (by omega)]
      by_cases hsv : SV ν r c ns nm (nI k)
      · have hw : w = 1 := by
          rcases w2 with ⟨q, -⟩ | ⟨-, q⟩
          · exact q
          · exact absurd hsv q
        rw [hw, if_neg (show ¬ (1 : Int32) = 0 by decide), if_pos (y2.mpr hsv)]
        rcases hJ with ⟨rfl, rfl, rfl, q⟩ | ⟨rfl, rfl, q2, q3⟩
        · rw [if_neg (cst.mp (by omega))]
          have pm : pc 255 = 8 := by decide
          have J2 : FJ ν r c ns nm (k + 1) k (pc k) k := Or.inr ⟨rfl, rfl, hk2, fun m hm hs => by
            by_cases hmk : m = k
            · subst hmk; omega
            · exact absurd hs (q m (by omega))⟩
          by_cases h8 : pc k = 8
          · have hk255 := pc_8 k hk2 h8
            rw [if_pos (by rw [pm, h8, i_le]; omega)]
            rw [← hk255]
            exact ih (k + 1) f f2 k (pc k) k (by omega) (by omega) (by omega) (by omega) J2 hk2
          · rw [if_neg (mst.mp (by omega))]
            exact ih (k + 1) f f2 k (pc k) k (by omega) (by omega) (by omega) (by omega) J2 hk2
        · by_cases hle : pc cb ≤ pc k
          · rw [if_pos (nI_le hle (by omega)), if_pos (nI_le hle (by omega))]
            exact ih (k + 1) f f2 cb (pc cb) cb (by omega) (by omega) (by omega) (by omega) (Or.inr ⟨rfl, rfl, q2, fun m hm hs => by
              by_cases hmk : m = k
              · subst hmk; exact hle
              · exact q3 m (by omega) hs⟩) q2
          · rw [if_neg (cst.mp hle), if_neg (mst.mp hle)]
            exact ih (k + 1) f f2 k (pc k) k (by omega) (by omega) (by omega) (by omega) (Or.inr ⟨rfl, rfl, hk2, fun m hm hs => by
              by_cases hmk : m = k
              · subst hmk; omega
              · have := q3 m (by omega) hs; omega⟩) hk2
      · have hw : w = 0 := by
          rcases w2 with ⟨-, q⟩ | ⟨q, -⟩
          · exact absurd q hsv
          · exact q
        have J2 : FJ ν r c ns nm (k + 1) cb cc mb := by
          rcases hJ with ⟨q1, q2, q3, q⟩ | ⟨q1, q2, q3, q⟩
          · exact Or.inl ⟨q1, q2, q3, fun m hm => by
              by_cases hmk : m = k
              · subst hmk; exact hsv
              · exact q m (by omega)⟩
          · exact Or.inr ⟨q1, q2, q3, fun m hm hs => by
              by_cases hmk : m = k
              · subst hmk; exact absurd hs hsv
              · exact q m (by omega) hs⟩
        obtain ⟨u, u1, u2⟩ := ih (k + 1) f f2 cb cc mb (by omega) (by omega) (by omega) (by omega) J2 hmb
        refine ⟨u, ?_, ?_⟩
        · rw [hw, if_pos (show (0 : Int32) = 0 from rfl), u1]
          split <;> rfl
        · rw [if_neg (fun q => hsv (y2.mp q)), u2]
          split <;> rfl
theorem op_fewest (a0 a1 : Int32) (hS : Sim j μ ν) : ∃ r μ2 ν2, X9_fewest a0 a1 μ = some (r, μ2) ∧ X10_fewest a0 a1 ν = some (r, ν2) ∧ Sim (j + 1) μ2 ν2 := by
  obtain ⟨⟨h, nm, ns, nl, nr, nt, tl, t⟩, o⟩ := id hS
  have hFU := FU_ge
  have b := t.1
  unfold X9_fewest X10_fewest
  rw [ob2_of (isReach_rg _ _), ob2_of (in_r (a := 0) (b := 60) (by decide) (by decide) _)]
  rcases rg_cases a0 0 60 with ⟨r, -⟩ | ⟨r, -, -⟩
  · rw [r, if_pos (show (0 : Int32) = 0 from rfl), if_pos (show (0 : Int32) = 0 from rfl)]
    exact find_ok hS 1 (by decide)
  · rw [r, if_neg (show ¬ (1 : Int32) = 0 by decide), if_neg (show ¬ (1 : Int32) = 0 by decide), ob2_of (isClock_rg _ _), ob2_of (in_r (a := 0) (b := 23) (by decide) (by decide) _)]
    rcases rg_cases a1 0 23 with ⟨r, -⟩ | ⟨r, -, -⟩
    · rw [r, if_pos (show (0 : Int32) = 0 from rfl), if_pos (show (0 : Int32) = 0 from rfl)]
      exact find_ok hS 1 (by decide)
    · obtain ⟨μ2, c1, c2, -, c4⟩ := find_loop (ν := ν) a0 a1 100 0 FU μ t (by omega) (by omega) (by omega)
      have c1' : X9_findNear a0 a1 μ = some μ2 := c1
      have t2 : TS 1 μ2 (ν 1) h nm ns nl nr nt tl := t.c (fun a q1 q2 q3 => c2 a (by omega)) (fun _ _ => rfl)
      obtain ⟨R, R1, R2⟩ := lacks_ok t a0 a1 255
      have rb : ∀ m, RB ν a0 a1 ns m 255 ↔ RB ν a0 a1 ns m (-1) := fun m => by
        have e : ∀ s, s < 8 → tb 255 s = true := by decide
        exact ⟨fun ⟨s, h1, h2, h3⟩ => ⟨s, h1, tb_m1 (by omega), h3⟩, fun ⟨s, h1, h2, h3⟩ => ⟨s, h1, e s (by omega), h3⟩⟩
      have hR : ∀ k, k < 256 → ∃ y, X10_lacks a0 a1 (nI k) ν = some (y, ν) ∧ (y = R ↔ SV ν a0 a1 ns nm (nI k)) := fun k hk => by
        obtain ⟨y, y1, y2⟩ := lacks_ok t a0 a1 (nI k)
        refine ⟨y, y2, ?_⟩
        rw [BP.eq (by omega) y1 R1]
        constructor
        · intro q m hm w
          exact (q m hm).mpr ((rb m).mpr w)
        · intro q m hm
          exact ⟨fun ⟨s, h1, h2, h3⟩ => (rb m).mpr ⟨s, h1, tb_m1 (by omega), h3⟩, fun w => q m hm ((rb m).mp w)⟩
      have h256 : 2 ^ ns ≤ 256 := Nat.pow_le_pow_right (n := 2) (by decide) (show ns ≤ 8 by omega)
      have hpos : 0 < 2 ^ ns := Nat.two_pow_pos ns
      obtain ⟨y, y1, y2⟩ := few_loop t2 a0 a1 R (fun i hi => c4 i (by omega) hi) hR 300 0 FU FU 0 9 255 (by omega) (by omega) (by omega) (by omega) (Or.inl ⟨rfl, rfl, rfl, fun m hm => by omega⟩) (by omega)
      have y1' : X9_fewest_35 FU 0 9 0 μ2 = some (y, μ2) := y1
      have y2' : X10_fewest_44 FU a0 a1 R 255 0 ν = some (y, ν) := y2
      rw [r, if_neg (show ¬ (1 : Int32) = 0 by decide), if_neg (show ¬ (1 : Int32) = 0 by decide), ob_of c1', y1', ob2_of R2, y2']
      exact ⟨_, _, _, rfl, rfl, hS.sc (fun a ha => c2 a (by omega)) rfl (FrM.rf ν)⟩
end MK
