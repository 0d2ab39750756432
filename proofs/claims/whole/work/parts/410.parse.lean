/-! what codes come to, on a stack -/
abbrev isNm (c : Int32) : Prop := (-122 : Int32) ≤ c ∧ c ≤ (-97 : Int32)
def jn (a o b : Int32) : Int32 := if o = 38 then (if a = 0 then 0 else if b = 0 then 0 else 1) else if o = 42 then a * b else if o = 43 then a + b else if o = 45 then a - b else if o = 60 then (if b ≤ a then 0 else 1) else if o = 61 then (if a = b then 1 else 0) else if o = 62 then (if a ≤ b then 0 else 1) else if o = 124 then (if a = 0 then (if b = 0 then 0 else 1) else 1) else if b = 0 then 0 else a / b
def nmv (env : Nat → Int32) (o : Int32) : Int32 := if o = 99 then env 5 else if o = 100 then env 1 else if o = 104 then env 0 else if o = 107 then env 3 else if o = 111 then env 4 else if o = 117 then env 2 else env 6
def rnot : List Int32 → List Int32
  | a :: t => (if a = 0 then 1 else 0) :: t
  | [] => []
def rjoin (o : Int32) : List Int32 → List Int32
  | b :: a :: t => jn a o b :: t
  | s => s
def rst (env : Nat → Int32) (s : List Int32) (c : Int32) : List Int32 := if (0 ≤ c ∨ isNm c) ∧ s.length < 60 then (if isNm c then nmv env (-c) else c) :: s else if c = -33 ∧ 1 ≤ s.length then rnot s else rjoin (-c) s
def rp (env : Nat → Int32) (cs : List Int32) (s : List Int32) : List Int32 := cs.foldl (rst env) s
theorem rp_app (env : Nat → Int32) (a b s : List Int32) : rp env (a ++ b) s = rp env b (rp env a s) := List.foldl_append
def app (cd : Nat → Int32) (cnt : Nat) : List Int32 → Nat → Int32
  | [] => cd
  | c :: cs => app (upd cd cnt c) (cnt + 1) cs
theorem app_app (cs ds : List Int32) : ∀ (cd : Nat → Int32) (cnt : Nat), app cd cnt (cs ++ ds) = app (app cd cnt cs) (cnt + cs.length) ds := by
  induction cs with
  | nil => intro cd cnt; rfl
  | cons c cs ih =>
    intro cd cnt
    show app (upd cd cnt c) (cnt + 1) (cs ++ ds) = app (app (upd cd cnt c) (cnt + 1) cs) (cnt + (cs.length + 1)) ds
    rw [ih, show cnt + 1 + cs.length = cnt + (cs.length + 1) by omega]
theorem app_one (cd : Nat → Int32) (cnt : Nat) (c : Int32) : app cd cnt [c] = upd cd cnt c := rfl
/-- a stretch of codes leaves one number more -/
def Rp (cs : List Int32) (v : (Nat → Int32) → Int32) : Prop := 1 ≤ cs.length ∧ ∀ env s, s.length + cs.length ≤ 60 → rp env cs s = v env :: s
def opr (o : Nat) : Prop := o = 38 ∨ o = 42 ∨ o = 43 ∨ o = 45 ∨ o = 47 ∨ o = 60 ∨ o = 61 ∨ o = 62 ∨ o = 124
theorem rst_op {env : Nat → Int32} {a b : Int32} {s : List Int32} {o : Nat} (h : opr o) : rst env (b :: a :: s) (-(nI o)) = jn a (nI o) b :: s := by
  unfold rst
  have e : -(-(nI o)) = nI o := Int32.neg_neg
  rw [if_neg ?_, if_neg ?_, e]
  · rfl
  · rcases h with rfl | rfl | rfl | rfl | rfl | rfl | rfl | rfl | rfl <;> exact fun q => absurd q.1 (by decide)
  · rcases h with rfl | rfl | rfl | rfl | rfl | rfl | rfl | rfl | rfl <;> exact fun q => absurd q.1 (by decide)
theorem Rp_bin {cs ds : List Int32} {v w : (Nat → Int32) → Int32} {o : Nat} (ho : opr o) (h1 : Rp cs v) (h2 : Rp ds w) : Rp (cs ++ (ds ++ [-(nI o)])) (fun env => jn (v env) (nI o) (w env)) := by
  refine ⟨by simp; omega, fun env s hs => ?_⟩
  simp only [List.length_append, List.length_cons, List.length_nil] at hs
  have := h1.1
  rw [rp_app, rp_app, h1.2 env s (by omega), h2.2 env (v env :: s) (by simp; omega)]
  exact rst_op ho
/-- a reader's part: from a place on, without a fault so far -/
def NT (μ : Mem) (B : Nat → Nat) (n op i : Nat) (Fc : Mem → Option Mem) (Fm : Mem → Option (Int32 × Mem)) : Prop :=
  ∃ (j : Nat) (bad : Bool) (cs : List Int32) (v : (Nat → Int32) → Int32), i ≤ j ∧ j ≤ n ∧ (bad = false → i < j ∧ cs.length + i ≤ j ∧ Rp cs v) ∧
    (∀ cnt cd, cnt ≤ i → ∃ ft cnt2 cd2, Fc (CM μ i (-1) cnt cd) = some (CM μ j ft cnt2 cd2) ∧ cnt2 + i ≤ cnt + j ∧ (bad = true → stk B n j ft) ∧ (bad = false → ft = -1 ∧ cnt2 = cnt + cs.length ∧ cd2 = app cd cnt cs)) ∧
    (∀ ν fr, MOK ν B n fr → ∃ w, Fm (MM ν i op false) = some (w, MM ν j op bad) ∧ (bad = false → w = v (ν 5)))
theorem pk_op {B : Nat → Nat} {n i : Nat} (hB : ∀ j, B j < 256) {o : Nat} (ho : o < 256) (h : pk B n i = nI o) : i < n ∧ B i = o := by
  unfold pk at h
  by_cases hi : i < n
  · rw [if_pos hi] at h
    have h2 := congrArg Int32.toInt h
    have := hB i
    rw [i_n _ (by omega), i_n _ (by omega)] at h2
    exact ⟨hi, by omega⟩
  · rw [if_neg hi] at h
    have h2 := congrArg Int32.toInt h
    rw [i_n _ (by omega)] at h2
    have e : (-1 : Int32).toInt = -1 := by decide
    omega
theorem opr_lt {o : Nat} (h : opr o) : (o < 48 ∨ (57 < o ∧ o < 256)) ∧ o < 256 := by
  unfold opr at h
  omega
/-- a row of parts joined by signs, from left to right -/
theorem loopNT {μ : Mem} {B : Nat → Nat} {n op : Nat} (hC : COK μ B n) (ops : Nat → Prop) (hops : ∀ o, ops o → opr o) {Nc : Mem → Option Mem} {Nm : Mem → Option (Int32 × Mem)} (hN : ∀ i, i ≤ n → NT μ B n op i Nc Nm) {Lc : Nat → Nat → Mem → Option Mem} {Lm : Nat → Int32 → Mem → Option (Int32 × Mem)}
    (c_stop : ∀ f k i ft cnt cd z, k < 60 → X0_next (CM μ i ft cnt cd) = some (z, CM μ i ft cnt cd) → (∀ o, ops o → ¬ z = nI o) → Lc (f + 1) k (CM μ i ft cnt cd) = some (CM μ i ft cnt cd))
    (c_go : ∀ f k i ft cnt cd o, k < 60 → ops o → X0_next (CM μ i ft cnt cd) = some (nI o, CM μ i ft cnt cd) → Lc (f + 1) k (CM μ i ft cnt cd) = ob (Nc (CM μ (i + 1) ft cnt cd)) fun μ1 => ob (X0_emit (-(nI o)) μ1) fun μ2 => Lc f (k + 1) μ2)
    (m_stop : ∀ f v ν i bad z, X10_byteAt (MM ν i op bad) = some (z, MM ν i op bad) → (∀ o, ops o → ¬ z = nI o) → Lm (f + 1) v (MM ν i op bad) = some (v, MM ν i op bad))
    (m_go : ∀ f v ν i bad o, ops o → X10_byteAt (MM ν i op bad) = some (nI o, MM ν i op bad) → Lm (f + 1) v (MM ν i op bad) = ob2 (Nm (MM ν (i + 1) op bad)) fun w ν1 => Lm f (jn v (nI o) w) ν1) :
    ∀ (m i0 i k f : Nat) (cs : List Int32) (v : (Nat → Int32) → Int32), n - i < m → m ≤ f → i0 < i → i ≤ n → k < i → cs.length + i0 ≤ i → Rp cs v →
      ∃ (j : Nat) (bad : Bool) (cs2 : List Int32) (v2 : (Nat → Int32) → Int32), i ≤ j ∧ j ≤ n ∧ (bad = false → cs2.length + i0 ≤ j ∧ Rp cs2 v2) ∧
        (∀ cnt cd, cnt ≤ i0 → ∃ ft cnt2 cd2, Lc f k (CM μ i (-1) (cnt + cs.length) (app cd cnt cs)) = some (CM μ j ft cnt2 cd2) ∧ cnt2 + i0 ≤ cnt + j ∧ (bad = true → stk B n j ft) ∧ (bad = false → ft = -1 ∧ cnt2 = cnt + cs2.length ∧ cd2 = app cd cnt cs2)) ∧
        (∀ ν fr, MOK ν B n fr → ∃ w, Lm f (v (ν 5)) (MM ν i op false) = some (w, MM ν j op bad) ∧ (bad = false → w = v2 (ν 5))) := by
  have hn60 := hC.2.2.1
  have hB := hC.2.2.2.2
  intro m
  induction m with
  | zero => intro i0 i k f cs v h; omega
  | succ m ih =>
    intro i0 i k f cs v hm hf hi0 hi hk hcs hR
    obtain ⟨f, rfl⟩ : ∃ f1, f = f1 + 1 := ⟨f - 1, by omega⟩
    by_cases hop : ∃ o, ops o ∧ pk B n i = nI o
    · obtain ⟨o, ho, hpk⟩ := hop
      have hol := opr_lt (hops o ho)
      have hin := (pk_op hB hol.2 hpk).1
      obtain ⟨j, bad, ds, w, hij, hjn, hgood, hcl, hmo⟩ := hN (i + 1) (by omega)
      cases bad with
      | true =>
        refine ⟨j, true, [], fun _ => 0, by omega, hjn, fun h => (by cases h), fun cnt cd hcnt => ?_, fun ν fr hν => ?_⟩
        · obtain ⟨ft, cnt2, cd2, e1, e2, e3, -⟩ := hcl (cnt + cs.length) (app cd cnt cs) (by omega)
          have hst := e3 rfl
          obtain ⟨z, hz, hnz⟩ := next_stk (cnt := cnt2 + 1) (cd := upd cd2 cnt2 (-(nI o))) hC hjn hst
          refine ⟨ft, cnt2 + 1, upd cd2 cnt2 (-(nI o)), ?_, by omega, fun _ => hst, fun h => (by cases h)⟩
          rw [c_go f k i (-1) _ _ o (by omega) ho (by rw [next_good hC (by omega), hpk]), ob_of e1, ob_of (emit_ok (by omega))]
          obtain ⟨f2, rfl⟩ : ∃ f1, f = f1 + 1 := ⟨f - 1, by omega⟩
          exact c_stop f2 (k + 1) j ft _ _ z (by omega) hz (fun o2 ho2 => noop_ne hnz (opr_lt (hops o2 ho2)).1)
        · obtain ⟨x, e1, -⟩ := hmo ν fr hν
          refine ⟨jn (v (ν 5)) (nI o) x, ?_, fun h => (by cases h)⟩
          rw [m_go f _ ν i false o ho (by rw [byte_good hν (by omega), hpk]), ob2_of e1]
          obtain ⟨f2, rfl⟩ : ∃ f1, f = f1 + 1 := ⟨f - 1, by omega⟩
          exact m_stop f2 _ ν j true (-1) byte_bad (fun o2 ho2 => noop_ne (Or.inl rfl) (opr_lt (hops o2 ho2)).1)
      | false =>
        obtain ⟨g1, g2, g3⟩ := hgood rfl
        obtain ⟨j2, bad2, cs2, v2, a1, a2, a3, a4, a5⟩ := ih i0 j (k + 1) f (cs ++ (ds ++ [-(nI o)])) (fun env => jn (v env) (nI o) (w env)) (by omega) (by omega) (by omega) hjn (by omega) (by simp; omega) (Rp_bin (hops o ho) hR g3)
        refine ⟨j2, bad2, cs2, v2, by omega, a2, a3, fun cnt cd hcnt => ?_, fun ν fr hν => ?_⟩
        · obtain ⟨ft, cnt2, cd2, e1, e2, -, e4⟩ := hcl (cnt + cs.length) (app cd cnt cs) (by omega)
          obtain ⟨rfl, rfl, rfl⟩ := e4 rfl
          obtain ⟨ft2, cnt3, cd3, b1, b2⟩ := a4 cnt cd hcnt
          refine ⟨ft2, cnt3, cd3, ?_, b2⟩
          rw [c_go f k i (-1) _ _ o (by omega) ho (by rw [next_good hC (by omega), hpk]), ob_of e1, ob_of (emit_ok (by omega)), ← b1, app_app, app_app, app_one]
          congr 2
          simp
          omega
        · obtain ⟨x, e1, e2⟩ := hmo ν fr hν
          obtain ⟨y, b1, b2⟩ := a5 ν fr hν
          refine ⟨y, ?_, b2⟩
          rw [m_go f _ ν i false o ho (by rw [byte_good hν (by omega), hpk]), ob2_of e1, ← b1, e2 rfl]
    · refine ⟨i, false, cs, v, Nat.le_refl i, hi, fun _ => ⟨hcs, hR⟩, fun cnt cd hcnt => ?_, fun ν fr hν => ?_⟩
      · exact ⟨-1, cnt + cs.length, app cd cnt cs, c_stop f k i (-1) _ _ _ (by omega) (next_good hC hi) (fun o ho q => hop ⟨o, ho, q⟩), by omega, fun h => (by cases h), fun _ => ⟨rfl, rfl, rfl⟩⟩
      · exact ⟨v (ν 5), m_stop f _ ν i false _ (byte_good hν hi) (fun o ho q => hop ⟨o, ho, q⟩), fun _ => rfl⟩
/-- the first part, and the row behind it -/
theorem seqNT {μ : Mem} {B : Nat → Nat} {n op : Nat} (hC : COK μ B n) (ops : Nat → Prop) (hops : ∀ o, ops o → opr o) {Nc : Mem → Option Mem} {Nm : Mem → Option (Int32 × Mem)} (hN : ∀ i, i ≤ n → NT μ B n op i Nc Nm) {Lc : Nat → Nat → Mem → Option Mem} {Lm : Nat → Int32 → Mem → Option (Int32 × Mem)}
    (c_stop : ∀ f k i ft cnt cd z, k < 60 → X0_next (CM μ i ft cnt cd) = some (z, CM μ i ft cnt cd) → (∀ o, ops o → ¬ z = nI o) → Lc (f + 1) k (CM μ i ft cnt cd) = some (CM μ i ft cnt cd))
    (c_go : ∀ f k i ft cnt cd o, k < 60 → ops o → X0_next (CM μ i ft cnt cd) = some (nI o, CM μ i ft cnt cd) → Lc (f + 1) k (CM μ i ft cnt cd) = ob (Nc (CM μ (i + 1) ft cnt cd)) fun μ1 => ob (X0_emit (-(nI o)) μ1) fun μ2 => Lc f (k + 1) μ2)
    (m_stop : ∀ f v ν i bad z, X10_byteAt (MM ν i op bad) = some (z, MM ν i op bad) → (∀ o, ops o → ¬ z = nI o) → Lm (f + 1) v (MM ν i op bad) = some (v, MM ν i op bad))
    (m_go : ∀ f v ν i bad o, ops o → X10_byteAt (MM ν i op bad) = some (nI o, MM ν i op bad) → Lm (f + 1) v (MM ν i op bad) = ob2 (Nm (MM ν (i + 1) op bad)) fun w ν1 => Lm f (jn v (nI o) w) ν1)
    (i : Nat) (hi : i ≤ n) : NT μ B n op i (fun μ1 => ob (Nc μ1) fun μ2 => Lc FU 0 μ2) (fun ν1 => ob2 (Nm ν1) fun v ν2 => Lm FU v ν2) := by
  have hn60 := hC.2.2.1
  have hFU := FU_ge
  obtain ⟨f, hf⟩ : ∃ f1, FU = f1 + 1 := ⟨FU - 1, by omega⟩
  obtain ⟨j, bad, cs, v, h1, h2, h3, h4, h5⟩ := hN i hi
  cases bad with
  | true =>
    refine ⟨j, true, cs, v, h1, h2, fun h => (by cases h), fun cnt cd hcnt => ?_, fun ν fr hν => ?_⟩
    · obtain ⟨ft, cnt2, cd2, e1, e2, e3, -⟩ := h4 cnt cd hcnt
      obtain ⟨z, hz, hnz⟩ := next_stk (cnt := cnt2) (cd := cd2) hC h2 (e3 rfl)
      refine ⟨ft, cnt2, cd2, ?_, e2, e3, fun h => (by cases h)⟩
      show ob (Nc _) _ = _
      rw [ob_of e1, hf]
      exact c_stop f 0 j ft _ _ z (by omega) hz (fun o2 ho2 => noop_ne hnz (opr_lt (hops o2 ho2)).1)
    · obtain ⟨x, e1, -⟩ := h5 ν fr hν
      refine ⟨x, ?_, fun h => (by cases h)⟩
      show ob2 (Nm _) _ = _
      rw [ob2_of e1, hf]
      exact m_stop f _ ν j true (-1) byte_bad (fun o2 ho2 => noop_ne (Or.inl rfl) (opr_lt (hops o2 ho2)).1)
  | false =>
    obtain ⟨g1, g2, g3⟩ := h3 rfl
    obtain ⟨j2, bad2, cs2, v2, a1, a2, a3, a4, a5⟩ := loopNT hC ops hops hN c_stop c_go m_stop m_go 100 i j 0 FU cs v (by omega) (by omega) g1 h2 (by omega) g2 g3
    refine ⟨j2, bad2, cs2, v2, by omega, a2, fun h => ⟨by omega, a3 h⟩, fun cnt cd hcnt => ?_, fun ν fr hν => ?_⟩
    · obtain ⟨ft, cnt2, cd2, e1, e2, -, e4⟩ := h4 cnt cd hcnt
      obtain ⟨rfl, rfl, rfl⟩ := e4 rfl
      obtain ⟨ft2, cnt3, cd3, b1, b2⟩ := a4 cnt cd hcnt
      refine ⟨ft2, cnt3, cd3, ?_, b2⟩
      show ob (Nc _) _ = _
      rw [ob_of e1, b1]
    · obtain ⟨x, e1, e2⟩ := h5 ν fr hν
      obtain ⟨y, b1, b2⟩ := a5 ν fr hν
      refine ⟨y, ?_, b2⟩
      show ob2 (Nm _) _ = _
      rw [ob2_of e1, e2 rfl, b1]
