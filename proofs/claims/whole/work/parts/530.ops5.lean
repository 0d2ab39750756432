/-! bytes on the tape; the nearest shop; the hours go by -/
def bc (w : Int64) (k : Nat) : Int32 := (w >>> ((8 * nI k).toInt64 &&& 63)).toInt32.toInt8.toInt32
def bm (w : Int64) (k : Nat) : Int32 := ((w >>> ((8 * nI k).toInt64 &&& 63)) &&& (255 : Int64)).toInt32
theorem bc_bm (w : Int64) (k : Nat) : (bc w k).toInt8.toInt32 &&& 255 = bm w k := byte_and _
theorem feed_c (w : Int64) {n tl : Nat} (hn : tl + n ≤ 60) : ∀ (z k f : Nat) (μ : Mem), n - k < z → k ≤ n → z ≤ f → μ 1 7 = nI tl → ∃ μ2, X9_feed_40 f w (nI n) (nI k) μ = some (nI (tl + n), st μ2 1 7 (nI (tl + n))) ∧ (∀ a, a ≠ 23 → μ2 a = μ a) ∧ (∀ i, i < tl + k → μ2 23 i = μ 23 i) ∧ ∀ i, k ≤ i → i < n → μ2 23 (tl + i) = bc w i := by
  intro z
  induction z with
  | zero => intro k f μ h; omega
  | succ z ih =>
    intro k f μ hz hk hf h7
    obtain ⟨f, rfl⟩ : ∃ f1, f = f1 + 1 := ⟨f - 1, by omega⟩
    rw [X9_feed_40.eq_2]
    by_cases hkn : k = n
    · subst hkn
      rw [if_pos (by rw [i_le]; omega), lt_of, h7, nI_add, st_eq]
      exact ⟨μ, rfl, fun _ _ => rfl, fun _ _ => rfl, fun i h1 h2 => by omega⟩
    · rw [if_neg (fun q => by have := (nI_leI (by omega) (by omega)).mp q; omega), h7, nI_add, gd_pos (i_in (by omega) (by omega)), i_tn (by omega), lt_of, nI_1]
      obtain ⟨μ2, c1, c2, c3, c4⟩ := ih (k + 1) f (st μ 23 (tl + k) (bc w k)) (by omega) (by omega) (by omega) (by rw [st_ne (by omega)]; exact h7)
      refine ⟨μ2, c1, fun a ha => (c2 a ha).trans (st_other _ _ _ ha), fun i hi => ?_, fun i h1 h2 => ?_⟩
      · rw [c3 i (by omega), st_ne (by omega)]
      · by_cases hik : i = k
        · subst hik
          rw [c3 _ (by omega), st_eq]
        · exact c4 i (by omega) h2
theorem feed_m (w : Int64) {n tl : Nat} (hn : tl + n ≤ 60) : ∀ (z k f : Nat) (ν : Mem), n - k < z → k ≤ n → z ≤ f → ν 1 6 = nI (tl + k) → ∃ ν2, X10_feed_39 f w (nI n) (nI k) ν = some (nI (tl + n), ν2) ∧ (∀ a, a ≠ 1 → ν2 a = ν a) ∧ ν2 1 6 = nI (tl + n) ∧ (∀ i, i ≠ 6 → (i < 1884 + tl + k ∨ 1944 ≤ i) → ν2 1 i = ν 1 i) ∧ ∀ i, k ≤ i → i < n → ν2 1 (1884 + (tl + i)) = bm w i := by
  intro z
  induction z with
  | zero => intro k f μ h; omega
  | succ z ih =>
    intro k f ν hz hk hf h7
    obtain ⟨f, rfl⟩ : ∃ f1, f = f1 + 1 := ⟨f - 1, by omega⟩
    rw [X10_feed_39.eq_2]
    by_cases hkn : k = n
    · subst hkn
      rw [if_pos (by rw [i_le]; omega), h7]
      exact ⟨ν, rfl, fun _ _ => rfl, h7, fun _ _ _ => rfl, fun i h1 h2 => by omega⟩
    · rw [if_neg (fun q => by have := (nI_leI (by omega) (by omega)).mp q; omega), h7, show (1884 : Int32) = nI 1884 from rfl, nI_add, gd_pos (i_in (by omega) (by omega)), i_tn (by omega), lt_of, lt_of, st_ne (show ¬ (1 = 1 ∧ 6 = 1884 + (tl + k)) by omega), h7, nI_1, nI_1]
      obtain ⟨ν2, c1, c2, c3, c4, c5⟩ := ih (k + 1) f (st (st ν 1 (1884 + (tl + k)) (bm w k)) 1 6 (nI (tl + k + 1))) (by omega) (by omega) (by omega) (by rw [st_eq, Nat.add_assoc])
      refine ⟨ν2, c1, fun a ha => ?_, c3, fun i h1 h2 => ?_, fun i h1 h2 => ?_⟩
      · rw [c2 a ha, st_other _ _ _ ha, st_other _ _ _ ha]
      · rw [c4 i h1 (by omega), st_ne (by omega), st_ne (by omega)]
      · by_cases hik : i = k
        · subst hik
          rw [c4 _ (by omega) (by omega), st_ne (by omega), st_eq]
        · exact c5 i (by omega) h2
def D (a b : Nat) : Nat := if b ≤ a then a - b else b - a
theorem absC {a b : Nat} (ha : a ≤ 30) (hb : b ≤ 30) : (if 0 ≤ nI a - nI b then nI a - nI b else 0 - (nI a - nI b)) = nI (D a b) ∧ ∀ (K : Int32 → Option (Int32 × Mem)), (if 0 ≤ nI b - nI a then K (nI b - nI a) else K (-(nI b - nI a))) = K (nI (D a b)) := by
  unfold D
  have e0 : (0 : Int32).toInt = 0 := rfl
  have q1 : (nI a - nI b).toInt = (a : Int) - b := pk_sub_toInt (by omega) (by omega)
  have q2 : (nI b - nI a).toInt = (b : Int) - a := pk_sub_toInt (by omega) (by omega)
  by_cases h : b ≤ a
  · refine ⟨?_, fun K => ?_⟩
    · rw [if_pos h, if_pos (by rw [i_le, e0, q1]; omega), pk_sub h]
    · rw [if_pos h]
      by_cases h2 : a = b
      · subst h2
        rw [if_pos (by rw [i_le, e0, q2]; omega), pk_sub h]
      · rw [if_neg (by rw [i_le, e0, q2]; omega), Int32.neg_sub, pk_sub h]
  · refine ⟨?_, fun K => ?_⟩
    · rw [if_neg h, if_neg (by rw [i_le, e0, q1]; omega), Int32.zero_sub, Int32.neg_sub, pk_sub (by omega)]
    · rw [if_neg h, if_pos (by rw [i_le, e0, q2]; omega), pk_sub (by omega)]
section O5
variable {j : Nat} {μ ν : Mem}
theorem op_feed (a0 : Int64) (a1 : Int32) (hS : Sim j μ ν) : ∃ r μ2 ν2, X9_feed a0 a1 μ = some (r, μ2) ∧ X10_feed a0 a1 ν = some (r, ν2) ∧ Sim (j + 1) μ2 ν2 := by
  obtain ⟨⟨h, nm, ns, nl, nr, nt, tl, t⟩, o⟩ := id hS
  have b := t.1
  have hFU := FU_ge
  unfold X9_feed X10_feed
  have n1 : μ 1 7 = nI tl := t.2.2.2.2.2.2.2.1.1
  have n2 : ν 1 6 = nI tl := t.2.2.2.2.2.2.2.1.2
  rw [ob2_of (in_rg _ _ _ _), rng_if]
  rcases rg_cases a1 (1 : Int32).toInt (8 : Int32).toInt with ⟨r, -⟩ | ⟨r, r1, r2⟩
  · rw [r, if_pos (show (0 : Int32) = 0 from rfl), if_pos (show (0 : Int32) = 0 from rfl)]
    exact find_ok hS 1 (by decide)
  · have r1 : (1 : Int) ≤ a1.toInt := r1
    obtain ⟨n, hn, rfl, -⟩ := to_nat (x := a1) (hi := 8) ⟨by omega, r2⟩ (by decide)
    rw [r, if_neg (show ¬ (1 : Int32) = 0 by decide), if_neg (show ¬ (1 : Int32) = 0 by decide), n1, n2, nI_add]
    by_cases h60 : tl + n ≤ 60
    · rw [if_pos (show nI (tl + n) ≤ 60 from nI_le (b := 60) h60 (by decide)), if_pos (show nI (tl + n) ≤ 60 from nI_le (b := 60) h60 (by decide))]
      obtain ⟨μ2, c1, c2, c3, c4⟩ := feed_c a0 h60 100 0 FU μ (by omega) (by omega) (by omega) n1
      obtain ⟨ν2, d1, d2, d3, d4, d5⟩ := feed_m a0 h60 100 0 FU ν (by omega) (by omega) (by omega) n2
      refine ⟨_, _, _, c1, d1, ?_⟩
      have ox : ∀ a, a ≠ 1 → a ≠ 23 → st μ2 1 7 (nI (tl + n)) a = μ a := fun a h1 h2 => by
        rw [st_other _ _ _ h1, c2 a h2]
      have od : ∀ w, w ≠ 6 → w < 1884 + tl → ν2 1 w = ν 1 w := fun w h1 h2 => d4 w h1 (by omega)
      obtain ⟨⟨b1, b2, b3, b4, b5, b6⟩, h1, h2, h3, h4, h5, h6, h7, h8', h9, h10, h11, h12, h13⟩ := t
      have hl := h4.1
      refine ⟨⟨h, nm, ns, nl, nr, nt, tl + n, ⟨b1, b2, b3, b4, b5, h60⟩, ?_, ?_, ?_, h4.c (fun a q1 q2 => ox a (by omega) (by omega)) (fun w hw => od w (by omega) (by omega)), ?_, ?_, ?_, ?_, fun i hi => (h9 i hi).cong (ox _ (by omega) (by omega)) (ox _ (by omega) (by omega)) (fun w hw => od _ (by omega) (by omega)), fun s hs => ?_, fun r hr => ?_, fun k hk => ?_, fun k hk => ?_⟩, o.fr (fun a ha => ox a (by omega) (by omega)) ⟨fun a ha => d2 a (by omega), fun k _ => by rw [d2 0 (by decide)]⟩⟩
      · rw [st_ne (by omega), c2 1 (by omega), od 0 (by omega) (by omega)]; exact h1
      · rw [st_ne (by omega), c2 1 (by omega), od 1 (by omega) (by omega)]; exact h2
      · rw [ox (1 + 2) (by omega) (by omega), od 2 (by omega) (by omega)]; exact h3
      · rw [ox (1 + 13) (by omega) (by omega), od 4 (by omega) (by omega)]; exact h5
      · rw [ox (1 + 18) (by omega) (by omega), od 5 (by omega) (by omega)]; exact h6
      · exact ⟨st_eq, d3⟩
      · rw [ox (1 + 18) (by omega) (by omega), od 7 (by omega) (by omega), od 8 (by omega) (by omega)]; exact h8'
      · exact (h10 s hs).c (by rw [ox _ (by omega) (by omega)]) (by rw [ox _ (by omega) (by omega)]) (by rw [ox _ (by omega) (by omega)]) (by rw [ox _ (by omega) (by omega)]) (fun w q1 q2 => od w (by omega) (by omega))
      · exact (h11 r hr).c (by rw [ox _ (by omega) (by omega)]) (by rw [ox _ (by omega) (by omega)]) (by rw [ox _ (by omega) (by omega)]) (by rw [ox _ (by omega) (by omega)]) (fun w q1 q2 => od w (by omega) (by omega))
      · exact (h12 k hk).c (by rw [ox _ (by omega) (by omega)]) (by rw [ox _ (by omega) (by omega)]) (by rw [ox _ (by omega) (by omega)]) (fun w q1 q2 => od w (by omega) (by omega))
      · by_cases hkt : k < tl
        · refine (h13 k hkt).c ?_ (od _ (by omega) (by omega))
          rw [st_ne (by omega)]
          exact c3 k (by omega)
        · obtain ⟨x, rfl⟩ : ∃ x, k = tl + x := ⟨k - tl, by omega⟩
          unfold TaR
          have e1 : st μ2 1 7 (nI (tl + n)) (1 + 22) (tl + x) = bc a0 x := by
            rw [st_ne (by omega)]
            exact c4 x (by omega) (by omega)
          rw [e1, d5 x (by omega) (by omega)]
          exact bc_bm a0 x
    · rw [if_neg (show ¬ nI (tl + n) ≤ 60 from fun q => h60 ((nI_leI (b := 60) (by omega) (by decide)).mp q)), if_neg (show ¬ nI (tl + n) ≤ 60 from fun q => h60 ((nI_leI (b := 60) (by omega) (by decide)).mp q))]
      exact find_ok hS 4 (by decide)
/-- how far -/
theorem far_ok {h nm ns nl nr nt tl i s : Nat} (t : TS 1 μ (ν 1) h nm ns nl nr nt tl) (hi : i < nm) (hs : s < ns) : ∃ z, z ≤ 60 ∧ X5_farFrom (nI s) (24 + 2 * i) μ = some (nI z, μ) ∧ X10_farOf (nI i) (nI s) ν = some (nI z, ν) := by
  have b := t.1
  have e1 : μ 3 4 = nI ns := t.2.2.2.1.1
  obtain ⟨s3, s4, -, -, ⟨x, hx, sx⟩, ⟨y, hy, sy⟩⟩ := t.2.2.2.2.2.2.2.2.2.2.1 s hs
  have s3 : μ 4 s = ν 1 (336 + 4 * s) := s3
  have s4 : μ 5 s = ν 1 (337 + 4 * s) := s4
  have sx : μ 4 s = nI x := sx
  have sy : μ 5 s = nI y := sy
  have M := t.2.2.2.2.2.2.2.2.2.1 i hi
  rw [show 1 + 23 + 2 * i = 24 + 2 * i by omega] at M
  obtain ⟨m1, m2, m3, m4, m5⟩ := M
  obtain ⟨u, hu, mu⟩ := m5.2.1
  obtain ⟨v, hv, mv⟩ := m5.2.2.1
  have q1 : ν 1 (16 + 40 * i + 1) = nI u := (m2 1 (by omega)).trans mu
  have q2 : ν 1 (16 + 40 * i + 2) = nI v := (m2 2 (by omega)).trans mv
  have c1 : X5_has (nI s) μ = some (1, μ) := by
    unfold X5_has
    rw [if_neg (nI_pos (by omega)), e1, if_neg (fun q => by have := (nI_leI (by omega) (by omega)).mp q; omega)]
  have x2 : ((336 : Int32) + 4 * nI s) + 1 = nI (337 + 4 * s) := by rw [mulL 336 4 (336 + 4 * s) rfl]; exact addL 1 _ (by omega)
  have hD : ∀ a b, a ≤ 30 → b ≤ 30 → D a b ≤ 30 := fun a b h1 h2 => by unfold D; split <;> omega
  have d1 := hD x u hx hu
  have d2 := hD y v hy hv
  refine ⟨D x u + D y v, by omega, ?_, ?_⟩
  · unfold X5_farFrom
    rw [ob2_of c1, if_neg (show ¬ (1 : Int32) = 0 by decide), gd_pos (i_in (by omega) (by omega)), gd_pos (i_in (by omega) (by omega)), i_tn (by omega), sx, sy, mu, mv, (absC hx hu).1, (absC hy hv).1, nI_add]
  · unfold X10_farOf
    rw [ob2_of (of_ok (w := 1) (by omega) (by decide) ν), ob2_of (of_ok (w := 2) (by omega) (by decide) ν), x2, mulL 336 4 (336 + 4 * s) rfl, gd_pos (i_in (by omega) (by omega)), gd_pos (i_in (by omega) (by omega)), i_tn (by omega), i_tn (by omega), q1, q2, ← s3, ← s4, sx, sy]
    rw [(absC hx hu).2 (fun z => X10_farOf_53 (nI v - nI y) z ν)]
    unfold X10_farOf_53
    rw [(absC hy hv).2 (fun z => X10_farOf_66 (nI (D x u)) z ν)]
    unfold X10_farOf_66
    rw [nI_add]
/-- none yet, or a number below n -/
theorem near_loop {h nm ns nl nr nt tl i : Nat} (t : TS 1 μ (ν 1) h nm ns nl nr nt tl) (hi : i < nm) (c : Int32) : ∀ (z k f f2 : Nat) (x : Int32), ns - k < z → k ≤ ns → z ≤ f → z ≤ f2 → LD k x → ∃ y, LD ns y ∧ X5_leastFar_5 f (24 + 2 * i) c x (nI k) μ = some (y, μ) ∧ X10_nearest_29 f2 (nI i) c x (nI k) ν = (if 0 ≤ y then some (y, ν) else ob2 (X10_finding 2 ν) fun r8 μ8 => some (r8, μ8)) := by
  have b := t.1
  have e1 : μ 3 4 = nI ns := t.2.2.2.1.1
  have e2 : ν 1 2 = nI ns := t.2.2.2.1.2
  intro z
  induction z with
  | zero => intro k f f2 x h; omega
  | succ z ih =>
    intro k f f2 x hz hk hf hf2 hx
    obtain ⟨f, rfl⟩ : ∃ f1, f = f1 + 1 := ⟨f - 1, by omega⟩
    obtain ⟨f2, rfl⟩ : ∃ f1, f2 = f1 + 1 := ⟨f2 - 1, by omega⟩
    rw [X5_leastFar_5.eq_2, X10_nearest_29.eq_2, e1, e2]
    by_cases hkn : k = ns
    · subst hkn
      rw [if_pos (by rw [i_le]; omega), if_pos (by rw [i_le]; omega)]
      exact ⟨x, hx, rfl, rfl⟩
    · obtain ⟨o1, oz, o2, o3⟩ := open_ok t (show k < ns by omega) c
      rw [if_neg (fun q => by have := (nI_leI (by omega) (by omega)).mp q; omega), if_neg (fun q => by have := (nI_leI (by omega) (by omega)).mp q; omega), ob2_of o2, ob2_of o3]
      unfold X5_leastFar_44 X10_nearest_70 X10_nearest_75 X5_leastFar_47 X10_nearest_76
      rw [nI_1]
      have stay := ih (k + 1) f f2 x (by omega) (by omega) (by omega) (by omega) (hx.imp_right (fun ⟨l, h1, h2⟩ => ⟨l, by omega, h2⟩))
      have take := ih (k + 1) f f2 (nI k) (by omega) (by omega) (by omega) (by omega) (Or.inr ⟨k, by omega, rfl⟩)
      by_cases hz0 : o1 = 0
      · rw [if_pos hz0, if_pos hz0]
        exact stay
      · rw [if_neg hz0, if_neg hz0]
        by_cases hx0 : x < 0
        · rw [if_pos hx0, if_pos hx0]
          exact take
        · rw [if_neg hx0, if_neg hx0]
          rcases hx with rfl | ⟨l, hl, rfl⟩
          · exact absurd (show (-1 : Int32) < 0 by decide) hx0
          · obtain ⟨p, hp, p1, p2⟩ := far_ok t hi (show k < ns by omega)
            obtain ⟨q, hq, q1, q2⟩ := far_ok t hi (show l < ns by omega)
            rw [ob2_of p1, ob2_of p2, ob2_of q1, ob2_of q2]
            by_cases hqp : nI q ≤ nI p
            · rw [if_pos hqp, if_pos hqp]
              exact stay
            · rw [if_neg hqp, if_neg hqp]
              exact take
theorem op_nearest (a0 a1 : Int32) (hS : Sim j μ ν) : ∃ r μ2 ν2, X9_nearest a0 a1 μ = some (r, μ2) ∧ X10_nearest a0 a1 ν = some (r, ν2) ∧ Sim (j + 1) μ2 ν2 := by
  obtain ⟨⟨h, nm, ns, nl, nr, nt, tl, t⟩, o⟩ := id hS
  have b := t.1
  have hFU := FU_ge
  unfold X9_nearest X10_nearest
  rcases isM t a0 with ⟨i, hi, rfl, e1, e2⟩ | ⟨e1, e2⟩
  · rw [ob2_of e1, ob2_of e2, if_neg (show ¬ (1 : Int32) = 0 by decide), if_neg (show ¬ (1 : Int32) = 0 by decide), ob2_of (isClock_rg _ _), ob2_of (in_r (a := 0) (b := 23) (by decide) (by decide) _)]
    rcases rg_cases a1 0 23 with ⟨r, -⟩ | ⟨r, r1, r2⟩
    · rw [r, if_pos (show (0 : Int32) = 0 from rfl), if_pos (show (0 : Int32) = 0 from rfl)]
      exact find_ok hS 1 (by decide)
    · obtain ⟨y, hy, y1, y2⟩ := near_loop t hi a1 100 0 FU FU (-1) (by omega) (by omega) (by omega) (by omega) (Or.inl rfl)
      have y1' : X5_leastFar (24 + 2 * i) a1 μ = some (y, μ) := y1
      have y2' : X10_nearest_29 FU (nI i) a1 (-1) 0 ν = _ := y2
      rw [r, if_neg (show ¬ (1 : Int32) = 0 by decide), if_neg (show ¬ (1 : Int32) = 0 by decide), gd_pos (m8 hi b.2.1).1, (m8 hi b.2.1).2, ob2_of y1', y2']
      by_cases hz : 0 ≤ y
      · rw [if_pos hz, if_pos hz]
        exact ⟨_, _, _, rfl, rfl, hS.up⟩
      · rw [if_neg hz, if_neg hz]
        exact find_ok hS 2 (by decide)
  · rw [ob2_of e1, ob2_of e2, if_pos rfl, if_pos rfl]
    exact find_ok hS 1 (by decide)
/-- one hour on -/
theorem ts_hour {h hz nm ns nl nr nt tl : Nat} (t : TS 1 μ (ν 1) h nm ns nl nr nt tl) (hh : hz ≤ 9000) : TS 1 (st μ 1 8 (nI hz)) (st ν 1 0 (nI hz) 1) hz nm ns nl nr nt tl := by
  obtain ⟨⟨b1, b2, b3, b4, b5, b6⟩, h1, h2, h3, h4, h5, h6, h7, h8', h9, h10, h11, h12, h13⟩ := t
  have hl := h4.1
  have ox : ∀ a, a ≠ 1 → st μ 1 8 (nI hz) a = μ a := fun a h3 => st_other _ _ _ h3
  have od : ∀ w, w ≠ 0 → st ν 1 0 (nI hz) 1 w = ν 1 w := fun w h1 => st_ne (by omega)
  refine ⟨⟨hh, b2, b3, b4, b5, b6⟩, ?_, ?_, ?_, h4.c (fun a q1 q2 => ox a (by omega)) (fun w hw => od w (by omega)), ?_, ?_, ?_, ?_, fun i hi => (h9 i hi).cong (ox _ (by omega)) (ox _ (by omega)) (fun w hw => od _ (by omega)), fun s hs => ?_, fun r hr => ?_, fun k hk => ?_, fun k hk => ?_⟩
  · exact ⟨st_eq, st_eq⟩
  · rw [st_ne (by omega), od 1 (by omega)]; exact h2
  · rw [ox (1 + 2) (by omega), od 2 (by omega)]; exact h3
  · rw [ox (1 + 13) (by omega), od 4 (by omega)]; exact h5
  · rw [ox (1 + 18) (by omega), od 5 (by omega)]; exact h6
  · rw [st_ne (by omega), od 6 (by omega)]; exact h7
  · rw [ox (1 + 18) (by omega), od 7 (by omega), od 8 (by omega)]; exact h8'
  · exact (h10 s hs).c (by rw [ox _ (by omega)]) (by rw [ox _ (by omega)]) (by rw [ox _ (by omega)]) (by rw [ox _ (by omega)]) (fun w q1 q2 => od w (by omega))
  · exact (h11 r hr).c (by rw [ox _ (by omega)]) (by rw [ox _ (by omega)]) (by rw [ox _ (by omega)]) (by rw [ox _ (by omega)]) (fun w q1 q2 => od w (by omega))
  · exact (h12 k hk).c (by rw [ox _ (by omega)]) (by rw [ox _ (by omega)]) (by rw [ox _ (by omega)]) (fun w q1 q2 => od w (by omega))
  · exact (h13 k hk).c (by rw [ox _ (by omega)]) (od _ (by omega))
theorem FrX.tr {μ2 μ3 : Mem} (h : FrX μ μ2) (k : FrX μ2 μ3) : FrX μ μ3 := fun a ha => (k a ha).trans (h a ha)
theorem FrM.tr {ν2 ν3 : Mem} (h : FrM ν ν2) (k : FrM ν2 ν3) : FrM ν ν3 := ⟨fun a ha => (k.1 a ha).trans (h.1 a ha), fun a ha => (k.2 a ha).trans (h.2 a ha)⟩
theorem fr_hr {c i nl : Nat} {μ2 ν2 : Mem} (hc : 24 ≤ c) (hc2 : c < 40) (R : HR c i nl μ ν μ2 ν2) : FrX μ μ2 ∧ FrM ν ν2 := ⟨fun a ha => R.2.1 a (by omega) (by omega), fun a ha => R.2.2.1 a (by omega) (by omega) (by omega), R.2.2.2.1⟩
/-- one hour of all meters, both ways -/
theorem all_loop {h nm ns nl nr nt tl : Nat} (K : Int32 → Int32 → Int32 → Mem → Option (Int32 × Mem)) (n3 : Int32) (a1 : Int32) (x0 : Int32) : ∀ (z k f f2 : Nat) (x : Int32) (μ ν : Mem), TS 1 μ (ν 1) h nm ns nl nr nt tl → ν 6 = letF → h < 9000 → nm - k < z → k ≤ nm → z ≤ f → z ≤ f2 → ∃ y μ2 ν2, X7_endHourForAll_4 f x (nI k) μ = some (y, μ2) ∧ X10_go_43 K f2 a1 (x0 + x) n3 (nI k) ν = K a1 (x0 + y) (n3 + 1) ν2 ∧ TS 1 μ2 (ν2 1) (h + 1) nm ns nl nr nt tl ∧ FrX μ μ2 ∧ FrM ν ν2 := by
  intro z
  induction z with
  | zero => intro k f f2 x μ ν _ _ _ h; omega
  | succ z ih =>
    intro k f f2 x μ ν t hF hh9 hz hk hf hf2
    have b := t.1
    have e1 : μ 1 6 = nI nm := t.2.2.1.1
    have e2 : ν 1 1 = nI nm := t.2.2.1.2
    have hh : μ 1 8 = nI h := t.2.1.1
    have hh2 : ν 1 0 = nI h := t.2.1.2
    obtain ⟨f, rfl⟩ : ∃ f1, f = f1 + 1 := ⟨f - 1, by omega⟩
    obtain ⟨f2, rfl⟩ : ∃ f1, f2 = f1 + 1 := ⟨f2 - 1, by omega⟩
    rw [X7_endHourForAll_4.eq_2, X10_go_43.eq_2, e1, e2]
    by_cases hkn : k = nm
    · subst hkn
      rw [if_pos (by rw [i_le]; omega), if_pos (by rw [i_le]; omega), lt_of, lt_of, hh, hh2, nI_1]
      exact ⟨x, _, _, rfl, rfl, ts_hour t (by omega), fun a ha => st_other _ _ _ (by omega), fun a ha => st_other _ _ _ (by omega), fun k _ => by rw [st_other _ _ _ (by decide)]⟩
    · have hkm : k < nm := by omega
      obtain ⟨X, R⟩ := hx_of t hF hkm
      obtain ⟨y, μ2, ν2, R2, p1, p2, p3⟩ := pass_ok X R
      have t2 := ts_meter t hkm R2
      obtain ⟨g1, g2⟩ := fr_hr (by omega) (by omega) R2
      rw [if_neg (fun q => by have := (nI_leI (by omega) (by omega)).mp q; omega), if_neg (fun q => by have := (nI_leI (by omega) (by omega)).mp q; omega), gd_pos (m8 hkm b.2.1).1, (m8 hkm b.2.1).2, hh, ob2_of p1, ob2_of p2]
      unfold X7_endHourForAll_32 X10_go_69
      rw [nI_1]
      rcases p3 with rfl | rfl
      · rw [if_pos rfl, if_pos rfl, Int32.add_zero]
        obtain ⟨y, μ3, ν3, c1, c2, c3, c4, c5⟩ := ih (k + 1) f f2 x μ2 ν2 t2 ((g2.1 6 (by omega)).trans hF) hh9 (by omega) (by omega) (by omega) (by omega)
        exact ⟨y, μ3, ν3, c1, c2, c3, g1.tr c4, g2.tr c5⟩
      · rw [if_neg (show ¬ (1 : Int32) = 0 by decide), if_neg (show ¬ (1 : Int32) = 0 by decide), Int32.add_assoc]
        obtain ⟨y, μ3, ν3, c1, c2, c3, c4, c5⟩ := ih (k + 1) f f2 (x + 1) μ2 ν2 t2 ((g2.1 6 (by omega)).trans hF) hh9 (by omega) (by omega) (by omega) (by omega)
        exact ⟨y, μ3, ν3, c1, c2, c3, g1.tr c4, g2.tr c5⟩
theorem go_loop {nm ns nl nr nt tl n : Nat} (hn : n ≤ 240) : ∀ (z k f f2 h : Nat) (x : Int32) (μ ν : Mem), TS 1 μ (ν 1) h nm ns nl nr nt tl → ν 6 = letF → h + (n - k) ≤ 9000 → n - k < z → k ≤ n → z ≤ f → z ≤ f2 → ∃ y μ2 ν2 h2, X9_go_37 f (nI n) x (nI k) μ = some (y, μ2) ∧ X10_go_35 f2 (nI n) x (nI k) ν = some (y, ν2) ∧ TS 1 μ2 (ν2 1) h2 nm ns nl nr nt tl ∧ FrX μ μ2 ∧ FrM ν ν2 := by
  have hFU := FU_ge
  intro z
  induction z with
  | zero => intro k f f2 h x μ ν _ _ _ h; omega
  | succ z ih =>
    intro k f f2 h x μ ν t hF hh9 hz hk hf hf2
    have b := t.1
    obtain ⟨f, rfl⟩ : ∃ f1, f = f1 + 1 := ⟨f - 1, by omega⟩
    obtain ⟨f2, rfl⟩ : ∃ f1, f2 = f1 + 1 := ⟨f2 - 1, by omega⟩
    rw [X9_go_37.eq_2, X10_go_35.eq_2]
    by_cases hkn : k = n
    · subst hkn
      rw [if_pos (by rw [i_le]; omega), if_pos (by rw [i_le]; omega)]
      exact ⟨x, μ, ν, h, rfl, rfl, t, FrX.rf μ, FrM.rf ν⟩
    · rw [if_neg (fun q => by have := (nI_leI (by omega) (by omega)).mp q; omega), if_neg (fun q => by have := (nI_leI (by omega) (by omega)).mp q; omega)]
      obtain ⟨y, μ2, ν2, c1, c2, c3, c4, c5⟩ := all_loop (X10_go_35 f2) (nI k) (nI n) x 100 0 FU FU 0 μ ν t hF (by omega) (by omega) (by omega) (by omega) (by omega)
      rw [Int32.add_zero] at c2
      have c1' : X7_endHourForAll μ = some (y, μ2) := c1
      have c2' : X10_go_43 (X10_go_35 f2) FU (nI n) x (nI k) 0 ν = X10_go_35 f2 (nI n) (x + y) (nI k + 1) ν2 := c2
      rw [ob2_of c1', c2', nI_1]
      obtain ⟨y2, μ3, ν3, h2, d1, d2, d3, d4, d5⟩ := ih (k + 1) f f2 (h + 1) (x + y) μ2 ν2 c3 ((c5.1 6 (by omega)).trans hF) (by omega) (by omega) (by omega) (by omega) (by omega)
      exact ⟨y2, μ3, ν3, h2, d1, d2, d3, c4.tr d4, c5.tr d5⟩
theorem op_go (a0 : Int32) (hS : Sim j μ ν) : ∃ r μ2 ν2, X9_go a0 μ = some (r, μ2) ∧ X10_go a0 ν = some (r, ν2) ∧ Sim (j + 1) μ2 ν2 := by
  obtain ⟨⟨h, nm, ns, nl, nr, nt, tl, t⟩, o⟩ := id hS
  have b := t.1
  have hFU := FU_ge
  have hh : μ 1 8 = nI h := t.2.1.1
  have hh2 : ν 1 0 = nI h := t.2.1.2
  unfold X9_go X10_go
  have hc : (if a0 < 1 then X9_go_27 μ else (if 240 < a0 then X9_go_27 μ else (if ((μ 1 8) + a0) ≤ 9000 then X9_go_37 FU a0 0 0 μ else X9_go_27 μ))) = if rg a0 1 240 = 0 then X9_go_27 μ else (if ((μ 1 8) + a0) ≤ 9000 then X9_go_37 FU a0 0 0 μ else X9_go_27 μ) := by
    have e1 : (1 : Int32).toInt = 1 := rfl
    have e2 : (240 : Int32).toInt = 240 := rfl
    by_cases h1 : a0 < 1
    · rw [if_pos h1]
      rw [i_lt, e1] at h1
      rcases rg_cases a0 1 240 with ⟨r, -⟩ | ⟨r, r1, r2⟩
      · rw [r, if_pos rfl]
      · omega
    · rw [if_neg h1]
      rw [i_lt, e1] at h1
      by_cases h2 : 240 < a0
      · rw [if_pos h2]
        rw [i_lt, e2] at h2
        rcases rg_cases a0 1 240 with ⟨r, -⟩ | ⟨r, r1, r2⟩
        · rw [r, if_pos rfl]
        · omega
      · rw [if_neg h2]
        rw [i_lt, e2] at h2
        rcases rg_cases a0 1 240 with ⟨r, r1⟩ | ⟨r, r1, r2⟩
        · omega
        · rw [r, if_neg (show ¬ (1 : Int32) = 0 by decide)]
  rw [hc, ob2_of (in_r (a := 1) (b := 240) (by decide) (by decide) _)]
  rcases rg_cases a0 1 240 with ⟨r, -⟩ | ⟨r, r1, r2⟩
  · rw [r, if_pos (show (0 : Int32) = 0 from rfl), if_pos (show (0 : Int32) = 0 from rfl)]
    exact find_ok hS 1 (by decide)
  · obtain ⟨n, hn, rfl, -⟩ := to_nat (x := a0) (hi := 240) ⟨by omega, r2⟩ (by decide)
    rw [r, if_neg (show ¬ (1 : Int32) = 0 by decide), if_neg (show ¬ (1 : Int32) = 0 by decide), hh, hh2, nI_add]
    by_cases h9 : h + n ≤ 9000
    · rw [if_pos (show nI (h + n) ≤ 9000 from nI_le (b := 9000) h9 (by decide)), if_pos (show nI (h + n) ≤ 9000 from nI_le (b := 9000) h9 (by decide))]
      obtain ⟨y, μ2, ν2, h2, c1, c2, c3, c4, c5⟩ := go_loop hn 300 0 FU FU h 0 μ ν t o.2.2.2.2 (by omega) (by omega) (by omega) (by omega) (by omega)
      exact ⟨y, μ2, ν2, c1, c2, ⟨h2, nm, ns, nl, nr, nt, tl, c3⟩, o.fr c4 c5⟩
    · rw [if_neg (show ¬ nI (h + n) ≤ 9000 from fun q => h9 ((nI_leI (b := 9000) (by omega) (by decide)).mp q)), if_neg (show ¬ nI (h + n) ≤ 9000 from fun q => h9 ((nI_leI (b := 9000) (by omega) (by decide)).mp q))]
      exact find_ok hS 1 (by decide)
end O5
