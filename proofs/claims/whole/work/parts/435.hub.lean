/-! the reader's single part, and the whole reader -/
theorem k5 {k : Nat} (h : k < 5) : ¬ (5 : Int32) ≤ nI k := by
  rw [i_le, i_n k (by omega)]
  show ¬ (5 : Int) ≤ k
  omega
section RH
variable {μ : Mem} {B : Nat → Nat} {n op : Nat} {S : Int32 → Mem → Option Mem} {S2 : Mem → Option (Int32 × Mem)}
theorem MM_bad (ν : Mem) (i op : Nat) : st (MM ν i op false) 0 10 1 = MM ν i op true := by
  have e := MM_st10 ν i op false true
  rw [if_pos rfl] at e
  exact e
theorem MM_bad2 (ν : Mem) (i op : Nat) (b : Bool) : st (MM ν i op b) 0 10 1 = MM ν i op true := by
  have e := MM_st10 ν i op b true
  rw [if_pos rfl] at e
  exact e
theorem MM_dn (ν : Mem) (i op : Nat) (b : Bool) : st (MM ν i (op + 1) b) 0 9 ((MM ν i (op + 1) b 0 9) - 1) = MM ν i op b := by
  rw [MM_9, nI_pred, MM_st9]
theorem nt_single (hC : COK μ B n) (hop : op ≤ 5) (hS : op < 5 → ∀ i, i ≤ n → NT μ B n (op + 1) i (S (nI (op + 1))) S2) (i : Nat) (hi : i ≤ n) : NT μ B n op i (X0_readSingle_body S (nI op)) (X10_single_body S2) := by
  have hn60 := hC.2.2.1
  have hB := hC.2.2.2.2
  have hFU := FU_ge
  -- what is no part
  have hbad : (¬ (i < n ∧ dig (B i))) → (∀ k, k < 7 → ¬ pk B n i = nI (letN k)) → (pk B n i = 33 ∨ pk B n i = 40 → op = 5) → NT μ B n op i (X0_readSingle_body S (nI op)) (X10_single_body S2) := by
    intro hd hl h5
    refine ⟨i, true, [], fun _ => 0, Nat.le_refl i, hi, fun h => (by cases h), fun cnt cd hcnt => ?_, fun ν fr hν => ?_⟩
    · refine ⟨nI i, cnt, cd, ?_, by omega, fun _ => Or.inl rfl, fun h => (by cases h)⟩
      have hfail : X0_readSingle_117 S (CM μ i (-1) cnt cd) = some (CM μ i (nI i) cnt cd) := by
        unfold X0_readSingle_117
        rw [ob_of (fail_ok (B := B) (n := n) (by omega) (Or.inr rfl))]
      unfold X0_readSingle_body
      rw [ob2_of (next_good hC hi), ob2_of (pk_dig hB _).1, if_neg hd, if_pos rfl, ob2_of (isName_no hl _), if_pos rfl]
      have h82 : X0_readSingle_82 S (nI op) (pk B n i) (CM μ i (-1) cnt cd) = some (CM μ i (nI i) cnt cd) := by
        unfold X0_readSingle_82
        by_cases h40 : pk B n i = 40
        · rw [if_pos h40, h5 (Or.inr h40), if_pos (by decide), hfail]
        · rw [if_neg h40, hfail]
      by_cases h33 : pk B n i = 33
      · rw [if_pos h33, if_pos (by rw [h5 (Or.inl h33)]; decide), h82]
      · rw [if_neg h33, h82]
    · refine ⟨0, ?_, fun h => (by cases h)⟩
      have h161 : X10_single_161 S2 (MM ν i op false) = some (0, MM ν i op true) := by
        unfold X10_single_161
        rw [lt_of, MM_bad]
      have h153 : op = 5 → X10_single_153 S2 (pk B n i) (MM ν i op false) = some (0, MM ν i op true) := by
        intro h
        unfold X10_single_153
        rw [MM_9, h, if_pos (by decide), ← h, h161]
      unfold X10_single_body
      rw [ob2_of (byte_good hν hi), ob2_of (pk_dig hB _).2, if_neg hd, if_pos rfl]
      refine (let_no (S2 := S2) hν hl 100 0 FU (by omega) (by omega) (by omega)).trans ?_
      by_cases h33 : pk B n i = 33
      · rw [if_pos h33, h153 (h5 (Or.inl h33))]
      · rw [if_neg h33]
        by_cases h40 : pk B n i = 40
        · rw [if_pos h40, h153 (h5 (Or.inr h40))]
        · rw [if_neg h40, h161]
  by_cases hd : i < n ∧ dig (B i)
  · -- a number
    obtain ⟨j, y, bad, a1, a2, a3, a4, a5, a6, a7⟩ := nt_num (op := op) (S2 := S2) hC 100 0 i 0 FU (by omega) (by omega) (by omega) hi (by decide)
    have hij := a4 ⟨hd.1, hd.2, by decide⟩
    refine ⟨j, bad, [nI y], fun _ => nI y, a1, a2, fun _ => ⟨hij, by simp; omega, Rp_num a3⟩, fun cnt cd hcnt => ?_, fun ν fr hν => ?_⟩
    · refine ⟨-1, cnt + 1, upd cd cnt (nI y), ?_, by omega, fun h => ?_, fun h => ⟨rfl, rfl, rfl⟩⟩
      · unfold X0_readSingle_body
        rw [ob2_of (next_good hC hi), ob2_of (pk_dig hB _).1, if_pos hd, if_neg (by decide)]
        have e : X0_readNumber (CM μ i (-1) cnt cd) = _ := a6 cnt cd (by omega)
        rw [ob_of e]
      · have := a5 h
        exact Or.inr ⟨rfl, this.1, this.2.1, this.2.2⟩
    · refine ⟨nI y, ?_, fun _ => rfl⟩
      unfold X10_single_body
      rw [ob2_of (byte_good hν hi), ob2_of (pk_dig hB _).2, if_pos hd, if_neg (by decide)]
      exact a7 ν fr hν
  · by_cases hl : ∃ k, k < 7 ∧ pk B n i = nI (letN k)
    · -- a name
      obtain ⟨k, hk, hpk⟩ := hl
      have hr := letN_r k hk
      have hin := (pk_op hB (by omega) hpk).1
      refine ⟨i + 1, false, [-(nI (letN k))], fun env => env k, by omega, by omega, fun _ => ⟨by omega, by simp; omega, Rp_name hk⟩, fun cnt cd hcnt => ?_, fun ν fr hν => ?_⟩
      · refine ⟨-1, cnt + 1, upd cd cnt (-(nI (letN k))), ?_, by omega, fun h => (by cases h), fun _ => ⟨rfl, rfl, rfl⟩⟩
        unfold X0_readSingle_body
        rw [ob2_of (next_good hC hi), ob2_of (pk_dig hB _).1, if_neg hd, if_pos rfl, hpk, ob2_of (isName_yes hk _), if_neg (by decide), lt_of, CM_up, ob_of (emit_ok (by omega))]
      · refine ⟨ν 5 k, ?_, fun _ => rfl⟩
        unfold X10_single_body
        rw [ob2_of (byte_good hν hi), ob2_of (pk_dig hB _).2, if_neg hd, if_pos rfl, hpk]
        exact let_yes (S2 := S2) hν hk 100 0 FU (by omega) (by omega) (by omega)
    · have hl : ∀ k, k < 7 → ¬ pk B n i = nI (letN k) := fun k hk q => hl ⟨k, hk, q⟩
      by_cases hop5 : op = 5
      · exact hbad hd hl (fun _ => hop5)
      · by_cases h33 : pk B n i = nI 33
        · -- a sign in front
          have hin := (pk_op hB (by omega) h33).1
          obtain ⟨j, bad, cs, v, b1, b2, b3, b4, b5⟩ := hS (by omega) (i + 1) (by omega)
          refine ⟨j, bad, cs ++ [-33], fun env => if v env = 0 then 1 else 0, by omega, b2, fun h => ?_, fun cnt cd hcnt => ?_, fun ν fr hν => ?_⟩
          · obtain ⟨d1, d2, d3⟩ := b3 h
            exact ⟨by omega, by simp; omega, Rp_not d3⟩
          · obtain ⟨ft, cnt2, cd2, e1, e2, e3, e4⟩ := b4 cnt cd (by omega)
            refine ⟨ft, cnt2 + 1, upd cd2 cnt2 (-33), ?_, by omega, e3, fun h => ?_⟩
            · unfold X0_readSingle_body
              rw [ob2_of (next_good hC hi), ob2_of (pk_dig hB _).1, if_neg hd, if_pos rfl, ob2_of (isName_no hl _), if_pos rfl, if_pos (show pk B n i = (33 : Int32) from h33), if_neg (k5 (by omega)), lt_of, CM_up, nI_1, ob_of e1, ob_of (emit_ok (by omega))]
            · obtain ⟨rfl, rfl, rfl⟩ := e4 h
              refine ⟨rfl, by simp; omega, ?_⟩
              rw [app_app, app_one]
          · obtain ⟨x, e1, e2⟩ := b5 ν fr hν
            refine ⟨if x = 0 then 1 else 0, ?_, fun h => by rw [e2 h]⟩
            unfold X10_single_body
            rw [ob2_of (byte_good hν hi), ob2_of (pk_dig hB _).2, if_neg hd, if_pos rfl]
            refine (let_no (S2 := S2) hν hl 100 0 FU (by omega) (by omega) (by omega)).trans ?_
            rw [if_pos (show pk B n i = (33 : Int32) from h33)]
            unfold X10_single_153
            rw [MM_9, if_neg (by intro q; have h2 := congrArg Int32.toInt q; rw [i_n op (by omega)] at h2; have e5 : (5 : Int32).toInt = 5 := rfl; omega), lt_of, MM_up, lt_of, MM_9, nI_1, MM_st9, h33, if_neg (by decide), ob2_of e1]
            unfold X10_single_213 X10_single_234
            by_cases hx : x = 0
            · rw [if_pos hx, if_neg (by decide), lt_of, MM_dn, if_pos hx]
            · rw [if_neg hx, if_neg (by decide), lt_of, MM_dn, if_neg hx]
        · by_cases h40 : pk B n i = nI 40
          · -- a bracket
            have hin := (pk_op hB (by omega) h40).1
            obtain ⟨j, bad, cs, v, b1, b2, b3, b4, b5⟩ := nt_either hC (hS (by omega)) (i + 1) (by omega)
            have hcl : ∀ cnt cd, X0_readSingle_body S (nI op) (CM μ i (-1) cnt cd) = ob (X0_readEither S (nI (op + 1)) (CM μ (i + 1) (-1) cnt cd)) fun μ11 => ob (X0_readClosing μ11) fun μ12 => some μ12 := by
              intro cnt cd
              unfold X0_readSingle_body
              rw [ob2_of (next_good hC hi), ob2_of (pk_dig hB _).1, if_neg hd, if_pos rfl, ob2_of (isName_no hl _), if_pos rfl, if_neg (show ¬ pk B n i = (33 : Int32) from h33)]
              unfold X0_readSingle_82
              rw [if_pos (show pk B n i = (40 : Int32) from h40), if_neg (k5 (by omega)), lt_of, CM_up, nI_1]
            have hmo : ∀ ν fr, MOK ν B n fr → X10_single_body S2 (MM ν i op false) = ob2 (X10_either S2 (MM ν (i + 1) (op + 1) false)) fun r17 μ17 => X10_single_213 S2 40 r17 μ17 := by
              intro ν fr hν
              unfold X10_single_body
              rw [ob2_of (byte_good hν hi), ob2_of (pk_dig hB _).2, if_neg hd, if_pos rfl]
              refine (let_no (S2 := S2) hν hl 100 0 FU (by omega) (by omega) (by omega)).trans ?_
              rw [if_neg (show ¬ pk B n i = (33 : Int32) from h33), if_pos (show pk B n i = (40 : Int32) from h40)]
              unfold X10_single_153
              rw [MM_9, if_neg (by intro q; have h2 := congrArg Int32.toInt q; rw [i_n op (by omega)] at h2; have e5 : (5 : Int32).toInt = 5 := rfl; omega), lt_of, MM_up, lt_of, MM_9, nI_1, MM_st9, h40, if_pos (by decide)]
              rfl
            have h213 : ∀ (x : Int32) (m m2 : Mem) (r : Int32), X10_eats 41 m = some (r, m2) → X10_single_213 S2 40 x m = (if r = 0 then lt (st m2 0 10 1) fun μ16 => X10_single_234 S2 x μ16 else X10_single_234 S2 x m2) := by
              intro x m m2 r he
              unfold X10_single_213
              rw [if_pos rfl, ob2_of he]
            cases bad with
            | true =>
              refine ⟨j, true, cs, v, by omega, b2, fun h => (by cases h), fun cnt cd hcnt => ?_, fun ν fr hν => ?_⟩
              · obtain ⟨ft, cnt2, cd2, e1, e2, e3, e4⟩ := b4 cnt cd (by omega)
                obtain ⟨z, hz, hnz⟩ := next_stk (cnt := cnt2) (cd := cd2) hC b2 (e3 rfl)
                refine ⟨nI j, cnt2, cd2, ?_, by omega, fun _ => Or.inl rfl, fun h => (by cases h)⟩
                rw [hcl, ob_of e1]
                unfold X0_readClosing
                rw [ob2_of hz, if_neg (show ¬ z = (41 : Int32) from noop_ne (k := 41) hnz (by omega)), ob_of (fail_ok (B := B) (n := n) (by omega) (Or.inl (e3 rfl)))]
                rfl
              · obtain ⟨x, e1, e2⟩ := b5 ν fr hν
                refine ⟨x, ?_, fun h => (by cases h)⟩
                rw [hmo ν fr hν, ob2_of e1, h213 x _ _ _ (eats_no byte_bad (by decide)), if_pos rfl, lt_of, MM_bad2]
                unfold X10_single_234
                rw [lt_of, MM_dn]
            | false =>
              obtain ⟨d1, d2, d3⟩ := b3 rfl
              by_cases h41 : pk B n j = nI 41
              · have hjn := (pk_op hB (by omega) h41).1
                refine ⟨j + 1, false, cs, v, by omega, by omega, fun _ => ⟨by omega, by omega, d3⟩, fun cnt cd hcnt => ?_, fun ν fr hν => ?_⟩
                · obtain ⟨ft, cnt2, cd2, e1, e2, e3, e4⟩ := b4 cnt cd (by omega)
                  obtain ⟨rfl, rfl, rfl⟩ := e4 rfl
                  refine ⟨-1, cnt + cs.length, app cd cnt cs, ?_, by omega, fun h => (by cases h), fun _ => ⟨rfl, rfl, rfl⟩⟩
                  rw [hcl, ob_of e1]
                  unfold X0_readClosing
                  rw [ob2_of (next_good hC b2), if_pos (show pk B n j = (41 : Int32) from h41), lt_of, CM_up]
                  rfl
                · obtain ⟨x, e1, e2⟩ := b5 ν fr hν
                  refine ⟨x, ?_, e2⟩
                  rw [hmo ν fr hν, ob2_of e1, h213 x _ _ _ (eats_yes (by rw [byte_good hν b2, h41]; rfl)), if_neg (by decide)]
                  unfold X10_single_234
                  rw [lt_of, MM_dn]
              · refine ⟨j, true, cs, v, by omega, b2, fun h => (by cases h), fun cnt cd hcnt => ?_, fun ν fr hν => ?_⟩
                · obtain ⟨ft, cnt2, cd2, e1, e2, e3, e4⟩ := b4 cnt cd (by omega)
                  obtain ⟨rfl, rfl, rfl⟩ := e4 rfl
                  refine ⟨nI j, cnt + cs.length, app cd cnt cs, ?_, by omega, fun _ => Or.inl rfl, fun h => (by cases h)⟩
                  rw [hcl, ob_of e1]
                  unfold X0_readClosing
                  rw [ob2_of (next_good hC b2), if_neg (show ¬ pk B n j = (41 : Int32) from h41), ob_of (fail_ok (B := B) (n := n) (by omega) (Or.inr rfl))]
                  rfl
                · obtain ⟨x, e1, e2⟩ := b5 ν fr hν
                  refine ⟨x, ?_, fun h => (by cases h)⟩
                  rw [hmo ν fr hν, ob2_of e1, h213 x _ _ _ (eats_no (byte_good hν b2) h41), if_pos rfl, lt_of, MM_bad2]
                  unfold X10_single_234
                  rw [lt_of, MM_dn]
          · exact hbad hd hl (fun h => by rcases h with h | h; exact absurd h h33; exact absurd h h40)
theorem nt_hub (hC : COK μ B n) : ∀ (m op f : Nat), 5 - op < m → op ≤ 5 → m ≤ f → ∀ i, i ≤ n → NT μ B n op i (X0_readSingle f (nI op)) (X10_single f) := by
  intro m
  induction m with
  | zero => intro op f h; omega
  | succ m ih =>
    intro op f hm hop hf i hi
    obtain ⟨f, rfl⟩ : ∃ f1, f = f1 + 1 := ⟨f - 1, by omega⟩
    exact nt_single (S := X0_readSingle f) (S2 := X10_single f) hC hop (fun h => ih (op + 1) f (by omega) (by omega) (by omega)) i hi
theorem nt_top (hC : COK μ B n) : NT μ B n 0 0 (X0_readEither (X0_readSingle 10) (nI 0)) (X10_either (X10_single 10)) := nt_either hC (nt_hub hC 9 0 10 (by omega) (by omega) (by omega)) 0 (by omega)
end RH
