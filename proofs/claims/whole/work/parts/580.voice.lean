/-! voices -/
def VX (μ0 ν0 μ ν : Mem) : Prop := VS μ ν ∧ (∀ a, a ≠ 83 → a ≠ 84 → μ a = μ0 a) ∧ (∀ a, a ≠ 0 → a ≠ 7 → ν a = ν0 a) ∧ ∀ j, j ≠ 14 → ν 0 j = ν0 0 j
def TT (μ0 ν0 : Mem) (f g : Mem → Option (Int32 × Mem)) : Prop := ∀ μ ν, VX μ0 ν0 μ ν → ∃ r μ2 ν2, f μ = some (r, μ2) ∧ g ν = some (r, ν2) ∧ VX μ0 ν0 μ2 ν2
section VO
variable {μ0 ν0 : Mem}
theorem note_ok {μ ν : Mem} (h : VX μ0 ν0 μ ν) (v : Int32) : ∃ μ2 ν2, X8_note v μ = some μ2 ∧ X10_begins v ν = some ν2 ∧ VX μ0 ν0 μ2 ν2 := by
  obtain ⟨⟨n, v1, v2, v3, v4⟩, h2, h3, h4⟩ := id h
  unfold X8_note X10_begins
  rw [v2, v3]
  by_cases hn : n = 40
  · subst hn
    rw [if_pos (show (40 : Int32) ≤ nI 40 by decide), if_pos (show (40 : Int32) ≤ nI 40 by decide)]
    exact ⟨μ, ν, rfl, rfl, h⟩
  · have hin : inB (nI n) 40 := i_in (by omega) (by omega)
    rw [if_neg (show ¬ (40 : Int32) ≤ nI n from nle (b := 40) (by omega) (by decide)), if_neg (show ¬ (40 : Int32) ≤ nI n from nle (b := 40) (by omega) (by decide)), gd_pos hin, gd_pos hin, i_tn (by omega), lt_of, lt_of, lt_of, lt_of, st_other _ _ _ (show (83 : Nat) ≠ 84 by decide), st_other _ _ _ (show (0 : Nat) ≠ 7 by decide), v2, v3, nI_1]
    refine ⟨_, _, rfl, rfl, ⟨n + 1, by omega, st_eq, st_eq, fun i hi => ?_⟩, fun a q1 q2 => ?_, fun a q1 q2 => ?_, fun i hi => ?_⟩
    · rw [st_other _ _ _ (show (84 : Nat) ≠ 83 by decide), st_other _ _ _ (show (7 : Nat) ≠ 0 by decide)]
      by_cases hin : i = n
      · subst hin
        rw [st_eq, st_eq]
      · rw [st_ne (by omega), st_ne (by omega)]
        exact v4 i (by omega)
    · rw [st_other _ _ _ q1, st_other _ _ _ q2]; exact h2 a q1 q2
    · rw [st_other _ _ _ q1, st_other _ _ _ q2]; exact h3 a q1 q2
    · rw [st_ne (by omega), st_other _ _ _ (by decide)]; exact h4 i hi
theorem TT.bind {f g : Mem → Option (Int32 × Mem)} {F G : Int32 → Mem → Option (Int32 × Mem)} (h : TT μ0 ν0 f g) (k : ∀ r, TT μ0 ν0 (F r) (G r)) : TT μ0 ν0 (fun μ => ob2 (f μ) F) (fun ν => ob2 (g ν) G) := by
  intro μ ν H
  obtain ⟨r, μ2, ν2, e1, e2, H2⟩ := h μ ν H
  obtain ⟨r3, μ3, ν3, e3, e4, H3⟩ := k r μ2 ν2 H2
  exact ⟨r3, μ3, ν3, by dsimp only; rw [ob2_of e1, e3], by dsimp only; rw [ob2_of e2, e4], H3⟩
theorem TT.note {F G : Mem → Option (Int32 × Mem)} (v : Int32) (k : TT μ0 ν0 F G) : TT μ0 ν0 (fun μ => ob (X8_note v μ) F) (fun ν => ob (X10_begins v ν) G) := by
  intro μ ν H
  obtain ⟨μ2, ν2, e1, e2, H2⟩ := note_ok H v
  obtain ⟨r3, μ3, ν3, e3, e4, H3⟩ := k μ2 ν2 H2
  exact ⟨r3, μ3, ν3, by dsimp only; rw [ob_of e1, e3], by dsimp only; rw [ob_of e2, e4], H3⟩
theorem TT.ret {p q : Mem → Int32} (h : ∀ μ ν, VX μ0 ν0 μ ν → p μ = q ν) : TT μ0 ν0 (fun μ => some (p μ, μ)) (fun ν => some (q ν, ν)) := fun μ ν H => ⟨p μ, μ, ν, rfl, by dsimp only; rw [h μ ν H], H⟩
theorem TT.cg {f g f' g' : Mem → Option (Int32 × Mem)} (k : TT μ0 ν0 f' g') (h : ∀ μ ν, VX μ0 ν0 μ ν → f μ = f' μ ∧ g ν = g' ν) : TT μ0 ν0 f g := by
  intro μ ν H
  obtain ⟨h1, h2⟩ := h μ ν H
  rw [h1, h2]
  exact k μ ν H
theorem TT.id {f g : Mem → Option (Int32 × Mem)} (k : TT μ0 ν0 f g) : TT μ0 ν0 (fun μ => ob2 (f μ) fun r m => some (r, m)) (fun ν => ob2 (g ν) fun r m => some (r, m)) := k.bind (fun r => TT.ret (fun _ _ _ => rfl))
/-- a body of the class: what it notes, then what it does; up: the kind above its owner -/
def CH (S : Nat → Int32 → Int32 → Int32 → Int32 → Mem → Option (Int32 × Mem)) (a1 : Nat) (b up x4 x5 : Int32) (μ2 : Mem) : Option (Int32 × Mem) :=
  ob (X8_note b μ2) fun μ7 => (if b = 10 then some ((x4 + ((μ2 a1 3) + (μ2 a1 4))), μ7) else (if b = 11 then ob2 (S a1 (μ7 a1 2) 0 x4 (x5 + 1) μ7) fun r10 μ10 => some ((r10 * 2), μ10) else (if b = 12 then some ((x4 - (μ7 a1 1)), μ7) else (if b = 13 then ob2 (S a1 (μ7 a1 2) 1 x4 (x5 + 1) μ7) fun r13 μ13 => ob2 (S a1 (μ13 a1 2) 2 x4 (x5 + 1) μ13) fun r14 μ14 => some ((r13 ^^^ r14), μ14) else (if b = 20 then ob2 (S a1 up 0 x4 (x5 + 1) μ7) fun r16 μ16 => some ((r16 - (μ16 a1 1)), μ16) else (if b = 21 then ob2 (S a1 up 3 (x4 + 1) (x5 + 1) μ7) fun r18 μ18 => some (r18, μ18) else (if b = 30 then ob2 (S a1 up 1 x4 (x5 + 1) μ7) fun r20 μ20 => ob2 (S a1 (μ20 a1 2) 2 x4 (x5 + 1) μ20) fun r21 μ21 => some ((r20 + r21), μ21) else (if b = 40 then ob2 (S a1 up 2 x4 (x5 + 1) μ7) fun r23 μ23 => some ((r23 * 3), μ23) else (if b = 41 then ob2 (S a1 up 0 (x4 + ((μ2 a1 3) + (μ2 a1 4))) (x5 + 1) μ7) fun r25 μ25 => some (r25, μ25) else (if b = 50 then ob2 (S a1 (μ7 a1 2) 2 x4 (x5 + 1) μ7) fun r27 μ27 => ob2 (S a1 up 3 x4 (x5 + 1) μ27) fun r28 μ28 => some ((r27 - r28), μ28) else (if b = 51 then ob2 (S a1 up 1 x4 (x5 + 1) μ7) fun r30 μ30 => ob2 (S a1 (μ30 a1 2) 0 x4 (x5 + 1) μ30) fun r31 μ31 => some ((r30 ^^^ r31), μ31) else (if b = 60 then ob2 (S a1 up 2 (x4 - ((μ2 a1 3) + (μ2 a1 4))) (x5 + 1) μ7) fun r33 μ33 => some (r33, μ33) else some (0, μ7)))))))))))))
theorem say_b {k w o : Int32} {d n a1 : Nat} (x : Int32) {μ : Mem} (ho : X8_ownerOf k w μ = some (o, μ)) (hk : X9_isKind o μ = some (1, μ)) (hd : d ≤ 20) (h1 : inB (o * 4 + w) 24) (h2 : inB o 6) : X8_say (n + 1) a1 k w x (nI d) μ = CH (X8_say n) a1 (BO (o * 4 + w).toNatClampNeg) (KA o.toNatClampNeg) x (nI d) μ := by
  show X8_say_body (X8_say n) a1 k w x (nI d) μ = _
  unfold X8_say_body CH
  rw [ob2_of ho, ob2_of hk, if_neg (show ¬ (1 : Int32) = 0 by decide), if_pos (show nI d ≤ 20 from nI_le (b := 20) hd (by decide)), gd_pos h1, gd_pos h2]
def bo (k w : Nat) : Int32 := ([10, 11, 12, 13, 20, 11, 12, 21, 10, 30, 12, 13, 41, 11, 40, 21, 10, 51, 12, 50, 20, 11, 60, 21] : List Int32).getD (4 * k + w) 0
def ow (k w : Nat) : Int32 := ([0, 0, 0, 0, 1, 0, 0, 1, 0, 2, 0, 0, 3, 0, 3, 1, 0, 4, 0, 4, 1, 0, 5, 1] : List Int32).getD (4 * k + w) 0
theorem own_ok (μ : Mem) {k w : Nat} (hk : k < 6) (hw : w < 4) : X8_ownerOf (nI k) (nI w) μ = some (ow k w, μ) := by
  obtain ⟨f, hf⟩ : ∃ f, FU = f + 8 := ⟨FU - 8, by have := FU_ge; omega⟩
  unfold X8_ownerOf
  rw [hf]
  rcases (show k = 0 ∨ k = 1 ∨ k = 2 ∨ k = 3 ∨ k = 4 ∨ k = 5 by omega) with rfl | rfl | rfl | rfl | rfl | rfl <;> rcases (show w = 0 ∨ w = 1 ∨ w = 2 ∨ w = 3 by omega) with rfl | rfl | rfl | rfl <;> rfl
theorem say_kw {d n a1 : Nat} (x : Int32) (μ : Mem) {k w : Nat} (hk : k < 6) (hw : w < 4) (hd : d ≤ 20) : X8_say (n + 1) a1 (nI k) (nI w) x (nI d) μ = CH (X8_say n) a1 (bo k w) (KA (ow k w).toNatClampNeg) x (nI d) μ := by
  have hr := say_b (n := n) (a1 := a1) x (own_ok μ hk hw) (d := d)
  rcases (show k = 0 ∨ k = 1 ∨ k = 2 ∨ k = 3 ∨ k = 4 ∨ k = 5 by omega) with rfl | rfl | rfl | rfl | rfl | rfl <;> rcases (show w = 0 ∨ w = 1 ∨ w = 2 ∨ w = 3 by omega) with rfl | rfl | rfl | rfl <;> exact hr rfl hd (by decide) (by decide)
end VO
