/-! masks -/
def tb (x : Int32) (s : Nat) : Bool := x.toBitVec.getLsbD s
theorem tb_ext {x y : Int32} (h : ∀ i, i < 32 → tb x i = tb y i) : x = y := Int32.toBitVec_inj.mp (BitVec.eq_of_getLsbD_eq (fun i hi => h i hi))
theorem tb_0 (s : Nat) : tb 0 s = false := by
  unfold tb
  simp
theorem tb_or (x y : Int32) (s : Nat) : tb (x ||| y) s = (tb x s || tb y s) := by
  unfold tb
  rw [Int32.toBitVec_or, BitVec.getLsbD_or]
theorem tb_and (x y : Int32) (s : Nat) : tb (x &&& y) s = (tb x s && tb y s) := by
  unfold tb
  rw [Int32.toBitVec_and, BitVec.getLsbD_and]
theorem tb_nI (k s : Nat) : tb (nI k) s = (decide (s < 32) && k.testBit s) := by
  unfold tb
  show (BitVec.ofNat 32 k).getLsbD s = _
  rw [BitVec.getLsbD_ofNat]
theorem shl_n {s : Nat} (hs : s ≤ 8) : (1 : Int32) <<< (nI s &&& 31) = nI (2 ^ s) := by
  rcases (show s = 0 ∨ s = 1 ∨ s = 2 ∨ s = 3 ∨ s = 4 ∨ s = 5 ∨ s = 6 ∨ s = 7 ∨ s = 8 by omega) with rfl | rfl | rfl | rfl | rfl | rfl | rfl | rfl | rfl <;> decide
theorem tb_shl {s : Nat} (hs : s ≤ 8) (i : Nat) : tb ((1 : Int32) <<< (nI s &&& 31)) i = decide (i = s) := by
  rw [shl_n hs, tb_nI, Nat.testBit_two_pow]
  by_cases h : i = s
  · subst h
    simp
    omega
  · rw [decide_eq_false (show ¬ s = i from fun q => h q.symm), decide_eq_false h, Bool.and_false]
theorem zero_tb (x : Int32) : x = 0 ↔ ∀ i, i < 32 → tb x i = false := ⟨fun h i _ => by rw [h, tb_0], fun h => tb_ext (fun i hi => by rw [h i hi, tb_0])⟩
theorem shr_n {s : Nat} (hs : s < 8) (x : Int32) : ((x >>> (nI s &&& 31)) &&& 1 = 1) ↔ tb x s = true := by
  have e : ∀ i, i < 32 → tb ((x >>> (nI s &&& 31)) &&& 1) i = (decide (i = 0) && tb x s) := by
    intro i hi
    rw [tb_and]
    have h1 : tb 1 i = decide (i = 0) := by
      have := tb_shl (s := 0) (by decide) i
      exact this
    rw [h1]
    by_cases h0 : i = 0
    · subst h0
      rw [decide_eq_true rfl, Bool.and_true, Bool.true_and]
      unfold tb
      rw [Int32.toBitVec_shiftRight]
      have hq : ((nI s &&& 31).toBitVec.smod 32).toNat = s := by
        rcases (show s = 0 ∨ s = 1 ∨ s = 2 ∨ s = 3 ∨ s = 4 ∨ s = 5 ∨ s = 6 ∨ s = 7 by omega) with rfl | rfl | rfl | rfl | rfl | rfl | rfl | rfl <;> decide
      show (x.toBitVec.sshiftRight ((nI s &&& 31).toBitVec.smod 32).toNat).getLsbD 0 = _
      rw [hq, BitVec.getLsbD_sshiftRight]
      simp
      omega
    · rw [decide_eq_false h0, Bool.and_false, Bool.false_and]
  constructor
  · intro h
    have := e 0 (by omega)
    rw [h] at this
    have h1 : tb 1 0 = true := by decide
    rw [h1] at this
    simpa using this.symm
  · intro h
    refine tb_ext (fun i hi => ?_)
    rw [e i hi, h, Bool.and_true]
    exact (tb_shl (s := 0) (by decide) i).symm
def pc (k : Nat) : Nat := k % 2 + k / 2 % 2 + k / 4 % 2 + k / 8 % 2 + k / 16 % 2 + k / 32 % 2 + k / 64 % 2 + k / 128 % 2
def S10 (x : Int32) : Int32 := 0 + ((x >>> ((0 : Int32) &&& 31)) &&& 1) + ((x >>> ((1 : Int32) &&& 31)) &&& 1) + ((x >>> ((2 : Int32) &&& 31)) &&& 1) + ((x >>> ((3 : Int32) &&& 31)) &&& 1) + ((x >>> ((4 : Int32) &&& 31)) &&& 1) + ((x >>> ((5 : Int32) &&& 31)) &&& 1) + ((x >>> ((6 : Int32) &&& 31)) &&& 1) + ((x >>> ((7 : Int32) &&& 31)) &&& 1) + ((x >>> ((8 : Int32) &&& 31)) &&& 1) + ((x >>> ((9 : Int32) &&& 31)) &&& 1)
theorem S10_pc : ∀ k, k < 256 → S10 (nI k) = nI (pc k) := by decide +kernel
theorem ones_S (x : Int32) (m : Mem) : X10_ones x m = some (S10 x, m) := by
  obtain ⟨f, hf⟩ : ∃ f, FU = f + 11 := ⟨FU - 11, by have := FU_ge; omega⟩
  unfold X10_ones S10
  rw [hf]
  rfl
theorem bc_pc (m : Mem) : ∀ k, k < 256 → J6_bitCount_0f7a4 (nI k) m = some (nI (pc k), m) := by
  have h : ∀ k, k < 256 → (J6_bitCount_0f7a4 (nI k) (fun _ _ => 0)).map Prod.fst = some (nI (pc k)) := by decide +kernel
  intro k hk
  have := h k hk
  unfold J6_bitCount_0f7a4 at this ⊢
  simp only [Option.map_some] at this
  injection this with this
  rw [this]
theorem pc_le (k : Nat) : pc k ≤ 8 := by
  unfold pc
  omega
theorem pc_8 : ∀ k, k < 256 → pc k = 8 → k = 255 := by decide +kernel
theorem pc_mod : ∀ s, s < 9 → ∀ k, k < 256 → pc (k % 2 ^ s) ≤ pc k := by decide +kernel
