/-! each voice, the class's and the model's -/
def HB (a1 K : Nat) (μ0 ν0 : Mem) : Prop := K < 6 ∧ a1 ≠ 83 ∧ a1 ≠ 84 ∧ μ0 a1 1 = ν0 0 15 ∧ μ0 a1 3 + μ0 a1 4 = ν0 0 16 ∧ μ0 a1 2 = nI K ∧ ν0 0 17 = nI K
theorem ob2_id (y : Option (Int32 × Mem)) : (ob2 y fun r m => some (r, m)) = y := by
  cases y <;> rfl
section VP
variable {μ0 ν0 : Mem} {a1 K : Nat} {S : Nat → Int32 → Int32 → Int32 → Int32 → Mem → Option (Int32 × Mem)} {u x d : Int32}
theorem HB.c {μ ν : Mem} (B : HB a1 K μ0 ν0) (H : VX μ0 ν0 μ ν) : μ a1 = μ0 a1 := H.2.1 a1 B.2.1 B.2.2.1
theorem HB.m15 {μ ν : Mem} (B : HB a1 K μ0 ν0) (H : VX μ0 ν0 μ ν) : ν 0 15 = μ a1 1 := by rw [H.2.2.2 15 (by decide), B.c H, B.2.2.2.1]
theorem HB.m16 {μ ν : Mem} (B : HB a1 K μ0 ν0) (H : VX μ0 ν0 μ ν) : ν 0 16 = μ0 a1 3 + μ0 a1 4 := by rw [H.2.2.2 16 (by decide), B.2.2.2.2.1]
theorem HB.m17 {μ ν : Mem} (B : HB a1 K μ0 ν0) (H : VX μ0 ν0 μ ν) : ν 0 17 = nI K := by rw [H.2.2.2 17 (by decide), B.2.2.2.2.2.2]
theorem HB.c2 {μ ν : Mem} (B : HB a1 K μ0 ν0) (H : VX μ0 ν0 μ ν) : μ a1 2 = nI K := by rw [B.c H, B.2.2.2.2.2.1]
theorem T10 (B : HB a1 K μ0 ν0) : TT μ0 ν0 (CH S a1 10 u x d) (X10_meterTick x) :=
  TT.cg (TT.note 10 (TT.ret (p := fun _ => x + (μ0 a1 3 + μ0 a1 4)) (q := fun m => x + m 0 16) (fun μ ν H => by rw [B.m16 H]))) (fun μ ν H => ⟨by
    show (ob (X8_note 10 μ) fun m => some (x + (μ a1 3 + μ a1 4), m)) = _
    rw [B.c H], rfl⟩)
theorem T12 (B : HB a1 K μ0 ν0) : TT μ0 ν0 (CH S a1 12 u x d) (X10_meterClick x) :=
  TT.cg (TT.note 12 (TT.ret (p := fun m => x - m a1 1) (q := fun m => x - m 0 15) (fun μ ν H => by rw [B.m15 H]))) (fun μ ν H => ⟨rfl, rfl⟩)
theorem T20 (B : HB a1 K μ0 ν0) (h : TT μ0 ν0 (S a1 u 0 x (d + 1)) (X10_meterTick x)) : TT μ0 ν0 (CH S a1 20 u x d) (X10_keyedTick x) :=
  TT.cg (TT.note 20 (h.bind (F := fun r m => some (r - m a1 1, m)) (G := fun r m => some (r - m 0 15, m)) (fun r => TT.ret (p := fun m => r - m a1 1) (q := fun m => r - m 0 15) (fun μ ν H => by rw [B.m15 H])))) (fun μ ν H => ⟨rfl, rfl⟩)
theorem T41 (B : HB a1 K μ0 ν0) (h : TT μ0 ν0 (S a1 u 0 (x + (μ0 a1 3 + μ0 a1 4)) (d + 1)) (X10_keyedTick (x + (μ0 a1 3 + μ0 a1 4)))) : TT μ0 ν0 (CH S a1 41 u x d) (fun ν => ob (X10_begins 41 ν) fun μ6 => ob2 (X10_keyedTick (x + (μ6 0 16)) μ6) fun r7 μ7 => some (r7, μ7)) :=
  TT.cg (TT.note 41 (TT.cg (f := fun m => ob2 (S a1 u 0 (x + (μ0 a1 3 + μ0 a1 4)) (d + 1) m) fun r m => some (r, m)) (g := fun m => ob2 (X10_keyedTick (x + (m 0 16)) m) fun r m => some (r, m)) h.id (fun μ ν H => ⟨rfl, by rw [B.m16 H]⟩))) (fun μ ν H => ⟨by
    show (ob (X8_note 41 μ) fun m => ob2 (S a1 u 0 (x + (μ a1 3 + μ a1 4)) (d + 1) m) fun r m => some (r, m)) = _
    rw [B.c H], rfl⟩)
theorem T40 (h : TT μ0 ν0 (S a1 u 2 x (d + 1)) (X10_meterClick x)) : TT μ0 ν0 (CH S a1 40 u x d) (fun ν => ob (X10_begins 40 ν) fun μ6 => ob2 (X10_meterClick x μ6) fun r7 μ7 => some ((r7 * 3), μ7)) :=
  TT.cg (TT.note 40 (h.bind (F := fun r m => some (r * 3, m)) (G := fun r m => some (r * 3, m)) (fun r => TT.ret (fun _ _ _ => rfl)))) (fun μ ν H => ⟨rfl, rfl⟩)
theorem T60 (B : HB a1 K μ0 ν0) (h : TT μ0 ν0 (S a1 u 2 (x - (μ0 a1 3 + μ0 a1 4)) (d + 1)) (X10_meterClick (x - (μ0 a1 3 + μ0 a1 4)))) : TT μ0 ν0 (CH S a1 60 u x d) (fun ν => ob (X10_begins 60 ν) fun μ4 => ob2 (X10_meterClick (x - (μ4 0 16)) μ4) fun r5 μ5 => some (r5, μ5)) :=
  TT.cg (TT.note 60 (TT.cg (f := fun m => ob2 (S a1 u 2 (x - (μ0 a1 3 + μ0 a1 4)) (d + 1) m) fun r m => some (r, m)) (g := fun m => ob2 (X10_meterClick (x - (m 0 16)) m) fun r m => some (r, m)) h.id (fun μ ν H => ⟨rfl, by rw [B.m16 H]⟩))) (fun μ ν H => ⟨by
    show (ob (X8_note 60 μ) fun m => ob2 (S a1 u 2 (x - (μ a1 3 + μ a1 4)) (d + 1) m) fun r m => some (r, m)) = _
    rw [B.c H], rfl⟩)
/-- a call in the class with its own kind -/
theorem own_call (B : HB a1 K μ0 ν0) {w y e : Int32} {g : Mem → Option (Int32 × Mem)} (h : TT μ0 ν0 (S a1 (nI K) w y e) g) : TT μ0 ν0 (fun m => S a1 (m a1 2) w y e m) g := TT.cg h (fun μ ν H => ⟨by rw [B.c2 H], rfl⟩)
theorem T11 (B : HB a1 K μ0 ν0) (h : TT μ0 ν0 (S a1 (nI K) 0 x (d + 1)) (X10_tick x)) : TT μ0 ν0 (CH S a1 11 u x d) (X10_meterHum x) :=
  TT.cg (TT.note 11 ((own_call B h).bind (F := fun r m => some (r * 2, m)) (G := fun r m => some (r * 2, m)) (fun r => TT.ret (fun _ _ _ => rfl)))) (fun μ ν H => ⟨rfl, rfl⟩)
theorem T30 (B : HB a1 K μ0 ν0) (h1 : TT μ0 ν0 (S a1 u 1 x (d + 1)) (X10_meterHum x)) (h2 : TT μ0 ν0 (S a1 (nI K) 2 x (d + 1)) (X10_click x)) : TT μ0 ν0 (CH S a1 30 u x d) (X10_smartHum x) :=
  TT.cg (TT.note 30 (h1.bind (F := fun r m => ob2 (S a1 (m a1 2) 2 x (d + 1) m) fun r2 m => some (r + r2, m)) (G := fun r m => ob2 (X10_click x m) fun r2 m => some (r + r2, m)) (fun r => (own_call B h2).bind (fun r2 => TT.ret (fun _ _ _ => rfl))))) (fun μ ν H => ⟨rfl, rfl⟩)
theorem T51 (B : HB a1 K μ0 ν0) (h1 : TT μ0 ν0 (S a1 u 1 x (d + 1)) (X10_smartHum x)) (h2 : TT μ0 ν0 (S a1 (nI K) 0 x (d + 1)) (X10_tick x)) : TT μ0 ν0 (CH S a1 51 u x d) (fun ν => ob (X10_begins 51 ν) fun μ5 => ob2 (X10_smartHum x μ5) fun r6 μ6 => ob2 (X10_tick x μ6) fun r7 μ7 => some ((r6 ^^^ r7), μ7)) :=
  TT.cg (TT.note 51 (h1.bind (F := fun r m => ob2 (S a1 (m a1 2) 0 x (d + 1) m) fun r2 m => some (r ^^^ r2, m)) (G := fun r m => ob2 (X10_tick x m) fun r2 m => some (r ^^^ r2, m)) (fun r => (own_call B h2).bind (fun r2 => TT.ret (fun _ _ _ => rfl))))) (fun μ ν H => ⟨rfl, rfl⟩)
theorem T13 (B : HB a1 K μ0 ν0) (h1 : TT μ0 ν0 (S a1 (nI K) 1 x (d + 1)) (X10_hum x)) (h2 : TT μ0 ν0 (S a1 (nI K) 2 x (d + 1)) (X10_click x)) : TT μ0 ν0 (CH S a1 13 u x d) (X10_meterTell x) :=
  TT.cg (TT.note 13 ((own_call B h1).bind (F := fun r m => ob2 (S a1 (m a1 2) 2 x (d + 1) m) fun r2 m => some (r ^^^ r2, m)) (G := fun r m => ob2 (X10_click x m) fun r2 m => some (r ^^^ r2, m)) (fun r => (own_call B h2).bind (fun r2 => TT.ret (fun _ _ _ => rfl))))) (fun μ ν H => ⟨rfl, rfl⟩)
theorem T21 (h : TT μ0 ν0 (S a1 u 3 (x + 1) (d + 1)) (X10_meterTell (x + 1))) : TT μ0 ν0 (CH S a1 21 u x d) (X10_tell_24 x) :=
  TT.cg (TT.note 21 h.id) (fun μ ν H => ⟨rfl, rfl⟩)
theorem T50 (B : HB a1 K μ0 ν0) (h1 : TT μ0 ν0 (S a1 (nI K) 2 x (d + 1)) (X10_click x)) (h2 : TT μ0 ν0 (S a1 u 3 x (d + 1)) (X10_meterTell x)) : TT μ0 ν0 (CH S a1 50 u x d) (fun ν => ob (X10_begins 50 ν) fun μ8 => ob2 (X10_click x μ8) fun r9 μ9 => ob2 (X10_meterTell x μ9) fun r10 μ10 => some ((r9 - r10), μ10)) :=
  TT.cg (TT.note 50 ((own_call B h1).bind (F := fun r m => ob2 (S a1 u 3 x (d + 1) m) fun r2 m => some (r - r2, m)) (G := fun r m => ob2 (X10_meterTell x m) fun r2 m => some (r - r2, m)) (fun r => h2.bind (fun r2 => TT.ret (fun _ _ _ => rfl))))) (fun μ ν H => ⟨rfl, rfl⟩)
end VP
section VQ
variable {μ0 ν0 : Mem} {a1 K : Nat}
theorem say_t {n d : Nat} {x : Int32} {k w : Nat} {g : Mem → Option (Int32 × Mem)} (hk : k < 6) (hw : w < 4) (hd : d ≤ 20) (h : TT μ0 ν0 (CH (X8_say n) a1 (bo k w) (KA (ow k w).toNatClampNeg) x (nI d)) g) : TT μ0 ν0 (X8_say (n + 1) a1 (nI k) (nI w) x (nI d)) g := TT.cg h (fun μ ν H => ⟨say_kw x μ hk hw hd, rfl⟩)
theorem say_t1 {n d : Nat} {x : Int32} {k w : Nat} {g : Mem → Option (Int32 × Mem)} (hk : k < 6) (hw : w < 4) (hd : d < 20) (h : TT μ0 ν0 (CH (X8_say n) a1 (bo k w) (KA (ow k w).toNatClampNeg) x (nI (d + 1))) g) : TT μ0 ν0 (X8_say (n + 1) a1 (nI k) (nI w) x (nI d + 1)) g := by
  rw [nI_1]
  exact say_t hk hw (by omega) h
/-- the static ones, one deeper -/
theorem s10 (B : HB a1 K μ0 ν0) (n d : Nat) (x : Int32) (hd : d < 20) : TT μ0 ν0 (X8_say (n + 1) a1 0 0 x (nI d + 1)) (X10_meterTick x) := say_t1 (k := 0) (w := 0) (by decide) (by decide) hd (T10 B)
theorem s12 (B : HB a1 K μ0 ν0) (n d : Nat) (x : Int32) (hd : d < 20) : TT μ0 ν0 (X8_say (n + 1) a1 1 2 x (nI d + 1)) (X10_meterClick x) := say_t1 (k := 1) (w := 2) (by decide) (by decide) hd (T12 B)
theorem s20 (B : HB a1 K μ0 ν0) (n d : Nat) (x : Int32) (hd : d < 19) : TT μ0 ν0 (X8_say (n + 2) a1 1 0 x (nI d + 1)) (X10_keyedTick x) := say_t1 (k := 1) (w := 0) (by decide) (by decide) (by omega) (T20 B (s10 B n (d + 1) x (by omega)))
theorem m17if {α : Type} (K c : Nat) (hK : K < 100) (hc : c < 100) (A C : α) : (if nI K = nI c then A else C) = if K = c then A else C := by
  by_cases h : K = c
  · rw [if_pos h, if_pos (by rw [h])]
  · rw [if_neg h, if_neg (fun q => h ((nI_eq (by omega) (by omega)).mp q))]
theorem tickK (B : HB a1 K μ0 ν0) (n d : Nat) (x : Int32) (hd : d ≤ 17) : TT μ0 ν0 (X8_say (n + 3) a1 (nI K) 0 x (nI d)) (X10_tick x) := by
  have hK := B.1
  have hx : ∀ μ ν, VX μ0 ν0 μ ν → X10_tick x ν = (if K = 3 then ob (X10_begins 41 ν) fun μ6 => ob2 (X10_keyedTick (x + (μ6 0 16)) μ6) fun r7 μ7 => some (r7, μ7) else (if K = 1 then X10_keyedTick x ν else (if K = 5 then X10_keyedTick x ν else X10_meterTick x ν))) := fun μ ν H => by
    unfold X10_tick X10_tick_41
    rw [B.m17 H, ob2_id, ob2_id]
    exact (m17if K 3 (by omega) (by decide) _ _).trans (by rw [show (1 : Int32) = nI 1 from rfl, show (5 : Int32) = nI 5 from rfl, m17if K 1 (by omega) (by decide), m17if K 5 (by omega) (by decide)])
  rcases (show K = 0 ∨ K = 1 ∨ K = 2 ∨ K = 3 ∨ K = 4 ∨ K = 5 by omega) with rfl | rfl | rfl | rfl | rfl | rfl
  · exact TT.cg (say_t (k := 0) (w := 0) (by decide) (by decide) (by omega) (T10 B)) (fun μ ν H => ⟨rfl, hx μ ν H⟩)
  · exact TT.cg (say_t (k := 1) (w := 0) (by decide) (by decide) (by omega) (T20 B (s10 B (n + 1) d x (by omega)))) (fun μ ν H => ⟨rfl, hx μ ν H⟩)
  · exact TT.cg (say_t (k := 2) (w := 0) (by decide) (by decide) (by omega) (T10 B)) (fun μ ν H => ⟨rfl, hx μ ν H⟩)
  · exact TT.cg (say_t (k := 3) (w := 0) (by decide) (by decide) (by omega) (T41 B (s20 B n d _ (by omega)))) (fun μ ν H => ⟨rfl, hx μ ν H⟩)
  · exact TT.cg (say_t (k := 4) (w := 0) (by decide) (by decide) (by omega) (T10 B)) (fun μ ν H => ⟨rfl, hx μ ν H⟩)
  · exact TT.cg (say_t (k := 5) (w := 0) (by decide) (by decide) (by omega) (T20 B (s10 B (n + 1) d x (by omega)))) (fun μ ν H => ⟨rfl, hx μ ν H⟩)
theorem clickK (B : HB a1 K μ0 ν0) (n d : Nat) (x : Int32) (hd : d ≤ 17) : TT μ0 ν0 (X8_say (n + 2) a1 (nI K) 2 x (nI d)) (X10_click x) := by
  have hK := B.1
  have hx : ∀ μ ν, VX μ0 ν0 μ ν → X10_click x ν = (if K = 3 then ob (X10_begins 40 ν) fun μ6 => ob2 (X10_meterClick x μ6) fun r7 μ7 => some ((r7 * 3), μ7) else (if K = 5 then ob (X10_begins 60 ν) fun μ4 => ob2 (X10_meterClick (x - (μ4 0 16)) μ4) fun r5 μ5 => some (r5, μ5) else X10_meterClick x ν)) := fun μ ν H => by
    unfold X10_click
    rw [B.m17 H, ob2_id]
    exact (m17if K 3 (by omega) (by decide) _ _).trans (by rw [show (5 : Int32) = nI 5 from rfl, m17if K 5 (by omega) (by decide)])
  rcases (show K = 0 ∨ K = 1 ∨ K = 2 ∨ K = 3 ∨ K = 4 ∨ K = 5 by omega) with rfl | rfl | rfl | rfl | rfl | rfl
  · exact TT.cg (say_t (k := 0) (w := 2) (by decide) (by decide) (by omega) (T12 B)) (fun μ ν H => ⟨rfl, hx μ ν H⟩)
  · exact TT.cg (say_t (k := 1) (w := 2) (by decide) (by decide) (by omega) (T12 B)) (fun μ ν H => ⟨rfl, hx μ ν H⟩)
  · exact TT.cg (say_t (k := 2) (w := 2) (by decide) (by decide) (by omega) (T12 B)) (fun μ ν H => ⟨rfl, hx μ ν H⟩)
  · exact TT.cg (say_t (k := 3) (w := 2) (by decide) (by decide) (by omega) (T40 (s12 B n d x (by omega)))) (fun μ ν H => ⟨rfl, hx μ ν H⟩)
  · exact TT.cg (say_t (k := 4) (w := 2) (by decide) (by decide) (by omega) (T12 B)) (fun μ ν H => ⟨rfl, hx μ ν H⟩)
  · exact TT.cg (say_t (k := 5) (w := 2) (by decide) (by decide) (by omega) (T60 B (s12 B n d _ (by omega)))) (fun μ ν H => ⟨rfl, hx μ ν H⟩)
theorem tick1 (B : HB a1 K μ0 ν0) (n d : Nat) (x : Int32) (hd : d ≤ 16) : TT μ0 ν0 (X8_say (n + 3) a1 (nI K) 0 x (nI d + 1)) (X10_tick x) := by
  rw [nI_1]
  exact tickK B n (d + 1) x (by omega)
theorem click1 (B : HB a1 K μ0 ν0) (n d : Nat) (x : Int32) (hd : d ≤ 16) : TT μ0 ν0 (X8_say (n + 2) a1 (nI K) 2 x (nI d + 1)) (X10_click x) := by
  rw [nI_1]
  exact clickK B n (d + 1) x (by omega)
theorem s11 (B : HB a1 K μ0 ν0) (n d : Nat) (x : Int32) (hd : d ≤ 15) : TT μ0 ν0 (X8_say (n + 4) a1 0 1 x (nI d + 1)) (X10_meterHum x) := say_t1 (k := 0) (w := 1) (by decide) (by decide) (by omega) (T11 B (tick1 B n (d + 1) x (by omega)))
theorem s30 (B : HB a1 K μ0 ν0) (n d : Nat) (x : Int32) (hd : d ≤ 14) : TT μ0 ν0 (X8_say (n + 5) a1 2 1 x (nI d + 1)) (X10_smartHum x) := say_t1 (k := 2) (w := 1) (by decide) (by decide) (by omega) (T30 B (s11 B n (d + 1) x (by omega)) (click1 B (n + 2) (d + 1) x (by omega)))
theorem humK (B : HB a1 K μ0 ν0) (n d : Nat) (x : Int32) (hd : d ≤ 14) : TT μ0 ν0 (X8_say (n + 6) a1 (nI K) 1 x (nI d)) (X10_hum x) := by
  have hK := B.1
  have hx : ∀ μ ν, VX μ0 ν0 μ ν → X10_hum x ν = (if K = 4 then ob (X10_begins 51 ν) fun μ5 => ob2 (X10_smartHum x μ5) fun r6 μ6 => ob2 (X10_tick x μ6) fun r7 μ7 => some ((r6 ^^^ r7), μ7) else (if K = 2 then X10_smartHum x ν else X10_meterHum x ν)) := fun μ ν H => by
    unfold X10_hum
    rw [B.m17 H, ob2_id, ob2_id]
    exact (m17if K 4 (by omega) (by decide) _ _).trans (by rw [show (2 : Int32) = nI 2 from rfl, m17if K 2 (by omega) (by decide)])
  have h11 : ∀ u, TT μ0 ν0 (CH (X8_say (n + 5)) a1 11 u x (nI d)) (X10_meterHum x) := fun u => T11 B (tick1 B (n + 2) d x (by omega))
  rcases (show K = 0 ∨ K = 1 ∨ K = 2 ∨ K = 3 ∨ K = 4 ∨ K = 5 by omega) with rfl | rfl | rfl | rfl | rfl | rfl
  · exact TT.cg (say_t (k := 0) (w := 1) (by decide) (by decide) (by omega) (h11 _)) (fun μ ν H => ⟨rfl, hx μ ν H⟩)
  · exact TT.cg (say_t (k := 1) (w := 1) (by decide) (by decide) (by omega) (h11 _)) (fun μ ν H => ⟨rfl, hx μ ν H⟩)
  · exact TT.cg (say_t (k := 2) (w := 1) (by decide) (by decide) (by omega) (T30 B (s11 B (n + 1) d x (by omega)) (click1 B (n + 3) d x (by omega)))) (fun μ ν H => ⟨rfl, hx μ ν H⟩)
  · exact TT.cg (say_t (k := 3) (w := 1) (by decide) (by decide) (by omega) (h11 _)) (fun μ ν H => ⟨rfl, hx μ ν H⟩)
  · exact TT.cg (say_t (k := 4) (w := 1) (by decide) (by decide) (by omega) (T51 B (s30 B n d x (by omega)) (tick1 B (n + 2) d x (by omega)))) (fun μ ν H => ⟨rfl, hx μ ν H⟩)
  · exact TT.cg (say_t (k := 5) (w := 1) (by decide) (by decide) (by omega) (h11 _)) (fun μ ν H => ⟨rfl, hx μ ν H⟩)
theorem h13 (B : HB a1 K μ0 ν0) (n d : Nat) (u x : Int32) (hd : d ≤ 13) : TT μ0 ν0 (CH (X8_say (n + 6)) a1 13 u x (nI d)) (X10_meterTell x) := by
  refine T13 B ?_ (click1 B (n + 4) d x (by omega))
  rw [nI_1]
  exact humK B n (d + 1) x (by omega)
theorem s13 (B : HB a1 K μ0 ν0) (n d : Nat) (x : Int32) (hd : d ≤ 12) : TT μ0 ν0 (X8_say (n + 7) a1 0 3 x (nI d + 1)) (X10_meterTell x) := say_t1 (k := 0) (w := 3) (by decide) (by decide) (by omega) (h13 B n (d + 1) _ x (by omega))
theorem s13' (B : HB a1 K μ0 ν0) (n d : Nat) (x : Int32) (hd : d ≤ 12) : TT μ0 ν0 (X8_say (n + 7) a1 2 3 x (nI d + 1)) (X10_meterTell x) := say_t1 (k := 2) (w := 3) (by decide) (by decide) (by omega) (h13 B n (d + 1) _ x (by omega))
theorem tellK (B : HB a1 K μ0 ν0) (n d : Nat) (x : Int32) (hd : d ≤ 11) : TT μ0 ν0 (X8_say (n + 8) a1 (nI K) 3 x (nI d)) (X10_tell x) := by
  have hK := B.1
  have hx : ∀ μ ν, VX μ0 ν0 μ ν → X10_tell x ν = (if K = 1 then X10_tell_24 x ν else (if K = 3 then X10_tell_24 x ν else (if K = 5 then X10_tell_24 x ν else (if K = 4 then ob (X10_begins 50 ν) fun μ8 => ob2 (X10_click x μ8) fun r9 μ9 => ob2 (X10_meterTell x μ9) fun r10 μ10 => some ((r9 - r10), μ10) else X10_meterTell x ν)))) := fun μ ν H => by
    unfold X10_tell
    rw [B.m17 H, ob2_id]
    exact (m17if K 1 (by omega) (by decide) _ _).trans (by rw [show (3 : Int32) = nI 3 from rfl, show (5 : Int32) = nI 5 from rfl, show (4 : Int32) = nI 4 from rfl, m17if K 3 (by omega) (by decide), m17if K 5 (by omega) (by decide), m17if K 4 (by omega) (by decide)])
  rcases (show K = 0 ∨ K = 1 ∨ K = 2 ∨ K = 3 ∨ K = 4 ∨ K = 5 by omega) with rfl | rfl | rfl | rfl | rfl | rfl
  · exact TT.cg (say_t (k := 0) (w := 3) (by decide) (by decide) (by omega) (h13 B (n + 1) d _ x (by omega))) (fun μ ν H => ⟨rfl, hx μ ν H⟩)
  · exact TT.cg (say_t (k := 1) (w := 3) (by decide) (by decide) (by omega) (T21 (s13 B n d (x + 1) (by omega)))) (fun μ ν H => ⟨rfl, hx μ ν H⟩)
  · exact TT.cg (say_t (k := 2) (w := 3) (by decide) (by decide) (by omega) (h13 B (n + 1) d _ x (by omega))) (fun μ ν H => ⟨rfl, hx μ ν H⟩)
  · exact TT.cg (say_t (k := 3) (w := 3) (by decide) (by decide) (by omega) (T21 (s13 B n d (x + 1) (by omega)))) (fun μ ν H => ⟨rfl, hx μ ν H⟩)
  · exact TT.cg (say_t (k := 4) (w := 3) (by decide) (by decide) (by omega) (T50 B (click1 B (n + 5) d x (by omega)) (s13' B n d x (by omega)))) (fun μ ν H => ⟨rfl, hx μ ν H⟩)
  · exact TT.cg (say_t (k := 5) (w := 3) (by decide) (by decide) (by omega) (T21 (s13 B n d (x + 1) (by omega)))) (fun μ ν H => ⟨rfl, hx μ ν H⟩)
end VQ
section OV
variable {j : Nat} {μ ν : Mem}
theorem op_voice (a0 a1 a2 : Int32) (hS : Sim j μ ν) : ∃ r μ2 ν2, X9_voice a0 a1 a2 μ = some (r, μ2) ∧ X10_voice a0 a1 a2 ν = some (r, ν2) ∧ Sim (j + 1) μ2 ν2 := by
  obtain ⟨⟨h, nm, ns, nl, nr, nt, tl, t⟩, o⟩ := id hS
  have b := t.1
  unfold X9_voice X10_voice
  rcases isM t a0 with ⟨i, hi, rfl, e1, e2⟩ | ⟨e1, e2⟩
  · obtain ⟨X, R⟩ := hx_of t o.2.2.2.2 hi
    have i8 := X.2.2.1
    have en : (if a1 < 0 then X9_voice_20 μ else (if a1 < 4 then gd (inB (nI i) 8) (ob2 (X8_speak (24 + 2 * (nI i).toNatClampNeg) a1 a2 μ) fun r7 μ7 => some (r7, μ7)) else X9_voice_20 μ)) = if rg a1 0 3 = 0 then X9_voice_20 μ else gd (inB (nI i) 8) (ob2 (X8_speak (24 + 2 * (nI i).toNatClampNeg) a1 a2 μ) fun r7 μ7 => some (r7, μ7)) := rng_lt (n := 4) a1 (by decide) _ _
    rw [ob2_of e1, ob2_of e2, if_neg (show ¬ (1 : Int32) = 0 by decide), if_neg (show ¬ (1 : Int32) = 0 by decide), ob2_of (in_r (a := 0) (b := 3) (by decide) (by decide) _), en]
    rcases rg_cases a1 0 3 with ⟨r, -⟩ | ⟨r, r1, r2⟩
    · rw [r, if_pos (show (0 : Int32) = 0 from rfl), if_pos (show (0 : Int32) = 0 from rfl)]
      exact find_ok hS 1 (by decide)
    · obtain ⟨w, hw, rfl, -⟩ := to_nat (x := a1) (hi := 3) ⟨r1, r2⟩ (by decide)
      obtain ⟨K, hK, hK2⟩ := R.mb.1
      have q0 : ν 1 (16 + 40 * i + 0) = μ (24 + 2 * i) 2 := R.q (w := 0) (by decide)
      have q1 : ν 1 (16 + 40 * i + 1) = μ (24 + 2 * i) 3 := R.q (w := 1) (by decide)
      have q2 : ν 1 (16 + 40 * i + 2) = μ (24 + 2 * i) 4 := R.q (w := 2) (by decide)
      rw [r, if_neg (show ¬ (1 : Int32) = 0 by decide), if_neg (show ¬ (1 : Int32) = 0 by decide), gd_pos (m8 hi b.2.1).1, (m8 hi b.2.1).2, lt_of, lt_of, ob2_of (of_ok (w := 1) i8 (by decide) _), ob2_of (of_ok (w := 2) i8 (by decide) _), lt_of, ob2_of (of_ok (w := 0) i8 (by decide) _), lt_of]
      simp only [st_other _ _ _ (show (1 : Nat) ≠ 0 by decide)]
      rw [q0, q1, q2]
      generalize hν1 : st (st (st (st ν 0 14 0) 0 15 (nI i)) 0 16 (μ (24 + 2 * i) 3 + μ (24 + 2 * i) 4)) 0 17 (μ (24 + 2 * i) 2) = ν1
      unfold X8_speak
      rw [lt_of]
      have hc2 : st μ 83 1 0 (24 + 2 * i) = μ (24 + 2 * i) := st_other _ _ _ (by omega)
      have B : HB (24 + 2 * i) K (st μ 83 1 0) ν1 := by
        refine ⟨hK, by omega, by omega, ?_, ?_, ?_, ?_⟩
        · rw [hc2, ← hν1, st_ne (by omega), st_ne (by omega), st_eq]; exact R.1.1
        · rw [hc2, ← hν1, st_ne (by omega), st_eq]
        · rw [hc2]; exact hK2
        · rw [← hν1, st_eq]; exact hK2
      have om : ∀ a, a ≠ 0 → ν1 a = ν a := fun a ha => by
        rw [← hν1, st_other _ _ _ ha, st_other _ _ _ ha, st_other _ _ _ ha, st_other _ _ _ ha]
      have H0 : VX (st μ 83 1 0) ν1 (st μ 83 1 0) ν1 := by
        refine ⟨⟨0, by omega, st_eq, ?_, fun k hk => by omega⟩, fun _ _ _ => rfl, fun _ _ _ => rfl, fun _ _ => rfl⟩
        rw [← hν1, st_ne (by omega), st_ne (by omega), st_ne (by omega), st_eq]
        rfl
      -- whatever is said, what counts stays
      have fin : ∀ {g : Mem → Option (Int32 × Mem)}, TT (st μ 83 1 0) ν1 (X8_say 25 (24 + 2 * i) (nI K) (nI w) a2 0) g → ∃ r μ2 ν2, (ob2 (ob2 (X8_say 25 (24 + 2 * i) (st μ 83 1 0 (24 + 2 * i) 2) (nI w) a2 0 (st μ 83 1 0)) fun r2 μ2 => some (r2, μ2)) fun r7 μ7 => some (r7, μ7)) = some (r, μ2) ∧ (ob2 (g ν1) fun r m => some (r, m)) = some (r, ν2) ∧ Sim (j + 1) μ2 ν2 := by
        intro g T
        obtain ⟨r, μ2, ν2, t1, t2, t3⟩ := T _ _ H0
        rw [ob2_id, ob2_id, ob2_id, hc2, hK2]
        refine ⟨r, μ2, ν2, t1, t2, ?_⟩
        obtain ⟨v, k1, k2, k3⟩ := t3
        have kx : ∀ a, a ≠ 83 → a ≠ 84 → μ2 a = μ a := fun a x1 x2 => (k1 a x1 x2).trans (st_other _ _ _ x1)
        have km : ∀ a, a ≠ 0 → a ≠ 7 → ν2 a = ν a := fun a x1 x2 => (k2 a x1 x2).trans (om a x1)
        have k0 : ∀ i, i < 14 → ν2 0 i = ν 0 i := fun i hi => by
          rw [k3 i (by omega), ← hν1, st_ne (by omega), st_ne (by omega), st_ne (by omega), st_ne (by omega)]
        obtain ⟨-, f1, -, s1, i1, l1⟩ := hS
        refine ⟨⟨h, nm, ns, nl, nr, nt, tl, t.c (fun a x1 x2 x3 => kx a (by omega) (by omega)) (fun w _ => by rw [km 1 (by decide) (by decide)])⟩, fun k x1 x2 => ?_, v, fun s hs => ?_, i1.c (fun a ha => kx a (by omega) (by omega)) (km 2 (by decide) (by decide)) (k0 3 (by decide)) (k0 2 (by decide)), (km 6 (by decide) (by decide)).trans l1⟩
        · rw [kx 86 (by decide) (by decide), km 4 (by decide) (by decide)]; exact f1 k x1 x2
        · rw [kx _ (by omega) (by omega), kx _ (by omega) (by omega), km 8 (by decide) (by decide), km 9 (by decide) (by decide), km 10 (by decide) (by decide)]
          exact s1 s hs
      rcases (show w = 0 ∨ w = 1 ∨ w = 2 ∨ w = 3 by omega) with rfl | rfl | rfl | rfl
      · rw [if_pos (show nI 0 = 0 from rfl)]
        exact fin (tickK B 22 0 a2 (by omega))
      · rw [if_neg (show ¬ nI 1 = 0 by decide), if_pos (show nI 1 = 1 from rfl)]
        exact fin (humK B 19 0 a2 (by omega))
      · rw [if_neg (show ¬ nI 2 = 0 by decide), if_neg (show ¬ nI 2 = 1 by decide), if_pos (show nI 2 = 2 from rfl)]
        exact fin (clickK B 23 0 a2 (by omega))
      · rw [if_neg (show ¬ nI 3 = 0 by decide), if_neg (show ¬ nI 3 = 1 by decide), if_neg (show ¬ nI 3 = 2 by decide)]
        exact fin (tellK B 17 0 a2 (by omega))
  · rw [ob2_of e1, ob2_of e2, if_pos rfl, if_pos rfl]
    exact find_ok hS 1 (by decide)
end OV
