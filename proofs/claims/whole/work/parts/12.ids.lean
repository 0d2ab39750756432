/-! the cells by their numbers, the numbers of objects, stores into fields -/
theorem cx_0 : Cel Lx 0 9 0 := by decide
theorem cx_1 : Cel Lx 1 7 0 := by decide
theorem cx_2 : Cel Lx 2 13 8 := by decide
theorem cx_3 : Cel Lx 3 5 0 := by decide
theorem cx_4 : Cel Lx 4 12 8 := by decide
theorem cx_5 : Cel Lx 5 12 8 := by decide
theorem cx_6 : Cel Lx 6 12 8 := by decide
theorem cx_7 : Cel Lx 7 12 8 := by decide
theorem cx_8 : Cel Lx 8 1 0 := by decide
theorem cx_9 : Cel Lx 9 12 12 := by decide
theorem cx_10 : Cel Lx 10 12 12 := by decide
theorem cx_11 : Cel Lx 11 12 12 := by decide
theorem cx_12 : Cel Lx 12 12 720 := by decide
theorem cx_13 : Cel Lx 13 12 60 := by decide
theorem cx_14 : Cel Lx 14 3 0 := by decide
theorem cx_15 : Cel Lx 15 12 40 := by decide
theorem cx_16 : Cel Lx 16 12 40 := by decide
theorem cx_17 : Cel Lx 17 12 40 := by decide
theorem cx_18 : Cel Lx 18 12 40 := by decide
theorem cx_19 : Cel Lx 19 6 0 := by decide
theorem cx_20 : Cel Lx 20 12 200 := by decide
theorem cx_21 : Cel Lx 21 12 200 := by decide
theorem cx_22 : Cel Lx 22 12 200 := by decide
theorem cx_23 : Cel Lx 23 11 60 := by decide
theorem cx_24 : Cel Lx 24 2 0 := by decide
theorem cx_25 : Cel Lx 25 12 24 := by decide
theorem cx_26 : Cel Lx 26 2 0 := by decide
theorem cx_27 : Cel Lx 27 12 24 := by decide
theorem cx_28 : Cel Lx 28 2 0 := by decide
theorem cx_29 : Cel Lx 29 12 24 := by decide
theorem cx_30 : Cel Lx 30 2 0 := by decide
theorem cx_31 : Cel Lx 31 12 24 := by decide
theorem cx_32 : Cel Lx 32 2 0 := by decide
theorem cx_33 : Cel Lx 33 12 24 := by decide
theorem cx_34 : Cel Lx 34 2 0 := by decide
theorem cx_35 : Cel Lx 35 12 24 := by decide
theorem cx_36 : Cel Lx 36 2 0 := by decide
theorem cx_37 : Cel Lx 37 12 24 := by decide
theorem cx_38 : Cel Lx 38 2 0 := by decide
theorem cx_39 : Cel Lx 39 12 24 := by decide
theorem cx_40 : Cel Lx 40 7 0 := by decide
theorem cx_41 : Cel Lx 41 13 8 := by decide
theorem cx_42 : Cel Lx 42 5 0 := by decide
theorem cx_43 : Cel Lx 43 12 8 := by decide
theorem cx_44 : Cel Lx 44 12 8 := by decide
theorem cx_45 : Cel Lx 45 12 8 := by decide
theorem cx_46 : Cel Lx 46 12 8 := by decide
theorem cx_47 : Cel Lx 47 1 0 := by decide
theorem cx_48 : Cel Lx 48 12 12 := by decide
theorem cx_49 : Cel Lx 49 12 12 := by decide
theorem cx_50 : Cel Lx 50 12 12 := by decide
theorem cx_51 : Cel Lx 51 12 720 := by decide
theorem cx_52 : Cel Lx 52 12 60 := by decide
theorem cx_53 : Cel Lx 53 3 0 := by decide
theorem cx_54 : Cel Lx 54 12 40 := by decide
theorem cx_55 : Cel Lx 55 12 40 := by decide
theorem cx_56 : Cel Lx 56 12 40 := by decide
theorem cx_57 : Cel Lx 57 12 40 := by decide
theorem cx_58 : Cel Lx 58 6 0 := by decide
theorem cx_59 : Cel Lx 59 12 200 := by decide
theorem cx_60 : Cel Lx 60 12 200 := by decide
theorem cx_61 : Cel Lx 61 12 200 := by decide
theorem cx_62 : Cel Lx 62 11 60 := by decide
theorem cx_63 : Cel Lx 63 2 0 := by decide
theorem cx_64 : Cel Lx 64 12 24 := by decide
theorem cx_65 : Cel Lx 65 2 0 := by decide
theorem cx_66 : Cel Lx 66 12 24 := by decide
theorem cx_67 : Cel Lx 67 2 0 := by decide
theorem cx_68 : Cel Lx 68 12 24 := by decide
theorem cx_69 : Cel Lx 69 2 0 := by decide
theorem cx_70 : Cel Lx 70 12 24 := by decide
theorem cx_71 : Cel Lx 71 2 0 := by decide
theorem cx_72 : Cel Lx 72 12 24 := by decide
theorem cx_73 : Cel Lx 73 2 0 := by decide
theorem cx_74 : Cel Lx 74 12 24 := by decide
theorem cx_75 : Cel Lx 75 2 0 := by decide
theorem cx_76 : Cel Lx 76 12 24 := by decide
theorem cx_77 : Cel Lx 77 2 0 := by decide
theorem cx_78 : Cel Lx 78 12 24 := by decide
theorem cx_79 : Cel Lx 79 2 0 := by decide
theorem cx_80 : Cel Lx 80 12 24 := by decide
theorem cx_81 : Cel Lx 81 0 0 := by decide
theorem cx_82 : Cel Lx 82 12 60 := by decide
theorem cx_83 : Cel Lx 83 8 0 := by decide
theorem cx_84 : Cel Lx 84 12 40 := by decide
theorem cx_85 : Cel Lx 85 14 4 := by decide
theorem cx_86 : Cel Lx 86 12 6 := by decide
theorem cx_87 : Cel Lx 87 12 8 := by decide
theorem cx_88 : Cel Lx 88 4 0 := by decide
theorem cx_89 : Cel Lx 89 12 24 := by decide
theorem cx_90 : Cel Lx 90 4 0 := by decide
theorem cx_91 : Cel Lx 91 12 24 := by decide
theorem cx_92 : Cel Lx 92 4 0 := by decide
theorem cx_93 : Cel Lx 93 12 24 := by decide
theorem cx_94 : Cel Lx 94 4 0 := by decide
theorem cx_95 : Cel Lx 95 12 24 := by decide
theorem cm_0 : Cel Lm 0 10 0 := by decide
theorem cm_1 : Cel Lm 1 12 1944 := by decide
theorem cm_2 : Cel Lm 2 12 1944 := by decide
theorem cm_3 : Cel Lm 3 12 1944 := by decide
theorem cm_4 : Cel Lm 4 12 6 := by decide
theorem cm_5 : Cel Lm 5 12 7 := by decide
theorem cm_6 : Cel Lm 6 12 7 := by decide
theorem cm_7 : Cel Lm 7 12 40 := by decide
theorem cm_8 : Cel Lm 8 12 4 := by decide
theorem cm_9 : Cel Lm 9 12 4 := by decide
theorem cm_10 : Cel Lm 10 12 96 := by decide
theorem cm_11 : Cel Lm 11 12 24 := by decide
abbrev Id2 (k : Nat) : Prop := Cel Lx k 2 0 ∧ Cel Lx (k + 1) 12 24
theorem id2_0 {k : Nat} (h : Id2 k) : Cel Lx k 2 0 := h.1
theorem id2_1 {k : Nat} (h : Id2 k) : Cel Lx (k + 1) 12 24 := h.2
abbrev Id4 (k : Nat) : Prop := Cel Lx k 4 0 ∧ Cel Lx (k + 1) 12 24
theorem id4_0 {k : Nat} (h : Id4 k) : Cel Lx k 4 0 := h.1
theorem id4_1 {k : Nat} (h : Id4 k) : Cel Lx (k + 1) 12 24 := h.2
abbrev Id1 (k : Nat) : Prop := Cel Lx k 1 0 ∧ Cel Lx (k + 1) 12 12 ∧ Cel Lx (k + 2) 12 12 ∧ Cel Lx (k + 3) 12 12 ∧ Cel Lx (k + 4) 12 720 ∧ Cel Lx (k + 5) 12 60
theorem id1_0 {k : Nat} (h : Id1 k) : Cel Lx k 1 0 := h.1
theorem id1_1 {k : Nat} (h : Id1 k) : Cel Lx (k + 1) 12 12 := h.2.1
theorem id1_2 {k : Nat} (h : Id1 k) : Cel Lx (k + 2) 12 12 := h.2.2.1
theorem id1_3 {k : Nat} (h : Id1 k) : Cel Lx (k + 3) 12 12 := h.2.2.2.1
theorem id1_4 {k : Nat} (h : Id1 k) : Cel Lx (k + 4) 12 720 := h.2.2.2.2.1
theorem id1_5 {k : Nat} (h : Id1 k) : Cel Lx (k + 5) 12 60 := h.2.2.2.2.2
abbrev Id3 (k : Nat) : Prop := Cel Lx k 3 0 ∧ Cel Lx (k + 1) 12 40 ∧ Cel Lx (k + 2) 12 40 ∧ Cel Lx (k + 3) 12 40 ∧ Cel Lx (k + 4) 12 40
theorem id3_0 {k : Nat} (h : Id3 k) : Cel Lx k 3 0 := h.1
theorem id3_1 {k : Nat} (h : Id3 k) : Cel Lx (k + 1) 12 40 := h.2.1
theorem id3_2 {k : Nat} (h : Id3 k) : Cel Lx (k + 2) 12 40 := h.2.2.1
theorem id3_3 {k : Nat} (h : Id3 k) : Cel Lx (k + 3) 12 40 := h.2.2.2.1
theorem id3_4 {k : Nat} (h : Id3 k) : Cel Lx (k + 4) 12 40 := h.2.2.2.2
abbrev Id5 (k : Nat) : Prop := Cel Lx k 5 0 ∧ Cel Lx (k + 1) 12 8 ∧ Cel Lx (k + 2) 12 8 ∧ Cel Lx (k + 3) 12 8 ∧ Cel Lx (k + 4) 12 8
theorem id5_0 {k : Nat} (h : Id5 k) : Cel Lx k 5 0 := h.1
theorem id5_1 {k : Nat} (h : Id5 k) : Cel Lx (k + 1) 12 8 := h.2.1
theorem id5_2 {k : Nat} (h : Id5 k) : Cel Lx (k + 2) 12 8 := h.2.2.1
theorem id5_3 {k : Nat} (h : Id5 k) : Cel Lx (k + 3) 12 8 := h.2.2.2.1
theorem id5_4 {k : Nat} (h : Id5 k) : Cel Lx (k + 4) 12 8 := h.2.2.2.2
abbrev Id6 (k : Nat) : Prop := Cel Lx k 6 0 ∧ Cel Lx (k + 1) 12 200 ∧ Cel Lx (k + 2) 12 200 ∧ Cel Lx (k + 3) 12 200
theorem id6_0 {k : Nat} (h : Id6 k) : Cel Lx k 6 0 := h.1
theorem id6_1 {k : Nat} (h : Id6 k) : Cel Lx (k + 1) 12 200 := h.2.1
theorem id6_2 {k : Nat} (h : Id6 k) : Cel Lx (k + 2) 12 200 := h.2.2.1
theorem id6_3 {k : Nat} (h : Id6 k) : Cel Lx (k + 3) 12 200 := h.2.2.2
abbrev Id7 (k : Nat) : Prop := Cel Lx k 7 0 ∧ Cel Lx (k + 1) 13 8 ∧ Id5 (k + 2) ∧ Id1 (k + 7) ∧ Id3 (k + 13) ∧ Id6 (k + 18) ∧ Cel Lx (k + 22) 11 60 ∧ ∀ j, j < 8 → Id2 (k + 1 + 22 + 2 * j)
theorem id7_0 {k : Nat} (h : Id7 k) : Cel Lx k 7 0 := h.1
theorem id7_1 {k : Nat} (h : Id7 k) : Cel Lx (k + 1) 13 8 := h.2.1
theorem id7_2 {k : Nat} (h : Id7 k) : Id5 (k + 2) := h.2.2.1
theorem id7_7 {k : Nat} (h : Id7 k) : Id1 (k + 7) := h.2.2.2.1
theorem id7_13 {k : Nat} (h : Id7 k) : Id3 (k + 13) := h.2.2.2.2.1
theorem id7_18 {k : Nat} (h : Id7 k) : Id6 (k + 18) := h.2.2.2.2.2.1
theorem id7_22 {k : Nat} (h : Id7 k) : Cel Lx (k + 22) 11 60 := h.2.2.2.2.2.2.1
theorem id7_j {k : Nat} (h : Id7 k) : ∀ j, j < 8 → Id2 (k + 1 + 22 + 2 * j) := h.2.2.2.2.2.2.2
theorem inB_lt {i : Int32} {n : Nat} (h : inB i n) : i.toNatClampNeg < n := by
  have h1 : (i.toNatClampNeg : Int) = i.toInt := by
    show (i.toInt.toNat : Int) = i.toInt
    have := h.1
    omega
  have := h.2
  omega
theorem id7_m {k : Nat} {i : Int32} (h : Id7 k) (hi : inB i 8) : Id2 (k + 1 + 22 + 2 * i.toNatClampNeg) := id7_j h _ (inB_lt hi)
theorem idc_1 : Id7 1 := ⟨by decide, by decide, by decide, by decide, by decide, by decide, by decide, by decide⟩
theorem idc_40 : Id7 40 := ⟨by decide, by decide, by decide, by decide, by decide, by decide, by decide, by decide⟩
theorem idc_79 : Id2 79 := by decide
theorem met_j : ∀ j, j < 8 → Id2 (24 + 2 * j) := by decide
theorem met_i {i : Int32} (h : inB i 8) : Id2 (24 + 2 * i.toNatClampNeg) := met_j _ (inB_lt h)
theorem sht_j : ∀ j, j < 4 → Id4 (88 + 2 * j) := by decide
theorem sht_i {i : Int32} (h : inB i 4) : Id4 (88 + 2 * i.toNatClampNeg) := sht_j _ (inB_lt h)
theorem os_0_1 (B k : Nat) (f : Nat → Int32) (v : Int32) : (Ob B k 0 f).set 1 (.int v) = Ob B k 0 (upd f 1 v) := rfl
theorem os_0_2 (B k : Nat) (f : Nat → Int32) : (Ob B k 0 f).set 2 (.ref (B + 23)) = Ob B k 0 (upd f 2 (1 : Int32)) := rfl
theorem os_0_3 (B k : Nat) (f : Nat → Int32) (v : Int32) : (Ob B k 0 f).set 3 (.int v) = Ob B k 0 (upd f 3 v) := rfl
theorem os_0_4 (B k : Nat) (f : Nat → Int32) (v : Int32) : (Ob B k 0 f).set 4 (.int v) = Ob B k 0 (upd f 4 v) := rfl
theorem os_0_5 (B k : Nat) (f : Nat → Int32) (v : Int32) : (Ob B k 0 f).set 5 (.int v) = Ob B k 0 (upd f 5 v) := rfl
theorem os_1_5 (B k : Nat) (f : Nat → Int32) (v : Int32) : (Ob B k 1 f).set 5 (.int v) = Ob B k 1 (upd f 5 v) := rfl
theorem os_2_1 (B k : Nat) (f : Nat → Int32) (v : Int32) : (Ob B k 2 f).set 1 (.int v) = Ob B k 2 (upd f 1 v) := rfl
theorem os_2_2 (B k : Nat) (f : Nat → Int32) (v : Int32) : (Ob B k 2 f).set 2 (.int v) = Ob B k 2 (upd f 2 v) := rfl
theorem os_2_3 (B k : Nat) (f : Nat → Int32) (v : Int32) : (Ob B k 2 f).set 3 (.int v) = Ob B k 2 (upd f 3 v) := rfl
theorem os_2_4 (B k : Nat) (f : Nat → Int32) (v : Int32) : (Ob B k 2 f).set 4 (.int v) = Ob B k 2 (upd f 4 v) := rfl
theorem os_2_5 (B k : Nat) (f : Nat → Int32) (v : Int32) : (Ob B k 2 f).set 5 (.int v) = Ob B k 2 (upd f 5 v) := rfl
theorem os_2_6 (B k : Nat) (f : Nat → Int32) (v : Int32) : (Ob B k 2 f).set 6 (.int v) = Ob B k 2 (upd f 6 v) := rfl
theorem os_2_7 (B k : Nat) (f : Nat → Int32) (v : Int32) : (Ob B k 2 f).set 7 (.int v) = Ob B k 2 (upd f 7 v) := rfl
theorem os_2_8 (B k : Nat) (f : Nat → Int32) (v : Int32) : (Ob B k 2 f).set 8 (.int v) = Ob B k 2 (upd f 8 v) := rfl
theorem os_2_9 (B k : Nat) (f : Nat → Int32) (v : Int32) : (Ob B k 2 f).set 9 (.int v) = Ob B k 2 (upd f 9 v) := rfl
theorem os_2_10 (B k : Nat) (f : Nat → Int32) (v : Int32) : (Ob B k 2 f).set 10 (.int v) = Ob B k 2 (upd f 10 v) := rfl
theorem os_2_11 (B k : Nat) (f : Nat → Int32) (v : Int32) : (Ob B k 2 f).set 11 (.int v) = Ob B k 2 (upd f 11 v) := rfl
theorem os_2_12 (B k : Nat) (f : Nat → Int32) (v : Int32) : (Ob B k 2 f).set 12 (.int v) = Ob B k 2 (upd f 12 v) := rfl
theorem os_2_13 (B k : Nat) (f : Nat → Int32) (v : Int32) : (Ob B k 2 f).set 13 (.int v) = Ob B k 2 (upd f 13 v) := rfl
theorem os_2_14 (B k : Nat) (f : Nat → Int32) (v : Int32) : (Ob B k 2 f).set 14 (.int v) = Ob B k 2 (upd f 14 v) := rfl
theorem os_3_4 (B k : Nat) (f : Nat → Int32) (v : Int32) : (Ob B k 3 f).set 4 (.int v) = Ob B k 3 (upd f 4 v) := rfl
theorem os_4_1 (B k : Nat) (f : Nat → Int32) (v : Int32) : (Ob B k 4 f).set 1 (.int v) = Ob B k 4 (upd f 1 v) := rfl
theorem os_4_2 (B k : Nat) (f : Nat → Int32) (v : Int32) : (Ob B k 4 f).set 2 (.int v) = Ob B k 4 (upd f 2 v) := rfl
theorem os_5_4 (B k : Nat) (f : Nat → Int32) (v : Int32) : (Ob B k 5 f).set 4 (.int v) = Ob B k 5 (upd f 4 v) := rfl
theorem os_6_3 (B k : Nat) (f : Nat → Int32) (v : Int32) : (Ob B k 6 f).set 3 (.int v) = Ob B k 6 (upd f 3 v) := rfl
theorem os_6_4 (B k : Nat) (f : Nat → Int32) (v : Int32) : (Ob B k 6 f).set 4 (.int v) = Ob B k 6 (upd f 4 v) := rfl
theorem os_6_5 (B k : Nat) (f : Nat → Int32) (v : Int32) : (Ob B k 6 f).set 5 (.int v) = Ob B k 6 (upd f 5 v) := rfl
theorem os_7_6 (B k : Nat) (f : Nat → Int32) (v : Int32) : (Ob B k 7 f).set 6 (.int v) = Ob B k 7 (upd f 6 v) := rfl
theorem os_7_7 (B k : Nat) (f : Nat → Int32) (v : Int32) : (Ob B k 7 f).set 7 (.int v) = Ob B k 7 (upd f 7 v) := rfl
theorem os_7_8 (B k : Nat) (f : Nat → Int32) (v : Int32) : (Ob B k 7 f).set 8 (.int v) = Ob B k 7 (upd f 8 v) := rfl
theorem os_8_1 (B k : Nat) (f : Nat → Int32) (v : Int32) : (Ob B k 8 f).set 1 (.int v) = Ob B k 8 (upd f 1 v) := rfl
theorem os_9_8 (B k : Nat) (f : Nat → Int32) (v : Int32) : (Ob B k 9 f).set 8 (.int v) = Ob B k 9 (upd f 8 v) := rfl
theorem os_10_2 (B k : Nat) (f : Nat → Int32) (v : Int32) : (Ob B k 10 f).set 2 (.int v) = Ob B k 10 (upd f 2 v) := rfl
theorem os_10_3 (B k : Nat) (f : Nat → Int32) (v : Int32) : (Ob B k 10 f).set 3 (.int v) = Ob B k 10 (upd f 3 v) := rfl
theorem os_10_6 (B k : Nat) (f : Nat → Int32) (v : Int32) : (Ob B k 10 f).set 6 (.int v) = Ob B k 10 (upd f 6 v) := rfl
theorem os_10_7 (B k : Nat) (f : Nat → Int32) (v : Int32) : (Ob B k 10 f).set 7 (.int v) = Ob B k 10 (upd f 7 v) := rfl
theorem os_10_8 (B k : Nat) (f : Nat → Int32) (v : Int32) : (Ob B k 10 f).set 8 (.int v) = Ob B k 10 (upd f 8 v) := rfl
theorem os_10_9 (B k : Nat) (f : Nat → Int32) (v : Int32) : (Ob B k 10 f).set 9 (.int v) = Ob B k 10 (upd f 9 v) := rfl
theorem os_10_10 (B k : Nat) (f : Nat → Int32) (v : Int32) : (Ob B k 10 f).set 10 (.int v) = Ob B k 10 (upd f 10 v) := rfl
theorem os_10_14 (B k : Nat) (f : Nat → Int32) (v : Int32) : (Ob B k 10 f).set 14 (.int v) = Ob B k 10 (upd f 14 v) := rfl
theorem os_10_15 (B k : Nat) (f : Nat → Int32) (v : Int32) : (Ob B k 10 f).set 15 (.int v) = Ob B k 10 (upd f 15 v) := rfl
theorem os_10_16 (B k : Nat) (f : Nat → Int32) (v : Int32) : (Ob B k 10 f).set 16 (.int v) = Ob B k 10 (upd f 16 v) := rfl
theorem os_10_17 (B k : Nat) (f : Nat → Int32) (v : Int32) : (Ob B k 10 f).set 17 (.int v) = Ob B k 10 (upd f 17 v) := rfl
def ob2 {β : Type} (x : Option (Int32 × Mem)) (f : Int32 → Mem → Option β) : Option β := x.bind (fun q => f q.1 q.2)
theorem ob2_some {β : Type} {x : Option (Int32 × Mem)} {f : Int32 → Mem → Option β} {r : β} (h : ob2 x f = some r) : ∃ (a : Int32) (ν : Mem), x = some (a, ν) ∧ f a ν = some r := by
  unfold ob2 at h
  cases x with
  | none => cases h
  | some a => exact ⟨a.1, a.2, rfl, h⟩
theorem some2 {a r : Int32} {b ν : Mem} (h : some (a, b) = some (r, ν)) : r = a ∧ ν = b := by
  have h1 := Option.some.inj h
  exact ⟨(congrArg Prod.fst h1).symm, (congrArg Prod.snd h1).symm⟩
theorem some1 {b ν : Mem} (h : some b = some ν) : ν = b := (Option.some.inj h).symm
/-- how often a loop may go round: more than any does -/
def FU : Nat := 100000
def x_tsel (dflt lo hi : Int) (offs : Array Int) (z : Int) : Int := if z < lo ∨ hi < z then dflt else (offs[(z - lo).toNat]?).getD dflt
section XT
variable {p : Program} {l : Launch} {e : Env} {R : Room} {s : State} {m : MethodId} {args : Array Value} {below : List Frame} {meth : Method} {c : Code} {H : Heap} {locs : List Loc} {cells slots : Nat} {Q : State → Prop} {cc : ByteArray} {pc : Nat} {ls : Array Slot} {rest : List Value}
theorem x_tab (hexec : p.tables.exec = Jvm.exec) (hb : c.code = cc) {dflt lo hi : Int} {offs : Array Int} {len : Nat} {x : Int32} {tgt : Nat} (hdg : decode cc pc = .ok (.tableswitch dflt lo hi offs, len)) (h : x_tsel dflt lo hi offs x.toInt = dflt) (ht : (pc : Int) + dflt = (tgt : Int))
    (k : W p l e R s m args below meth c H locs cells slots Q (F0 m tgt ls rest)) (hsz : (offs.size : Int) = hi - lo + 1 := by decide) : W p l e R s m args below meth c H locs cells slots Q (F0 m pc ls (.int x :: rest)) := by
  by_cases ho : x.toInt < lo ∨ hi < x.toInt
  · exact lv_tableOut hexec hb hdg ho ht k
  · have h1 : (x.toInt - lo).toNat < offs.size := by omega
    unfold x_tsel at h
    rw [if_neg ho, Array.getElem?_eq_getElem h1, Option.getD_some] at h
    exact lv_tableIn hexec hb hdg (fun q => ho (Or.inl q)) (fun q => ho (Or.inr q)) (by rw [Array.getElem?_eq_getElem h1, h]) ht k
end XT
