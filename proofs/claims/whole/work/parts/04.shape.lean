/-! ===== the shape of all cells: 0 .. the class, 65 .. the reference ===== -/
def zGl : List zSp := [.inl (5, [some 1, some 8, some 18, some 28, some 38, some 48, some 52, some 61, some 62, some 63, some 64, none]), .inr (.inr (3, [2, 4, 6])), .inl (4, [some 1001, none, some 3, none]), .inr (.inl (0, 29)), .inl (4, [some 1002, none, some 5, none]), .inr (.inl (0, 17)), .inl (4, [some 1003, none, some 7, none]), .inr (.inl (0, 47)), .inl (1, [none, some 9, some 10, none, some 11, some 12, none, some 13, some 14, none, some 15, some 16, some 17, none, none]), .inr (.inl (0, 10)), .inr (.inl (0, 10)), .inr (.inl (0, 6)), .inr (.inl (0, 6)), .inr (.inl (0, 17)), .inr (.inl (0, 17)), .inr (.inl (0, 8)), .inr (.inl (0, 8)), .inr (.inl (0, 8)), .inl (0, [none, some 19, some 20, some 21, some 22, some 23, some 24, some 25, some 26, some 27]), .inr (.inl (0, 10)), .inr (.inl (0, 10)), .inr (.inl (0, 10)), .inr (.inl (0, 6)), .inr (.inl (0, 6)), .inr (.inl (0, 6)), .inr (.inl (0, 6)), .inr (.inl (0, 17)), .inr (.inl (0, 17)), .inl (1, [none, some 29, some 30, none, some 31, some 32, none, some 33, some 34, none, some 35, some 36, some 37, none, none]), .inr (.inl (0, 10)), .inr (.inl (0, 10)), .inr (.inl (0, 6)), .inr (.inl (0, 6)), .inr (.inl (0, 17)), .inr (.inl (0, 17)), .inr (.inl (0, 8)), .inr (.inl (0, 8)), .inr (.inl (0, 8)), .inl (0, [none, some 39, some 40, some 41, some 42, some 43, some 44, some 45, some 46, some 47]), .inr (.inl (0, 10)), .inr (.inl (0, 10)), .inr (.inl (0, 10)), .inr (.inl (0, 6)), .inr (.inl (0, 6)), .inr (.inl (0, 6)), .inr (.inl (0, 6)), .inr (.inl (0, 17)), .inr (.inl (0, 17)), .inl (3, [none, some 49, some 50, some 51]), .inr (.inl (0, 8)), .inr (.inl (0, 8)), .inr (.inl (0, 8)), .inr (.inr (4, [53, 55, 57, 59])), .inl (2, [none, none, none, some 54]), .inr (.inl (0, 60)), .inl (2, [none, none, none, some 56]), .inr (.inl (0, 60)), .inl (2, [none, none, none, some 58]), .inr (.inl (0, 60)), .inl (2, [none, none, none, some 60]), .inr (.inl (0, 60)), .inr (.inl (0, 3)), .inr (.inl (0, 3)), .inr (.inl (0, 240)), .inr (.inl (1, 10)), .inl (6, [some 66, some 67, some 68, some 69, none, some 70, some 71, none, some 72, none, some 73, none, some 74, none, none, some 75, none, some 76, some 77, some 78, some 79, some 80, some 81, some 82, some 83, some 84, some 85, some 86, none, some 87, some 88, none]), .inr (.inl (0, 4)), .inr (.inl (0, 4)), .inr (.inl (0, 240)), .inr (.inl (0, 60)), .inr (.inl (0, 144)), .inr (.inl (0, 3)), .inr (.inl (0, 20)), .inr (.inl (0, 12)), .inr (.inl (0, 34)), .inr (.inl (0, 24)), .inr (.inl (0, 17)), .inr (.inl (2, 17)), .inr (.inl (0, 6)), .inr (.inl (0, 6)), .inr (.inl (0, 6)), .inr (.inl (0, 6)), .inr (.inl (0, 6)), .inr (.inl (2, 6)), .inr (.inl (0, 10)), .inr (.inl (0, 10)), .inr (.inl (0, 10)), .inr (.inl (0, 24)), .inr (.inl (0, 240))]
def zG (xl : Nat) : zSg := (zGl, xl)
section
variable {xl : Nat} {i : Int32}
theorem gc_0 : zcls (zG xl) 0 = 5 := rfl
theorem gc_2 : zcls (zG xl) 2 = 4 := rfl
theorem gc_4 : zcls (zG xl) 4 = 4 := rfl
theorem gc_6 : zcls (zG xl) 6 = 4 := rfl
theorem gc_8 : zcls (zG xl) 8 = 1 := rfl
theorem gc_18 : zcls (zG xl) 18 = 0 := rfl
theorem gc_28 : zcls (zG xl) 28 = 1 := rfl
theorem gc_38 : zcls (zG xl) 38 = 0 := rfl
theorem gc_48 : zcls (zG xl) 48 = 3 := rfl
theorem gc_53 : zcls (zG xl) 53 = 2 := rfl
theorem gc_55 : zcls (zG xl) 55 = 2 := rfl
theorem gc_57 : zcls (zG xl) 57 = 2 := rfl
theorem gc_59 : zcls (zG xl) 59 = 2 := rfl
theorem gc_65 : zcls (zG xl) 65 = 6 := rfl
def zai (S : zSg) (a : Nat) (i : Int32) : Prop := (zkd S a = 0 ∨ zkd S a = 10 ∨ zkd S a = 11) ∧ zix i (zln S a)
def zas (S : zSg) (a : Nat) (i : Int32) : Prop := zkd S a = 0 ∧ zix i (zln S a)
def zab (S : zSg) (a : Nat) (i : Int32) : Prop := (zkd S a = 2 ∨ zkd S a = 12) ∧ zix i (zln S a)
def zac (S : zSg) (a : Nat) (i : Int32) : Prop := zkd S a = 2 ∧ zix i (zln S a)
theorem gc_1001 : zcls (zG xl) 1001 = 10 ∧ zcls (zG xl) 1002 = 10 ∧ zcls (zG xl) 1003 = 10 := ⟨rfl, rfl, rfl⟩
theorem ab_1011 : zab (zG xl) 1011 i = (0 ≤ i.toInt ∧ i.toInt < 3) := by
  show ((12 = 2 ∨ 12 = 12) ∧ 0 ≤ i.toInt ∧ i.toInt < ((3 : Nat) : Int)) = _
  simp
theorem al_1011 : zln (zG xl) 1011 = 3 := rfl
theorem ak_1011 : zkd (zG xl) 1011 = 12 := rfl
theorem zbv_1011 {I : zI} {j : Nat} : zbv (zG xl) I 1011 j = zsb 1011 j := rfl
theorem ab_1012 : zab (zG xl) 1012 i = (0 ≤ i.toInt ∧ i.toInt < 3) := by
  show ((12 = 2 ∨ 12 = 12) ∧ 0 ≤ i.toInt ∧ i.toInt < ((3 : Nat) : Int)) = _
  simp
theorem al_1012 : zln (zG xl) 1012 = 3 := rfl
theorem ak_1012 : zkd (zG xl) 1012 = 12 := rfl
theorem zbv_1012 {I : zI} {j : Nat} : zbv (zG xl) I 1012 j = zsb 1012 j := rfl
theorem ab_1013 : zab (zG xl) 1013 i = (0 ≤ i.toInt ∧ i.toInt < 6) := by
  show ((12 = 2 ∨ 12 = 12) ∧ 0 ≤ i.toInt ∧ i.toInt < ((6 : Nat) : Int)) = _
  simp
theorem al_1013 : zln (zG xl) 1013 = 6 := rfl
theorem ak_1013 : zkd (zG xl) 1013 = 12 := rfl
theorem zbv_1013 {I : zI} {j : Nat} : zbv (zG xl) I 1013 j = zsb 1013 j := rfl
theorem zbv_77 {I : zI} {j : Nat} : zbv (zG xl) I 77 j = I 77 j := rfl
theorem zbv_83 {I : zI} {j : Nat} : zbv (zG xl) I 83 j = I 83 j := rfl
def zaj (S : zSg) (a : Nat) (i : Int32) : Prop := zkd S a = 1 ∧ zix i (zln S a)
def zar (S : zSg) (a : Nat) (i : Int32) : Prop := (zkd S a = 3 ∨ zkd S a = 4) ∧ zix i (zln S a)
theorem ar_1 : zar (zG xl) 1 i = (0 ≤ i.toInt ∧ i.toInt < 3) := by
  show ((3 = 3 ∨ 3 = 4) ∧ 0 ≤ i.toInt ∧ i.toInt < ((3 : Nat) : Int)) = _
  simp
theorem aa_1_0 : zra (zG xl) 1 0 = .ref 2 := rfl
theorem aa_1_1 : zra (zG xl) 1 1 = .ref 4 := rfl
theorem aa_1_2 : zra (zG xl) 1 2 = .ref 6 := rfl
theorem ai_3 : zai (zG xl) 3 i = (0 ≤ i.toInt ∧ i.toInt < 29) := by
  show ((0 = 0 ∨ 0 = 10 ∨ 0 = 11) ∧ 0 ≤ i.toInt ∧ i.toInt < ((29 : Nat) : Int)) = _
  simp
theorem as_3 : zas (zG xl) 3 i = (0 ≤ i.toInt ∧ i.toInt < 29) := by
  show (0 = 0 ∧ 0 ≤ i.toInt ∧ i.toInt < ((29 : Nat) : Int)) = _
  simp
theorem al_3 : zln (zG xl) 3 = 29 := rfl
theorem ak_3 : zkd (zG xl) 3 = 0 := rfl
theorem ai_5 : zai (zG xl) 5 i = (0 ≤ i.toInt ∧ i.toInt < 17) := by
  show ((0 = 0 ∨ 0 = 10 ∨ 0 = 11) ∧ 0 ≤ i.toInt ∧ i.toInt < ((17 : Nat) : Int)) = _
  simp
theorem as_5 : zas (zG xl) 5 i = (0 ≤ i.toInt ∧ i.toInt < 17) := by
  show (0 = 0 ∧ 0 ≤ i.toInt ∧ i.toInt < ((17 : Nat) : Int)) = _
  simp
theorem al_5 : zln (zG xl) 5 = 17 := rfl
theorem ak_5 : zkd (zG xl) 5 = 0 := rfl
theorem ai_7 : zai (zG xl) 7 i = (0 ≤ i.toInt ∧ i.toInt < 47) := by
  show ((0 = 0 ∨ 0 = 10 ∨ 0 = 11) ∧ 0 ≤ i.toInt ∧ i.toInt < ((47 : Nat) : Int)) = _
  simp
theorem as_7 : zas (zG xl) 7 i = (0 ≤ i.toInt ∧ i.toInt < 47) := by
  show (0 = 0 ∧ 0 ≤ i.toInt ∧ i.toInt < ((47 : Nat) : Int)) = _
  simp
theorem al_7 : zln (zG xl) 7 = 47 := rfl
theorem ak_7 : zkd (zG xl) 7 = 0 := rfl
theorem ai_9 : zai (zG xl) 9 i = (0 ≤ i.toInt ∧ i.toInt < 10) := by
  show ((0 = 0 ∨ 0 = 10 ∨ 0 = 11) ∧ 0 ≤ i.toInt ∧ i.toInt < ((10 : Nat) : Int)) = _
  simp
theorem as_9 : zas (zG xl) 9 i = (0 ≤ i.toInt ∧ i.toInt < 10) := by
  show (0 = 0 ∧ 0 ≤ i.toInt ∧ i.toInt < ((10 : Nat) : Int)) = _
  simp
theorem al_9 : zln (zG xl) 9 = 10 := rfl
theorem ak_9 : zkd (zG xl) 9 = 0 := rfl
theorem ai_10 : zai (zG xl) 10 i = (0 ≤ i.toInt ∧ i.toInt < 10) := by
  show ((0 = 0 ∨ 0 = 10 ∨ 0 = 11) ∧ 0 ≤ i.toInt ∧ i.toInt < ((10 : Nat) : Int)) = _
  simp
theorem as_10 : zas (zG xl) 10 i = (0 ≤ i.toInt ∧ i.toInt < 10) := by
  show (0 = 0 ∧ 0 ≤ i.toInt ∧ i.toInt < ((10 : Nat) : Int)) = _
  simp
theorem al_10 : zln (zG xl) 10 = 10 := rfl
theorem ak_10 : zkd (zG xl) 10 = 0 := rfl
theorem ai_11 : zai (zG xl) 11 i = (0 ≤ i.toInt ∧ i.toInt < 6) := by
  show ((0 = 0 ∨ 0 = 10 ∨ 0 = 11) ∧ 0 ≤ i.toInt ∧ i.toInt < ((6 : Nat) : Int)) = _
  simp
theorem as_11 : zas (zG xl) 11 i = (0 ≤ i.toInt ∧ i.toInt < 6) := by
  show (0 = 0 ∧ 0 ≤ i.toInt ∧ i.toInt < ((6 : Nat) : Int)) = _
  simp
theorem al_11 : zln (zG xl) 11 = 6 := rfl
theorem ak_11 : zkd (zG xl) 11 = 0 := rfl
theorem ai_12 : zai (zG xl) 12 i = (0 ≤ i.toInt ∧ i.toInt < 6) := by
  show ((0 = 0 ∨ 0 = 10 ∨ 0 = 11) ∧ 0 ≤ i.toInt ∧ i.toInt < ((6 : Nat) : Int)) = _
  simp
theorem as_12 : zas (zG xl) 12 i = (0 ≤ i.toInt ∧ i.toInt < 6) := by
  show (0 = 0 ∧ 0 ≤ i.toInt ∧ i.toInt < ((6 : Nat) : Int)) = _
  simp
theorem al_12 : zln (zG xl) 12 = 6 := rfl
theorem ak_12 : zkd (zG xl) 12 = 0 := rfl
theorem ai_13 : zai (zG xl) 13 i = (0 ≤ i.toInt ∧ i.toInt < 17) := by
  show ((0 = 0 ∨ 0 = 10 ∨ 0 = 11) ∧ 0 ≤ i.toInt ∧ i.toInt < ((17 : Nat) : Int)) = _
  simp
theorem as_13 : zas (zG xl) 13 i = (0 ≤ i.toInt ∧ i.toInt < 17) := by
  show (0 = 0 ∧ 0 ≤ i.toInt ∧ i.toInt < ((17 : Nat) : Int)) = _
  simp
theorem al_13 : zln (zG xl) 13 = 17 := rfl
theorem ak_13 : zkd (zG xl) 13 = 0 := rfl
theorem ai_14 : zai (zG xl) 14 i = (0 ≤ i.toInt ∧ i.toInt < 17) := by
  show ((0 = 0 ∨ 0 = 10 ∨ 0 = 11) ∧ 0 ≤ i.toInt ∧ i.toInt < ((17 : Nat) : Int)) = _
  simp
theorem as_14 : zas (zG xl) 14 i = (0 ≤ i.toInt ∧ i.toInt < 17) := by
  show (0 = 0 ∧ 0 ≤ i.toInt ∧ i.toInt < ((17 : Nat) : Int)) = _
  simp
theorem al_14 : zln (zG xl) 14 = 17 := rfl
theorem ak_14 : zkd (zG xl) 14 = 0 := rfl
theorem ai_15 : zai (zG xl) 15 i = (0 ≤ i.toInt ∧ i.toInt < 8) := by
  show ((0 = 0 ∨ 0 = 10 ∨ 0 = 11) ∧ 0 ≤ i.toInt ∧ i.toInt < ((8 : Nat) : Int)) = _
  simp
theorem as_15 : zas (zG xl) 15 i = (0 ≤ i.toInt ∧ i.toInt < 8) := by
  show (0 = 0 ∧ 0 ≤ i.toInt ∧ i.toInt < ((8 : Nat) : Int)) = _
  simp
theorem al_15 : zln (zG xl) 15 = 8 := rfl
theorem ak_15 : zkd (zG xl) 15 = 0 := rfl
theorem ai_16 : zai (zG xl) 16 i = (0 ≤ i.toInt ∧ i.toInt < 8) := by
  show ((0 = 0 ∨ 0 = 10 ∨ 0 = 11) ∧ 0 ≤ i.toInt ∧ i.toInt < ((8 : Nat) : Int)) = _
  simp
theorem as_16 : zas (zG xl) 16 i = (0 ≤ i.toInt ∧ i.toInt < 8) := by
  show (0 = 0 ∧ 0 ≤ i.toInt ∧ i.toInt < ((8 : Nat) : Int)) = _
  simp
theorem al_16 : zln (zG xl) 16 = 8 := rfl
theorem ak_16 : zkd (zG xl) 16 = 0 := rfl
theorem ai_17 : zai (zG xl) 17 i = (0 ≤ i.toInt ∧ i.toInt < 8) := by
  show ((0 = 0 ∨ 0 = 10 ∨ 0 = 11) ∧ 0 ≤ i.toInt ∧ i.toInt < ((8 : Nat) : Int)) = _
  simp
theorem as_17 : zas (zG xl) 17 i = (0 ≤ i.toInt ∧ i.toInt < 8) := by
  show (0 = 0 ∧ 0 ≤ i.toInt ∧ i.toInt < ((8 : Nat) : Int)) = _
  simp
theorem al_17 : zln (zG xl) 17 = 8 := rfl
theorem ak_17 : zkd (zG xl) 17 = 0 := rfl
theorem ai_19 : zai (zG xl) 19 i = (0 ≤ i.toInt ∧ i.toInt < 10) := by
  show ((0 = 0 ∨ 0 = 10 ∨ 0 = 11) ∧ 0 ≤ i.toInt ∧ i.toInt < ((10 : Nat) : Int)) = _
  simp
theorem as_19 : zas (zG xl) 19 i = (0 ≤ i.toInt ∧ i.toInt < 10) := by
  show (0 = 0 ∧ 0 ≤ i.toInt ∧ i.toInt < ((10 : Nat) : Int)) = _
  simp
theorem al_19 : zln (zG xl) 19 = 10 := rfl
theorem ak_19 : zkd (zG xl) 19 = 0 := rfl
theorem ai_20 : zai (zG xl) 20 i = (0 ≤ i.toInt ∧ i.toInt < 10) := by
  show ((0 = 0 ∨ 0 = 10 ∨ 0 = 11) ∧ 0 ≤ i.toInt ∧ i.toInt < ((10 : Nat) : Int)) = _
  simp
theorem as_20 : zas (zG xl) 20 i = (0 ≤ i.toInt ∧ i.toInt < 10) := by
  show (0 = 0 ∧ 0 ≤ i.toInt ∧ i.toInt < ((10 : Nat) : Int)) = _
  simp
theorem al_20 : zln (zG xl) 20 = 10 := rfl
theorem ak_20 : zkd (zG xl) 20 = 0 := rfl
theorem ai_21 : zai (zG xl) 21 i = (0 ≤ i.toInt ∧ i.toInt < 10) := by
  show ((0 = 0 ∨ 0 = 10 ∨ 0 = 11) ∧ 0 ≤ i.toInt ∧ i.toInt < ((10 : Nat) : Int)) = _
  simp
theorem as_21 : zas (zG xl) 21 i = (0 ≤ i.toInt ∧ i.toInt < 10) := by
  show (0 = 0 ∧ 0 ≤ i.toInt ∧ i.toInt < ((10 : Nat) : Int)) = _
  simp
theorem al_21 : zln (zG xl) 21 = 10 := rfl
theorem ak_21 : zkd (zG xl) 21 = 0 := rfl
theorem ai_22 : zai (zG xl) 22 i = (0 ≤ i.toInt ∧ i.toInt < 6) := by
  show ((0 = 0 ∨ 0 = 10 ∨ 0 = 11) ∧ 0 ≤ i.toInt ∧ i.toInt < ((6 : Nat) : Int)) = _
  simp
theorem as_22 : zas (zG xl) 22 i = (0 ≤ i.toInt ∧ i.toInt < 6) := by
  show (0 = 0 ∧ 0 ≤ i.toInt ∧ i.toInt < ((6 : Nat) : Int)) = _
  simp
theorem al_22 : zln (zG xl) 22 = 6 := rfl
theorem ak_22 : zkd (zG xl) 22 = 0 := rfl
theorem ai_23 : zai (zG xl) 23 i = (0 ≤ i.toInt ∧ i.toInt < 6) := by
  show ((0 = 0 ∨ 0 = 10 ∨ 0 = 11) ∧ 0 ≤ i.toInt ∧ i.toInt < ((6 : Nat) : Int)) = _
  simp
theorem as_23 : zas (zG xl) 23 i = (0 ≤ i.toInt ∧ i.toInt < 6) := by
  show (0 = 0 ∧ 0 ≤ i.toInt ∧ i.toInt < ((6 : Nat) : Int)) = _
  simp
theorem al_23 : zln (zG xl) 23 = 6 := rfl
theorem ak_23 : zkd (zG xl) 23 = 0 := rfl
theorem ai_24 : zai (zG xl) 24 i = (0 ≤ i.toInt ∧ i.toInt < 6) := by
  show ((0 = 0 ∨ 0 = 10 ∨ 0 = 11) ∧ 0 ≤ i.toInt ∧ i.toInt < ((6 : Nat) : Int)) = _
  simp
theorem as_24 : zas (zG xl) 24 i = (0 ≤ i.toInt ∧ i.toInt < 6) := by
  show (0 = 0 ∧ 0 ≤ i.toInt ∧ i.toInt < ((6 : Nat) : Int)) = _
  simp
theorem al_24 : zln (zG xl) 24 = 6 := rfl
theorem ak_24 : zkd (zG xl) 24 = 0 := rfl
theorem ai_25 : zai (zG xl) 25 i = (0 ≤ i.toInt ∧ i.toInt < 6) := by
  show ((0 = 0 ∨ 0 = 10 ∨ 0 = 11) ∧ 0 ≤ i.toInt ∧ i.toInt < ((6 : Nat) : Int)) = _
  simp
theorem as_25 : zas (zG xl) 25 i = (0 ≤ i.toInt ∧ i.toInt < 6) := by
  show (0 = 0 ∧ 0 ≤ i.toInt ∧ i.toInt < ((6 : Nat) : Int)) = _
  simp
theorem al_25 : zln (zG xl) 25 = 6 := rfl
theorem ak_25 : zkd (zG xl) 25 = 0 := rfl
theorem ai_26 : zai (zG xl) 26 i = (0 ≤ i.toInt ∧ i.toInt < 17) := by
  show ((0 = 0 ∨ 0 = 10 ∨ 0 = 11) ∧ 0 ≤ i.toInt ∧ i.toInt < ((17 : Nat) : Int)) = _
  simp
theorem as_26 : zas (zG xl) 26 i = (0 ≤ i.toInt ∧ i.toInt < 17) := by
  show (0 = 0 ∧ 0 ≤ i.toInt ∧ i.toInt < ((17 : Nat) : Int)) = _
  simp
theorem al_26 : zln (zG xl) 26 = 17 := rfl
theorem ak_26 : zkd (zG xl) 26 = 0 := rfl
theorem ai_27 : zai (zG xl) 27 i = (0 ≤ i.toInt ∧ i.toInt < 17) := by
  show ((0 = 0 ∨ 0 = 10 ∨ 0 = 11) ∧ 0 ≤ i.toInt ∧ i.toInt < ((17 : Nat) : Int)) = _
  simp
theorem as_27 : zas (zG xl) 27 i = (0 ≤ i.toInt ∧ i.toInt < 17) := by
  show (0 = 0 ∧ 0 ≤ i.toInt ∧ i.toInt < ((17 : Nat) : Int)) = _
  simp
theorem al_27 : zln (zG xl) 27 = 17 := rfl
theorem ak_27 : zkd (zG xl) 27 = 0 := rfl
theorem ai_29 : zai (zG xl) 29 i = (0 ≤ i.toInt ∧ i.toInt < 10) := by
  show ((0 = 0 ∨ 0 = 10 ∨ 0 = 11) ∧ 0 ≤ i.toInt ∧ i.toInt < ((10 : Nat) : Int)) = _
  simp
theorem as_29 : zas (zG xl) 29 i = (0 ≤ i.toInt ∧ i.toInt < 10) := by
  show (0 = 0 ∧ 0 ≤ i.toInt ∧ i.toInt < ((10 : Nat) : Int)) = _
  simp
theorem al_29 : zln (zG xl) 29 = 10 := rfl
theorem ak_29 : zkd (zG xl) 29 = 0 := rfl
theorem ai_30 : zai (zG xl) 30 i = (0 ≤ i.toInt ∧ i.toInt < 10) := by
  show ((0 = 0 ∨ 0 = 10 ∨ 0 = 11) ∧ 0 ≤ i.toInt ∧ i.toInt < ((10 : Nat) : Int)) = _
  simp
theorem as_30 : zas (zG xl) 30 i = (0 ≤ i.toInt ∧ i.toInt < 10) := by
  show (0 = 0 ∧ 0 ≤ i.toInt ∧ i.toInt < ((10 : Nat) : Int)) = _
  simp
theorem al_30 : zln (zG xl) 30 = 10 := rfl
theorem ak_30 : zkd (zG xl) 30 = 0 := rfl
theorem ai_31 : zai (zG xl) 31 i = (0 ≤ i.toInt ∧ i.toInt < 6) := by
  show ((0 = 0 ∨ 0 = 10 ∨ 0 = 11) ∧ 0 ≤ i.toInt ∧ i.toInt < ((6 : Nat) : Int)) = _
  simp
theorem as_31 : zas (zG xl) 31 i = (0 ≤ i.toInt ∧ i.toInt < 6) := by
  show (0 = 0 ∧ 0 ≤ i.toInt ∧ i.toInt < ((6 : Nat) : Int)) = _
  simp
theorem al_31 : zln (zG xl) 31 = 6 := rfl
theorem ak_31 : zkd (zG xl) 31 = 0 := rfl
theorem ai_32 : zai (zG xl) 32 i = (0 ≤ i.toInt ∧ i.toInt < 6) := by
  show ((0 = 0 ∨ 0 = 10 ∨ 0 = 11) ∧ 0 ≤ i.toInt ∧ i.toInt < ((6 : Nat) : Int)) = _
  simp
theorem as_32 : zas (zG xl) 32 i = (0 ≤ i.toInt ∧ i.toInt < 6) := by
  show (0 = 0 ∧ 0 ≤ i.toInt ∧ i.toInt < ((6 : Nat) : Int)) = _
  simp
theorem al_32 : zln (zG xl) 32 = 6 := rfl
theorem ak_32 : zkd (zG xl) 32 = 0 := rfl
theorem ai_33 : zai (zG xl) 33 i = (0 ≤ i.toInt ∧ i.toInt < 17) := by
  show ((0 = 0 ∨ 0 = 10 ∨ 0 = 11) ∧ 0 ≤ i.toInt ∧ i.toInt < ((17 : Nat) : Int)) = _
  simp
theorem as_33 : zas (zG xl) 33 i = (0 ≤ i.toInt ∧ i.toInt < 17) := by
  show (0 = 0 ∧ 0 ≤ i.toInt ∧ i.toInt < ((17 : Nat) : Int)) = _
  simp
theorem al_33 : zln (zG xl) 33 = 17 := rfl
theorem ak_33 : zkd (zG xl) 33 = 0 := rfl
theorem ai_34 : zai (zG xl) 34 i = (0 ≤ i.toInt ∧ i.toInt < 17) := by
  show ((0 = 0 ∨ 0 = 10 ∨ 0 = 11) ∧ 0 ≤ i.toInt ∧ i.toInt < ((17 : Nat) : Int)) = _
  simp
theorem as_34 : zas (zG xl) 34 i = (0 ≤ i.toInt ∧ i.toInt < 17) := by
  show (0 = 0 ∧ 0 ≤ i.toInt ∧ i.toInt < ((17 : Nat) : Int)) = _
  simp
theorem al_34 : zln (zG xl) 34 = 17 := rfl
theorem ak_34 : zkd (zG xl) 34 = 0 := rfl
theorem ai_35 : zai (zG xl) 35 i = (0 ≤ i.toInt ∧ i.toInt < 8) := by
  show ((0 = 0 ∨ 0 = 10 ∨ 0 = 11) ∧ 0 ≤ i.toInt ∧ i.toInt < ((8 : Nat) : Int)) = _
  simp
theorem as_35 : zas (zG xl) 35 i = (0 ≤ i.toInt ∧ i.toInt < 8) := by
  show (0 = 0 ∧ 0 ≤ i.toInt ∧ i.toInt < ((8 : Nat) : Int)) = _
  simp
theorem al_35 : zln (zG xl) 35 = 8 := rfl
theorem ak_35 : zkd (zG xl) 35 = 0 := rfl
theorem ai_36 : zai (zG xl) 36 i = (0 ≤ i.toInt ∧ i.toInt < 8) := by
  show ((0 = 0 ∨ 0 = 10 ∨ 0 = 11) ∧ 0 ≤ i.toInt ∧ i.toInt < ((8 : Nat) : Int)) = _
  simp
theorem as_36 : zas (zG xl) 36 i = (0 ≤ i.toInt ∧ i.toInt < 8) := by
  show (0 = 0 ∧ 0 ≤ i.toInt ∧ i.toInt < ((8 : Nat) : Int)) = _
  simp
theorem al_36 : zln (zG xl) 36 = 8 := rfl
theorem ak_36 : zkd (zG xl) 36 = 0 := rfl
theorem ai_37 : zai (zG xl) 37 i = (0 ≤ i.toInt ∧ i.toInt < 8) := by
  show ((0 = 0 ∨ 0 = 10 ∨ 0 = 11) ∧ 0 ≤ i.toInt ∧ i.toInt < ((8 : Nat) : Int)) = _
  simp
theorem as_37 : zas (zG xl) 37 i = (0 ≤ i.toInt ∧ i.toInt < 8) := by
  show (0 = 0 ∧ 0 ≤ i.toInt ∧ i.toInt < ((8 : Nat) : Int)) = _
  simp
theorem al_37 : zln (zG xl) 37 = 8 := rfl
theorem ak_37 : zkd (zG xl) 37 = 0 := rfl
theorem ai_39 : zai (zG xl) 39 i = (0 ≤ i.toInt ∧ i.toInt < 10) := by
  show ((0 = 0 ∨ 0 = 10 ∨ 0 = 11) ∧ 0 ≤ i.toInt ∧ i.toInt < ((10 : Nat) : Int)) = _
  simp
theorem as_39 : zas (zG xl) 39 i = (0 ≤ i.toInt ∧ i.toInt < 10) := by
  show (0 = 0 ∧ 0 ≤ i.toInt ∧ i.toInt < ((10 : Nat) : Int)) = _
  simp
theorem al_39 : zln (zG xl) 39 = 10 := rfl
theorem ak_39 : zkd (zG xl) 39 = 0 := rfl
theorem ai_40 : zai (zG xl) 40 i = (0 ≤ i.toInt ∧ i.toInt < 10) := by
  show ((0 = 0 ∨ 0 = 10 ∨ 0 = 11) ∧ 0 ≤ i.toInt ∧ i.toInt < ((10 : Nat) : Int)) = _
  simp
theorem as_40 : zas (zG xl) 40 i = (0 ≤ i.toInt ∧ i.toInt < 10) := by
  show (0 = 0 ∧ 0 ≤ i.toInt ∧ i.toInt < ((10 : Nat) : Int)) = _
  simp
theorem al_40 : zln (zG xl) 40 = 10 := rfl
theorem ak_40 : zkd (zG xl) 40 = 0 := rfl
theorem ai_41 : zai (zG xl) 41 i = (0 ≤ i.toInt ∧ i.toInt < 10) := by
  show ((0 = 0 ∨ 0 = 10 ∨ 0 = 11) ∧ 0 ≤ i.toInt ∧ i.toInt < ((10 : Nat) : Int)) = _
  simp
theorem as_41 : zas (zG xl) 41 i = (0 ≤ i.toInt ∧ i.toInt < 10) := by
  show (0 = 0 ∧ 0 ≤ i.toInt ∧ i.toInt < ((10 : Nat) : Int)) = _
  simp
theorem al_41 : zln (zG xl) 41 = 10 := rfl
theorem ak_41 : zkd (zG xl) 41 = 0 := rfl
theorem ai_42 : zai (zG xl) 42 i = (0 ≤ i.toInt ∧ i.toInt < 6) := by
  show ((0 = 0 ∨ 0 = 10 ∨ 0 = 11) ∧ 0 ≤ i.toInt ∧ i.toInt < ((6 : Nat) : Int)) = _
  simp
theorem as_42 : zas (zG xl) 42 i = (0 ≤ i.toInt ∧ i.toInt < 6) := by
  show (0 = 0 ∧ 0 ≤ i.toInt ∧ i.toInt < ((6 : Nat) : Int)) = _
  simp
theorem al_42 : zln (zG xl) 42 = 6 := rfl
theorem ak_42 : zkd (zG xl) 42 = 0 := rfl
theorem ai_43 : zai (zG xl) 43 i = (0 ≤ i.toInt ∧ i.toInt < 6) := by
  show ((0 = 0 ∨ 0 = 10 ∨ 0 = 11) ∧ 0 ≤ i.toInt ∧ i.toInt < ((6 : Nat) : Int)) = _
  simp
theorem as_43 : zas (zG xl) 43 i = (0 ≤ i.toInt ∧ i.toInt < 6) := by
  show (0 = 0 ∧ 0 ≤ i.toInt ∧ i.toInt < ((6 : Nat) : Int)) = _
  simp
theorem al_43 : zln (zG xl) 43 = 6 := rfl
theorem ak_43 : zkd (zG xl) 43 = 0 := rfl
theorem ai_44 : zai (zG xl) 44 i = (0 ≤ i.toInt ∧ i.toInt < 6) := by
  show ((0 = 0 ∨ 0 = 10 ∨ 0 = 11) ∧ 0 ≤ i.toInt ∧ i.toInt < ((6 : Nat) : Int)) = _
  simp
theorem as_44 : zas (zG xl) 44 i = (0 ≤ i.toInt ∧ i.toInt < 6) := by
  show (0 = 0 ∧ 0 ≤ i.toInt ∧ i.toInt < ((6 : Nat) : Int)) = _
  simp
theorem al_44 : zln (zG xl) 44 = 6 := rfl
theorem ak_44 : zkd (zG xl) 44 = 0 := rfl
theorem ai_45 : zai (zG xl) 45 i = (0 ≤ i.toInt ∧ i.toInt < 6) := by
  show ((0 = 0 ∨ 0 = 10 ∨ 0 = 11) ∧ 0 ≤ i.toInt ∧ i.toInt < ((6 : Nat) : Int)) = _
  simp
theorem as_45 : zas (zG xl) 45 i = (0 ≤ i.toInt ∧ i.toInt < 6) := by
  show (0 = 0 ∧ 0 ≤ i.toInt ∧ i.toInt < ((6 : Nat) : Int)) = _
  simp
theorem al_45 : zln (zG xl) 45 = 6 := rfl
theorem ak_45 : zkd (zG xl) 45 = 0 := rfl
theorem ai_46 : zai (zG xl) 46 i = (0 ≤ i.toInt ∧ i.toInt < 17) := by
  show ((0 = 0 ∨ 0 = 10 ∨ 0 = 11) ∧ 0 ≤ i.toInt ∧ i.toInt < ((17 : Nat) : Int)) = _
  simp
theorem as_46 : zas (zG xl) 46 i = (0 ≤ i.toInt ∧ i.toInt < 17) := by
  show (0 = 0 ∧ 0 ≤ i.toInt ∧ i.toInt < ((17 : Nat) : Int)) = _
  simp
theorem al_46 : zln (zG xl) 46 = 17 := rfl
theorem ak_46 : zkd (zG xl) 46 = 0 := rfl
theorem ai_47 : zai (zG xl) 47 i = (0 ≤ i.toInt ∧ i.toInt < 17) := by
  show ((0 = 0 ∨ 0 = 10 ∨ 0 = 11) ∧ 0 ≤ i.toInt ∧ i.toInt < ((17 : Nat) : Int)) = _
  simp
theorem as_47 : zas (zG xl) 47 i = (0 ≤ i.toInt ∧ i.toInt < 17) := by
  show (0 = 0 ∧ 0 ≤ i.toInt ∧ i.toInt < ((17 : Nat) : Int)) = _
  simp
theorem al_47 : zln (zG xl) 47 = 17 := rfl
theorem ak_47 : zkd (zG xl) 47 = 0 := rfl
theorem ai_49 : zai (zG xl) 49 i = (0 ≤ i.toInt ∧ i.toInt < 8) := by
  show ((0 = 0 ∨ 0 = 10 ∨ 0 = 11) ∧ 0 ≤ i.toInt ∧ i.toInt < ((8 : Nat) : Int)) = _
  simp
theorem as_49 : zas (zG xl) 49 i = (0 ≤ i.toInt ∧ i.toInt < 8) := by
  show (0 = 0 ∧ 0 ≤ i.toInt ∧ i.toInt < ((8 : Nat) : Int)) = _
  simp
theorem al_49 : zln (zG xl) 49 = 8 := rfl
theorem ak_49 : zkd (zG xl) 49 = 0 := rfl
theorem ai_50 : zai (zG xl) 50 i = (0 ≤ i.toInt ∧ i.toInt < 8) := by
  show ((0 = 0 ∨ 0 = 10 ∨ 0 = 11) ∧ 0 ≤ i.toInt ∧ i.toInt < ((8 : Nat) : Int)) = _
  simp
theorem as_50 : zas (zG xl) 50 i = (0 ≤ i.toInt ∧ i.toInt < 8) := by
  show (0 = 0 ∧ 0 ≤ i.toInt ∧ i.toInt < ((8 : Nat) : Int)) = _
  simp
theorem al_50 : zln (zG xl) 50 = 8 := rfl
theorem ak_50 : zkd (zG xl) 50 = 0 := rfl
theorem ai_51 : zai (zG xl) 51 i = (0 ≤ i.toInt ∧ i.toInt < 8) := by
  show ((0 = 0 ∨ 0 = 10 ∨ 0 = 11) ∧ 0 ≤ i.toInt ∧ i.toInt < ((8 : Nat) : Int)) = _
  simp
theorem as_51 : zas (zG xl) 51 i = (0 ≤ i.toInt ∧ i.toInt < 8) := by
  show (0 = 0 ∧ 0 ≤ i.toInt ∧ i.toInt < ((8 : Nat) : Int)) = _
  simp
theorem al_51 : zln (zG xl) 51 = 8 := rfl
theorem ak_51 : zkd (zG xl) 51 = 0 := rfl
theorem ar_52 : zar (zG xl) 52 i = (0 ≤ i.toInt ∧ i.toInt < 4) := by
  show ((4 = 3 ∨ 4 = 4) ∧ 0 ≤ i.toInt ∧ i.toInt < ((4 : Nat) : Int)) = _
  simp
theorem aa_52_0 : zra (zG xl) 52 0 = .ref 53 := rfl
theorem aa_52_1 : zra (zG xl) 52 1 = .ref 55 := rfl
theorem aa_52_2 : zra (zG xl) 52 2 = .ref 57 := rfl
theorem aa_52_3 : zra (zG xl) 52 3 = .ref 59 := rfl
theorem ai_54 : zai (zG xl) 54 i = (0 ≤ i.toInt ∧ i.toInt < 60) := by
  show ((0 = 0 ∨ 0 = 10 ∨ 0 = 11) ∧ 0 ≤ i.toInt ∧ i.toInt < ((60 : Nat) : Int)) = _
  simp
theorem as_54 : zas (zG xl) 54 i = (0 ≤ i.toInt ∧ i.toInt < 60) := by
  show (0 = 0 ∧ 0 ≤ i.toInt ∧ i.toInt < ((60 : Nat) : Int)) = _
  simp
theorem al_54 : zln (zG xl) 54 = 60 := rfl
theorem ak_54 : zkd (zG xl) 54 = 0 := rfl
theorem ai_56 : zai (zG xl) 56 i = (0 ≤ i.toInt ∧ i.toInt < 60) := by
  show ((0 = 0 ∨ 0 = 10 ∨ 0 = 11) ∧ 0 ≤ i.toInt ∧ i.toInt < ((60 : Nat) : Int)) = _
  simp
theorem as_56 : zas (zG xl) 56 i = (0 ≤ i.toInt ∧ i.toInt < 60) := by
  show (0 = 0 ∧ 0 ≤ i.toInt ∧ i.toInt < ((60 : Nat) : Int)) = _
  simp
theorem al_56 : zln (zG xl) 56 = 60 := rfl
theorem ak_56 : zkd (zG xl) 56 = 0 := rfl
theorem ai_58 : zai (zG xl) 58 i = (0 ≤ i.toInt ∧ i.toInt < 60) := by
  show ((0 = 0 ∨ 0 = 10 ∨ 0 = 11) ∧ 0 ≤ i.toInt ∧ i.toInt < ((60 : Nat) : Int)) = _
  simp
theorem as_58 : zas (zG xl) 58 i = (0 ≤ i.toInt ∧ i.toInt < 60) := by
  show (0 = 0 ∧ 0 ≤ i.toInt ∧ i.toInt < ((60 : Nat) : Int)) = _
  simp
theorem al_58 : zln (zG xl) 58 = 60 := rfl
theorem ak_58 : zkd (zG xl) 58 = 0 := rfl
theorem ai_60 : zai (zG xl) 60 i = (0 ≤ i.toInt ∧ i.toInt < 60) := by
  show ((0 = 0 ∨ 0 = 10 ∨ 0 = 11) ∧ 0 ≤ i.toInt ∧ i.toInt < ((60 : Nat) : Int)) = _
  simp
theorem as_60 : zas (zG xl) 60 i = (0 ≤ i.toInt ∧ i.toInt < 60) := by
  show (0 = 0 ∧ 0 ≤ i.toInt ∧ i.toInt < ((60 : Nat) : Int)) = _
  simp
theorem al_60 : zln (zG xl) 60 = 60 := rfl
theorem ak_60 : zkd (zG xl) 60 = 0 := rfl
theorem ai_61 : zai (zG xl) 61 i = (0 ≤ i.toInt ∧ i.toInt < 3) := by
  show ((0 = 0 ∨ 0 = 10 ∨ 0 = 11) ∧ 0 ≤ i.toInt ∧ i.toInt < ((3 : Nat) : Int)) = _
  simp
theorem as_61 : zas (zG xl) 61 i = (0 ≤ i.toInt ∧ i.toInt < 3) := by
  show (0 = 0 ∧ 0 ≤ i.toInt ∧ i.toInt < ((3 : Nat) : Int)) = _
  simp
theorem al_61 : zln (zG xl) 61 = 3 := rfl
theorem ak_61 : zkd (zG xl) 61 = 0 := rfl
theorem ai_62 : zai (zG xl) 62 i = (0 ≤ i.toInt ∧ i.toInt < 3) := by
  show ((0 = 0 ∨ 0 = 10 ∨ 0 = 11) ∧ 0 ≤ i.toInt ∧ i.toInt < ((3 : Nat) : Int)) = _
  simp
theorem as_62 : zas (zG xl) 62 i = (0 ≤ i.toInt ∧ i.toInt < 3) := by
  show (0 = 0 ∧ 0 ≤ i.toInt ∧ i.toInt < ((3 : Nat) : Int)) = _
  simp
theorem al_62 : zln (zG xl) 62 = 3 := rfl
theorem ak_62 : zkd (zG xl) 62 = 0 := rfl
theorem ai_63 : zai (zG xl) 63 i = (0 ≤ i.toInt ∧ i.toInt < 240) := by
  show ((0 = 0 ∨ 0 = 10 ∨ 0 = 11) ∧ 0 ≤ i.toInt ∧ i.toInt < ((240 : Nat) : Int)) = _
  simp
theorem as_63 : zas (zG xl) 63 i = (0 ≤ i.toInt ∧ i.toInt < 240) := by
  show (0 = 0 ∧ 0 ≤ i.toInt ∧ i.toInt < ((240 : Nat) : Int)) = _
  simp
theorem al_63 : zln (zG xl) 63 = 240 := rfl
theorem ak_63 : zkd (zG xl) 63 = 0 := rfl
theorem aj_64 : zaj (zG xl) 64 i = (0 ≤ i.toInt ∧ i.toInt < 10) := by
  show (1 = 1 ∧ 0 ≤ i.toInt ∧ i.toInt < ((10 : Nat) : Int)) = _
  simp
theorem al_64 : zln (zG xl) 64 = 10 := rfl
theorem ak_64 : zkd (zG xl) 64 = 1 := rfl
theorem ai_66 : zai (zG xl) 66 i = (0 ≤ i.toInt ∧ i.toInt < 4) := by
  show ((0 = 0 ∨ 0 = 10 ∨ 0 = 11) ∧ 0 ≤ i.toInt ∧ i.toInt < ((4 : Nat) : Int)) = _
  simp
theorem as_66 : zas (zG xl) 66 i = (0 ≤ i.toInt ∧ i.toInt < 4) := by
  show (0 = 0 ∧ 0 ≤ i.toInt ∧ i.toInt < ((4 : Nat) : Int)) = _
  simp
theorem al_66 : zln (zG xl) 66 = 4 := rfl
theorem ak_66 : zkd (zG xl) 66 = 0 := rfl
theorem ai_67 : zai (zG xl) 67 i = (0 ≤ i.toInt ∧ i.toInt < 4) := by
  show ((0 = 0 ∨ 0 = 10 ∨ 0 = 11) ∧ 0 ≤ i.toInt ∧ i.toInt < ((4 : Nat) : Int)) = _
  simp
theorem as_67 : zas (zG xl) 67 i = (0 ≤ i.toInt ∧ i.toInt < 4) := by
  show (0 = 0 ∧ 0 ≤ i.toInt ∧ i.toInt < ((4 : Nat) : Int)) = _
  simp
theorem al_67 : zln (zG xl) 67 = 4 := rfl
theorem ak_67 : zkd (zG xl) 67 = 0 := rfl
theorem ai_68 : zai (zG xl) 68 i = (0 ≤ i.toInt ∧ i.toInt < 240) := by
  show ((0 = 0 ∨ 0 = 10 ∨ 0 = 11) ∧ 0 ≤ i.toInt ∧ i.toInt < ((240 : Nat) : Int)) = _
  simp
theorem as_68 : zas (zG xl) 68 i = (0 ≤ i.toInt ∧ i.toInt < 240) := by
  show (0 = 0 ∧ 0 ≤ i.toInt ∧ i.toInt < ((240 : Nat) : Int)) = _
  simp
theorem al_68 : zln (zG xl) 68 = 240 := rfl
theorem ak_68 : zkd (zG xl) 68 = 0 := rfl
theorem ai_69 : zai (zG xl) 69 i = (0 ≤ i.toInt ∧ i.toInt < 60) := by
  show ((0 = 0 ∨ 0 = 10 ∨ 0 = 11) ∧ 0 ≤ i.toInt ∧ i.toInt < ((60 : Nat) : Int)) = _
  simp
theorem as_69 : zas (zG xl) 69 i = (0 ≤ i.toInt ∧ i.toInt < 60) := by
  show (0 = 0 ∧ 0 ≤ i.toInt ∧ i.toInt < ((60 : Nat) : Int)) = _
  simp
theorem al_69 : zln (zG xl) 69 = 60 := rfl
theorem ak_69 : zkd (zG xl) 69 = 0 := rfl
theorem ai_70 : zai (zG xl) 70 i = (0 ≤ i.toInt ∧ i.toInt < 144) := by
  show ((0 = 0 ∨ 0 = 10 ∨ 0 = 11) ∧ 0 ≤ i.toInt ∧ i.toInt < ((144 : Nat) : Int)) = _
  simp
theorem as_70 : zas (zG xl) 70 i = (0 ≤ i.toInt ∧ i.toInt < 144) := by
  show (0 = 0 ∧ 0 ≤ i.toInt ∧ i.toInt < ((144 : Nat) : Int)) = _
  simp
theorem al_70 : zln (zG xl) 70 = 144 := rfl
theorem ak_70 : zkd (zG xl) 70 = 0 := rfl
theorem ai_71 : zai (zG xl) 71 i = (0 ≤ i.toInt ∧ i.toInt < 3) := by
  show ((0 = 0 ∨ 0 = 10 ∨ 0 = 11) ∧ 0 ≤ i.toInt ∧ i.toInt < ((3 : Nat) : Int)) = _
  simp
theorem as_71 : zas (zG xl) 71 i = (0 ≤ i.toInt ∧ i.toInt < 3) := by
  show (0 = 0 ∧ 0 ≤ i.toInt ∧ i.toInt < ((3 : Nat) : Int)) = _
  simp
theorem al_71 : zln (zG xl) 71 = 3 := rfl
theorem ak_71 : zkd (zG xl) 71 = 0 := rfl
theorem ai_72 : zai (zG xl) 72 i = (0 ≤ i.toInt ∧ i.toInt < 20) := by
  show ((0 = 0 ∨ 0 = 10 ∨ 0 = 11) ∧ 0 ≤ i.toInt ∧ i.toInt < ((20 : Nat) : Int)) = _
  simp
theorem as_72 : zas (zG xl) 72 i = (0 ≤ i.toInt ∧ i.toInt < 20) := by
  show (0 = 0 ∧ 0 ≤ i.toInt ∧ i.toInt < ((20 : Nat) : Int)) = _
  simp
theorem al_72 : zln (zG xl) 72 = 20 := rfl
theorem ak_72 : zkd (zG xl) 72 = 0 := rfl
theorem ai_73 : zai (zG xl) 73 i = (0 ≤ i.toInt ∧ i.toInt < 12) := by
  show ((0 = 0 ∨ 0 = 10 ∨ 0 = 11) ∧ 0 ≤ i.toInt ∧ i.toInt < ((12 : Nat) : Int)) = _
  simp
theorem as_73 : zas (zG xl) 73 i = (0 ≤ i.toInt ∧ i.toInt < 12) := by
  show (0 = 0 ∧ 0 ≤ i.toInt ∧ i.toInt < ((12 : Nat) : Int)) = _
  simp
theorem al_73 : zln (zG xl) 73 = 12 := rfl
theorem ak_73 : zkd (zG xl) 73 = 0 := rfl
theorem ai_74 : zai (zG xl) 74 i = (0 ≤ i.toInt ∧ i.toInt < 34) := by
  show ((0 = 0 ∨ 0 = 10 ∨ 0 = 11) ∧ 0 ≤ i.toInt ∧ i.toInt < ((34 : Nat) : Int)) = _
  simp
theorem as_74 : zas (zG xl) 74 i = (0 ≤ i.toInt ∧ i.toInt < 34) := by
  show (0 = 0 ∧ 0 ≤ i.toInt ∧ i.toInt < ((34 : Nat) : Int)) = _
  simp
theorem al_74 : zln (zG xl) 74 = 34 := rfl
theorem ak_74 : zkd (zG xl) 74 = 0 := rfl
theorem ai_75 : zai (zG xl) 75 i = (0 ≤ i.toInt ∧ i.toInt < 24) := by
  show ((0 = 0 ∨ 0 = 10 ∨ 0 = 11) ∧ 0 ≤ i.toInt ∧ i.toInt < ((24 : Nat) : Int)) = _
  simp
theorem as_75 : zas (zG xl) 75 i = (0 ≤ i.toInt ∧ i.toInt < 24) := by
  show (0 = 0 ∧ 0 ≤ i.toInt ∧ i.toInt < ((24 : Nat) : Int)) = _
  simp
theorem al_75 : zln (zG xl) 75 = 24 := rfl
theorem ak_75 : zkd (zG xl) 75 = 0 := rfl
theorem ai_76 : zai (zG xl) 76 i = (0 ≤ i.toInt ∧ i.toInt < 17) := by
  show ((0 = 0 ∨ 0 = 10 ∨ 0 = 11) ∧ 0 ≤ i.toInt ∧ i.toInt < ((17 : Nat) : Int)) = _
  simp
theorem as_76 : zas (zG xl) 76 i = (0 ≤ i.toInt ∧ i.toInt < 17) := by
  show (0 = 0 ∧ 0 ≤ i.toInt ∧ i.toInt < ((17 : Nat) : Int)) = _
  simp
theorem al_76 : zln (zG xl) 76 = 17 := rfl
theorem ak_76 : zkd (zG xl) 76 = 0 := rfl
theorem ab_77 : zab (zG xl) 77 i = (0 ≤ i.toInt ∧ i.toInt < 17) := by
  show ((2 = 2 ∨ 2 = 12) ∧ 0 ≤ i.toInt ∧ i.toInt < ((17 : Nat) : Int)) = _
  simp
theorem ac_77 : zac (zG xl) 77 i = (0 ≤ i.toInt ∧ i.toInt < 17) := by
  show (2 = 2 ∧ 0 ≤ i.toInt ∧ i.toInt < ((17 : Nat) : Int)) = _
  simp
theorem al_77 : zln (zG xl) 77 = 17 := rfl
theorem ak_77 : zkd (zG xl) 77 = 2 := rfl
theorem ai_78 : zai (zG xl) 78 i = (0 ≤ i.toInt ∧ i.toInt < 6) := by
  show ((0 = 0 ∨ 0 = 10 ∨ 0 = 11) ∧ 0 ≤ i.toInt ∧ i.toInt < ((6 : Nat) : Int)) = _
  simp
theorem as_78 : zas (zG xl) 78 i = (0 ≤ i.toInt ∧ i.toInt < 6) := by
  show (0 = 0 ∧ 0 ≤ i.toInt ∧ i.toInt < ((6 : Nat) : Int)) = _
  simp
theorem al_78 : zln (zG xl) 78 = 6 := rfl
theorem ak_78 : zkd (zG xl) 78 = 0 := rfl
theorem ai_79 : zai (zG xl) 79 i = (0 ≤ i.toInt ∧ i.toInt < 6) := by
  show ((0 = 0 ∨ 0 = 10 ∨ 0 = 11) ∧ 0 ≤ i.toInt ∧ i.toInt < ((6 : Nat) : Int)) = _
  simp
theorem as_79 : zas (zG xl) 79 i = (0 ≤ i.toInt ∧ i.toInt < 6) := by
  show (0 = 0 ∧ 0 ≤ i.toInt ∧ i.toInt < ((6 : Nat) : Int)) = _
  simp
theorem al_79 : zln (zG xl) 79 = 6 := rfl
theorem ak_79 : zkd (zG xl) 79 = 0 := rfl
theorem ai_80 : zai (zG xl) 80 i = (0 ≤ i.toInt ∧ i.toInt < 6) := by
  show ((0 = 0 ∨ 0 = 10 ∨ 0 = 11) ∧ 0 ≤ i.toInt ∧ i.toInt < ((6 : Nat) : Int)) = _
  simp
theorem as_80 : zas (zG xl) 80 i = (0 ≤ i.toInt ∧ i.toInt < 6) := by
  show (0 = 0 ∧ 0 ≤ i.toInt ∧ i.toInt < ((6 : Nat) : Int)) = _
  simp
theorem al_80 : zln (zG xl) 80 = 6 := rfl
theorem ak_80 : zkd (zG xl) 80 = 0 := rfl
theorem ai_81 : zai (zG xl) 81 i = (0 ≤ i.toInt ∧ i.toInt < 6) := by
  show ((0 = 0 ∨ 0 = 10 ∨ 0 = 11) ∧ 0 ≤ i.toInt ∧ i.toInt < ((6 : Nat) : Int)) = _
  simp
theorem as_81 : zas (zG xl) 81 i = (0 ≤ i.toInt ∧ i.toInt < 6) := by
  show (0 = 0 ∧ 0 ≤ i.toInt ∧ i.toInt < ((6 : Nat) : Int)) = _
  simp
theorem al_81 : zln (zG xl) 81 = 6 := rfl
theorem ak_81 : zkd (zG xl) 81 = 0 := rfl
theorem ai_82 : zai (zG xl) 82 i = (0 ≤ i.toInt ∧ i.toInt < 6) := by
  show ((0 = 0 ∨ 0 = 10 ∨ 0 = 11) ∧ 0 ≤ i.toInt ∧ i.toInt < ((6 : Nat) : Int)) = _
  simp
theorem as_82 : zas (zG xl) 82 i = (0 ≤ i.toInt ∧ i.toInt < 6) := by
  show (0 = 0 ∧ 0 ≤ i.toInt ∧ i.toInt < ((6 : Nat) : Int)) = _
  simp
theorem al_82 : zln (zG xl) 82 = 6 := rfl
theorem ak_82 : zkd (zG xl) 82 = 0 := rfl
theorem ab_83 : zab (zG xl) 83 i = (0 ≤ i.toInt ∧ i.toInt < 6) := by
  show ((2 = 2 ∨ 2 = 12) ∧ 0 ≤ i.toInt ∧ i.toInt < ((6 : Nat) : Int)) = _
  simp
theorem ac_83 : zac (zG xl) 83 i = (0 ≤ i.toInt ∧ i.toInt < 6) := by
  show (2 = 2 ∧ 0 ≤ i.toInt ∧ i.toInt < ((6 : Nat) : Int)) = _
  simp
theorem al_83 : zln (zG xl) 83 = 6 := rfl
theorem ak_83 : zkd (zG xl) 83 = 2 := rfl
theorem ai_84 : zai (zG xl) 84 i = (0 ≤ i.toInt ∧ i.toInt < 10) := by
  show ((0 = 0 ∨ 0 = 10 ∨ 0 = 11) ∧ 0 ≤ i.toInt ∧ i.toInt < ((10 : Nat) : Int)) = _
  simp
theorem as_84 : zas (zG xl) 84 i = (0 ≤ i.toInt ∧ i.toInt < 10) := by
  show (0 = 0 ∧ 0 ≤ i.toInt ∧ i.toInt < ((10 : Nat) : Int)) = _
  simp
theorem al_84 : zln (zG xl) 84 = 10 := rfl
theorem ak_84 : zkd (zG xl) 84 = 0 := rfl
theorem ai_85 : zai (zG xl) 85 i = (0 ≤ i.toInt ∧ i.toInt < 10) := by
  show ((0 = 0 ∨ 0 = 10 ∨ 0 = 11) ∧ 0 ≤ i.toInt ∧ i.toInt < ((10 : Nat) : Int)) = _
  simp
theorem as_85 : zas (zG xl) 85 i = (0 ≤ i.toInt ∧ i.toInt < 10) := by
  show (0 = 0 ∧ 0 ≤ i.toInt ∧ i.toInt < ((10 : Nat) : Int)) = _
  simp
theorem al_85 : zln (zG xl) 85 = 10 := rfl
theorem ak_85 : zkd (zG xl) 85 = 0 := rfl
theorem ai_86 : zai (zG xl) 86 i = (0 ≤ i.toInt ∧ i.toInt < 10) := by
  show ((0 = 0 ∨ 0 = 10 ∨ 0 = 11) ∧ 0 ≤ i.toInt ∧ i.toInt < ((10 : Nat) : Int)) = _
  simp
theorem as_86 : zas (zG xl) 86 i = (0 ≤ i.toInt ∧ i.toInt < 10) := by
  show (0 = 0 ∧ 0 ≤ i.toInt ∧ i.toInt < ((10 : Nat) : Int)) = _
  simp
theorem al_86 : zln (zG xl) 86 = 10 := rfl
theorem ak_86 : zkd (zG xl) 86 = 0 := rfl
theorem ai_87 : zai (zG xl) 87 i = (0 ≤ i.toInt ∧ i.toInt < 24) := by
  show ((0 = 0 ∨ 0 = 10 ∨ 0 = 11) ∧ 0 ≤ i.toInt ∧ i.toInt < ((24 : Nat) : Int)) = _
  simp
theorem as_87 : zas (zG xl) 87 i = (0 ≤ i.toInt ∧ i.toInt < 24) := by
  show (0 = 0 ∧ 0 ≤ i.toInt ∧ i.toInt < ((24 : Nat) : Int)) = _
  simp
theorem al_87 : zln (zG xl) 87 = 24 := rfl
theorem ak_87 : zkd (zG xl) 87 = 0 := rfl
theorem ai_88 : zai (zG xl) 88 i = (0 ≤ i.toInt ∧ i.toInt < 240) := by
  show ((0 = 0 ∨ 0 = 10 ∨ 0 = 11) ∧ 0 ≤ i.toInt ∧ i.toInt < ((240 : Nat) : Int)) = _
  simp
theorem as_88 : zas (zG xl) 88 i = (0 ≤ i.toInt ∧ i.toInt < 240) := by
  show (0 = 0 ∧ 0 ≤ i.toInt ∧ i.toInt < ((240 : Nat) : Int)) = _
  simp
theorem al_88 : zln (zG xl) 88 = 240 := rfl
theorem ak_88 : zkd (zG xl) 88 = 0 := rfl
theorem ai_1000 : zai (zG xl) 1000 i = (0 ≤ i.toInt ∧ i.toInt < 3) := by
  show ((10 = 0 ∨ 10 = 10 ∨ 10 = 11) ∧ 0 ≤ i.toInt ∧ i.toInt < ((3 : Nat) : Int)) = _
  simp
theorem ai_1004 : zai (zG xl) 1004 i = (0 ≤ i.toInt ∧ i.toInt < xl) := by
  show ((11 = 0 ∨ 11 = 10 ∨ 11 = 11) ∧ 0 ≤ i.toInt ∧ i.toInt < ((xl : Nat) : Int)) = _
  simp
theorem al_1004 : zln (zG xl) 1004 = xl := rfl
end
/-! ===== rows of cells and calls, in the forms that the printed rows use ===== -/
section
variable {S : zSg} {y pc : Nat} {L st : List Value} {I : zI} {J : zJ} {Q : zQ} {a b : Int32} {u w : Int64} {q r : Nat}
theorem rIal (hf : zft y pc = some (.iaload, 1)) : Rn S y pc L (.int a :: .ref q :: st) I J Q = (zai S q a ∧ Rn S y (pc + 1) L (.int (I q a.toNatClampNeg) :: st) I J Q) :=
  rMC hf rfl rfl rfl (fun h => by simp only [zmem]; exact if_pos h) (fun h => by simp only [zmem]; exact if_neg h) rfl
theorem rIas (hf : zft y pc = some (.iastore, 1)) : Rn S y pc L (.int b :: .int a :: .ref q :: st) I J Q = (zas S q a ∧ Rn S y (pc + 1) L st (zr I q (upd (I q) a.toNatClampNeg b)) J Q) :=
  rMC hf rfl rfl rfl (fun h => by simp only [zmem]; exact if_pos h) (fun h => by simp only [zmem]; exact if_neg h) rfl
theorem rBal (hf : zft y pc = some (.baload, 1)) : Rn S y pc L (.int a :: .ref q :: st) I J Q = (zab S q a ∧ Rn S y (pc + 1) L (.int (zbv S I q a.toNatClampNeg) :: st) I J Q) :=
  rMC hf rfl rfl rfl (fun h => by simp only [zmem]; exact if_pos h) (fun h => by simp only [zmem]; exact if_neg h) rfl
theorem rBas (hf : zft y pc = some (.bastore, 1)) : Rn S y pc L (.int b :: .int a :: .ref q :: st) I J Q = ((zac S q a ∧ (b = 0 ∨ b = 1)) ∧ Rn S y (pc + 1) L st (zr I q (upd (I q) a.toNatClampNeg b)) J Q) :=
  rMC hf rfl rfl rfl (fun h => by simp only [zmem]; exact if_pos ⟨h.1.1, h.1.2, h.2⟩) (fun h => by simp only [zmem]; exact if_neg (fun k => h ⟨⟨k.1, k.2.1⟩, k.2.2⟩)) rfl
theorem rLal (hf : zft y pc = some (.laload, 1)) : Rn S y pc L (.int a :: .ref q :: st) I J Q = (zaj S q a ∧ Rn S y (pc + 1) L (.long (J q a.toNatClampNeg) :: st) I J Q) :=
  rMC hf rfl rfl rfl (fun h => by simp only [zmem]; exact if_pos h) (fun h => by simp only [zmem]; exact if_neg h) rfl
theorem rLas (hf : zft y pc = some (.lastore, 1)) : Rn S y pc L (.long u :: .int a :: .ref q :: st) I J Q = (zaj S q a ∧ Rn S y (pc + 1) L st I (zr J q (vp_updL (J q) a.toNatClampNeg u)) Q) :=
  rMC hf rfl rfl rfl (fun h => by simp only [zmem]; exact if_pos h) (fun h => by simp only [zmem]; exact if_neg h) rfl
theorem rAal (hf : zft y pc = some (.aaload, 1)) : Rn S y pc L (.int a :: .ref q :: st) I J Q = (zar S q a ∧ Rn S y (pc + 1) L (zra S q a.toNatClampNeg :: st) I J Q) :=
  rMC hf rfl rfl rfl (fun h => by simp only [zmem]; exact if_pos h) (fun h => by simp only [zmem]; exact if_neg h) rfl
theorem rAln (hf : zft y pc = some (.arraylength, 1)) : Rn S y pc L (.ref q :: st) I J Q = (¬ zkd S q = 99 ∧ Rn S y (pc + 1) L (.int (Int32.ofNat (zln S q)) :: st) I J Q) :=
  rMC hf rfl rfl rfl (fun h => by simp only [zmem]; exact if_neg h) (fun h => by simp only [zmem]; exact if_pos (Decidable.not_not.mp h)) rfl
theorem rGf {k ci f : Nat} (hf : zft y pc = some (.getfield k, 3)) (h : zfr (zC y) k = some (ci, f)) : Rn S y pc L (.ref q :: st) I J Q = (zcls S q = ci ∧ Rn S y (pc + 3) L (zgf S I q f :: st) I J Q) :=
  rMC hf rfl rfl rfl (fun g => by simp only [zmem, h]; exact if_pos g) (fun g => by simp only [zmem, h]; exact if_neg g) rfl
theorem rGs {k : Nat} (hf : zft y pc = some (.getfield k, 3)) (h : zfr (zC y) k = none) (hz : zsf (zC y) k = 1) : Rn S y pc L (.ref q :: st) I J Q = (zcls S q = 10 ∧ Rn S y (pc + 3) L (.ref (q + 10) :: st) I J Q) :=
  rMC hf rfl rfl rfl (fun g => by simp only [zmem, h]; exact if_pos ⟨g, hz⟩) (fun g => by simp only [zmem, h, hz]; simp [g]) rfl
theorem rGt {k : Nat} (hf : zft y pc = some (.getfield k, 3)) (h : zfr (zC y) k = none) (hz : zsf (zC y) k = 2) : Rn S y pc L (.ref q :: st) I J Q = (zcls S q = 10 ∧ Rn S y (pc + 3) L (.int 0 :: st) I J Q) :=
  rMC hf rfl rfl rfl (fun g => by simp only [zmem, h, hz]; simp [g]) (fun g => by simp only [zmem, h, hz]; simp [g]) rfl
theorem rPf {k ci f : Nat} (hf : zft y pc = some (.putfield k, 3)) (h : zfr (zC y) k = some (ci, f)) : Rn S y pc L (.int a :: .ref q :: st) I J Q = ((zcls S q = ci ∧ zfk S q f = 1 ∧ (zfw ci f = 1 ∨ (zfw ci f = 2 ∧ (a = 0 ∨ a = 1)))) ∧ Rn S y (pc + 3) L st (zr I q (upd (I q) f a)) J Q) :=
  rMC hf rfl rfl rfl (fun g => by simp only [zmem, h]; exact if_pos g) (fun g => by simp only [zmem, h]; exact if_neg g) rfl
theorem rDi (hf : zft y pc = some (.idiv, 1)) : Rn S y pc L (.int b :: .int a :: st) I J Q = (¬ b = 0 ∧ Rn S y (pc + 1) L (.int (a / b) :: st) I J Q) :=
  rSC hf (fun h => by simp only [zstk]; exact if_neg h) (fun h => by simp only [zstk]; exact if_pos (Decidable.not_not.mp h)) rfl
theorem rRi (hf : zft y pc = some (.irem, 1)) : Rn S y pc L (.int b :: .int a :: st) I J Q = (¬ b = 0 ∧ Rn S y (pc + 1) L (.int (a - a / b * b) :: st) I J Q) :=
  rSC hf (fun h => by simp only [zstk]; exact if_neg h) (fun h => by simp only [zstk]; exact if_pos (Decidable.not_not.mp h)) rfl
theorem rDl (hf : zft y pc = some (.ldiv, 1)) : Rn S y pc L (.long w :: .long u :: st) I J Q = (¬ w = 0 ∧ Rn S y (pc + 1) L (.long (u / w) :: st) I J Q) :=
  rSC hf (fun h => by simp only [zstk]; exact if_neg h) (fun h => by simp only [zstk]; exact if_pos (Decidable.not_not.mp h)) rfl
theorem rRl (hf : zft y pc = some (.lrem, 1)) : Rn S y pc L (.long w :: .long u :: st) I J Q = (¬ w = 0 ∧ Rn S y (pc + 1) L (.long (u - u / w * w) :: st) I J Q) :=
  rSC hf (fun h => by simp only [zstk]; exact if_neg h) (fun h => by simp only [zstk]; exact if_pos (Decidable.not_not.mp h)) rfl
theorem zst4_is {n k : Nat} (hc : zct (zC y) k = none) : zst4 S y pc n (.invokestatic k) st = none := by
  simp only [zst4, zrt, zcal, hc]
theorem zst4_iv {n k : Nat} (hc : zct (zC y) k = none) : zst4 S y pc n (.invokevirtual k) st = none := by
  simp only [zst4, zrt, zcal, hc]
theorem rMx {k : Nat} (hf : zft y pc = some (.invokestatic k, 3)) (h : zpr (zC y) k = 1) (hc : zct (zC y) k = none) (hF : 1 ≤ zF y ∧ 21 ≤ zW y) : Rn S y pc L (.int b :: .int a :: st) I J Q = (zcs st ≤ 8 ∧ Rn S y (pc + 3) L (.int (if a < b then b else a) :: st) I J Q) :=
  rMC hf rfl rfl rfl (fun g => by simp only [zmem, h]; exact if_pos ⟨g, hF⟩) (fun g => by simp only [zmem, h]; exact if_neg (fun x => g x.1)) (zst4_is hc)
theorem rMn {k : Nat} (hf : zft y pc = some (.invokestatic k, 3)) (h : zpr (zC y) k = 2) (hc : zct (zC y) k = none) (hF : 1 ≤ zF y ∧ 21 ≤ zW y) : Rn S y pc L (.int b :: .int a :: st) I J Q = (zcs st ≤ 8 ∧ Rn S y (pc + 3) L (.int (if a ≤ b then a else b) :: st) I J Q) :=
  rMC hf rfl rfl rfl (fun g => by simp only [zmem, h]; exact if_pos ⟨g, hF⟩) (fun g => by simp only [zmem, h]; exact if_neg (fun x => g x.1)) (zst4_is hc)
def zcp (S : zSg) (p q : Nat) (a b c : Int32) : Prop := zkd S p = 0 ∧ zkd S q = 0 ∧ ¬ a < 0 ∧ ¬ b < 0 ∧ ¬ c < 0 ∧ a.toNatClampNeg + c.toNatClampNeg ≤ zln S p ∧ b.toNatClampNeg + c.toNatClampNeg ≤ zln S q
theorem rCp {k : Nat} {c : Int32} (hf : zft y pc = some (.invokestatic k, 3)) (h : zpr (zC y) k = 3) (hc : zct (zC y) k = none) (hF : 1 ≤ zF y ∧ 26 ≤ zW y) : Rn S y pc L (.int c :: .int b :: .ref q :: .int a :: .ref r :: st) I J Q = ((zcs st ≤ 8 ∧ zcp S r q a b c) ∧ Rn S y (pc + 3) L st (zr I q (va_cpy (I r) (I q) a.toNatClampNeg b.toNatClampNeg c.toNatClampNeg)) J Q) :=
  rMC hf rfl rfl rfl (fun g => by simp only [zmem, h]; exact if_pos ⟨g.1, hF.1, hF.2, g.2⟩) (fun g => by simp only [zmem, h]; exact if_neg (fun x => g ⟨x.1, x.2.2.2⟩)) (zst4_is hc)
theorem rCV {k z : Nat} {As : List Value} (hf : zft y pc = some (.invokevirtual k, 3)) (hc : zct (zC y) k = some (0, z)) (hp : zpr (zC y) k = 0) (hn : As.length = zN z) (hr : zrok y z = true) (hl : (zfl (.ref q :: As)).length ≤ zL z) :
    Rn S y pc L (As.reverse ++ .ref q :: st) I J Q = ((zcls S q = zC z ∧ zcs st ≤ 8) ∧ Rn S z 0 (zent (zL z) (.ref q :: As)) [] I J (fun v I' J' => Rn S y (pc + 3) L (v.toList ++ st) I' J' Q)) := by
  have hd : (As.reverse ++ Value.ref q :: st).drop (zN z) = .ref q :: st := List.drop_left' (by rw [List.length_reverse]; exact hn)
  have ht : (As.reverse ++ Value.ref q :: st).take (zN z) = As.reverse := List.take_left' (by rw [List.length_reverse]; exact hn)
  have hle : zN z ≤ (As.reverse ++ Value.ref q :: st).length := by rw [← hn]; simp
  exact rC hf rfl rfl rfl rfl rfl
    (fun g => by simp only [zcal, hc, hd, ht, List.reverse_reverse]; exact if_pos ⟨hle, g.1, g.2, hr, hl⟩)
    (fun g => by simp only [zcal, hc, hd, ht, List.reverse_reverse]; exact if_neg (fun x => g ⟨x.2.1, x.2.2.1⟩))
theorem rCS {k z : Nat} {As : List Value} (hf : zft y pc = some (.invokestatic k, 3)) (hc : zct (zC y) k = some (1, z)) (hp : zpr (zC y) k = 0) (hn : As.length = zN z) (hr : zrok y z = true) (hl : (zfl As).length ≤ zL z) :
    Rn S y pc L (As.reverse ++ st) I J Q = (zcs st ≤ 8 ∧ Rn S z 0 (zent (zL z) As) [] I J (fun v I' J' => Rn S y (pc + 3) L (v.toList ++ st) I' J' Q)) := by
  have hd : (As.reverse ++ st).drop (zN z) = st := List.drop_left' (by rw [List.length_reverse]; exact hn)
  have ht : (As.reverse ++ st).take (zN z) = As.reverse := List.take_left' (by rw [List.length_reverse]; exact hn)
  have hle : zN z ≤ (As.reverse ++ st).length := by rw [← hn]; simp
  exact rC hf rfl rfl rfl (by simp only [zmem, hp]) rfl
    (fun g => by simp only [zcal, hc, hd, ht, List.reverse_reverse]; exact if_pos ⟨hle, g, hr, hl⟩)
    (fun g => by simp only [zcal, hc, hd, ht, List.reverse_reverse]; exact if_neg (fun x => g x.2.1))
theorem nlt32 {a b : Int32} : (b ≤ a) ↔ ¬ a < b := by
  rw [Int32.le_iff_toInt_le, Int32.lt_iff_toInt_lt]
  omega
theorem rBif {c : ClassFile.Cond} {off : Int} {t f : Nat} (hf : zft y pc = some (.ifCond c off, 3)) (ht : ztg pc off = some t) (hq : pc + 3 = f) : Rn S y pc L (.int a :: st) I J Q = if zif c a = true then Rn S y t L st I J Q else Rn S y f L st I J Q := by
  rw [rB (pc' := if zif c a = true then t else pc + 3) (st' := st) hf rfl rfl (by simp only [zbr, ht]), hq]
  split <;> rfl
theorem rBic {c : ClassFile.Cond} {off : Int} {t f : Nat} (hf : zft y pc = some (.if_icmp c off, 3)) (ht : ztg pc off = some t) (hq : pc + 3 = f) : Rn S y pc L (.int b :: .int a :: st) I J Q = if zic c a b = true then Rn S y t L st I J Q else Rn S y f L st I J Q := by
  rw [rB (pc' := if zic c a b = true then t else pc + 3) (st' := st) hf rfl rfl (by simp only [zbr, ht]), hq]
  split <;> rfl
theorem ite_dn {c : Prop} [Decidable c] {A B : Prop} : (if decide c = true then A else B) = if c then A else B := by
  by_cases h : c <;> simp [h]
theorem ite_nn {c : Prop} [Decidable c] {A B : Prop} : (if decide (¬ c) = true then A else B) = if c then B else A := by
  by_cases h : c <;> simp [h]
theorem ite_ge {A B : Prop} : (if decide (b ≤ a) = true then A else B) = if a < b then B else A := by
  by_cases h : a < b
  · rw [if_pos h, if_neg]; simp only [decide_eq_true_eq]; rw [nlt32]; exact fun k => k h
  · rw [if_neg h, if_pos]; simp only [decide_eq_true_eq]; rw [nlt32]; exact h
theorem rIeq {off : Int} {t f : Nat} (hf : zft y pc = some (.ifCond .eq off, 3)) (ht : ztg pc off = some t) (hq : pc + 3 = f) : Rn S y pc L (.int a :: st) I J Q = if a = 0 then Rn S y t L st I J Q else Rn S y f L st I J Q := (rBif hf ht hq).trans ite_dn
theorem rIne {off : Int} {t f : Nat} (hf : zft y pc = some (.ifCond .ne off, 3)) (ht : ztg pc off = some t) (hq : pc + 3 = f) : Rn S y pc L (.int a :: st) I J Q = if a = 0 then Rn S y f L st I J Q else Rn S y t L st I J Q := (rBif hf ht hq).trans ite_nn
theorem rIlt {off : Int} {t f : Nat} (hf : zft y pc = some (.ifCond .lt off, 3)) (ht : ztg pc off = some t) (hq : pc + 3 = f) : Rn S y pc L (.int a :: st) I J Q = if a < 0 then Rn S y t L st I J Q else Rn S y f L st I J Q := (rBif hf ht hq).trans ite_dn
theorem rIge {off : Int} {t f : Nat} (hf : zft y pc = some (.ifCond .ge off, 3)) (ht : ztg pc off = some t) (hq : pc + 3 = f) : Rn S y pc L (.int a :: st) I J Q = if a < 0 then Rn S y f L st I J Q else Rn S y t L st I J Q := (rBif hf ht hq).trans ite_ge
theorem rIgt {off : Int} {t f : Nat} (hf : zft y pc = some (.ifCond .gt off, 3)) (ht : ztg pc off = some t) (hq : pc + 3 = f) : Rn S y pc L (.int a :: st) I J Q = if 0 < a then Rn S y t L st I J Q else Rn S y f L st I J Q := (rBif hf ht hq).trans ite_dn
theorem rIle {off : Int} {t f : Nat} (hf : zft y pc = some (.ifCond .le off, 3)) (ht : ztg pc off = some t) (hq : pc + 3 = f) : Rn S y pc L (.int a :: st) I J Q = if 0 < a then Rn S y f L st I J Q else Rn S y t L st I J Q := (rBif hf ht hq).trans ite_ge
theorem rCeq {off : Int} {t f : Nat} (hf : zft y pc = some (.if_icmp .eq off, 3)) (ht : ztg pc off = some t) (hq : pc + 3 = f) : Rn S y pc L (.int b :: .int a :: st) I J Q = if a = b then Rn S y t L st I J Q else Rn S y f L st I J Q := (rBic hf ht hq).trans ite_dn
theorem rCne {off : Int} {t f : Nat} (hf : zft y pc = some (.if_icmp .ne off, 3)) (ht : ztg pc off = some t) (hq : pc + 3 = f) : Rn S y pc L (.int b :: .int a :: st) I J Q = if a = b then Rn S y f L st I J Q else Rn S y t L st I J Q := (rBic hf ht hq).trans ite_nn
theorem rClt {off : Int} {t f : Nat} (hf : zft y pc = some (.if_icmp .lt off, 3)) (ht : ztg pc off = some t) (hq : pc + 3 = f) : Rn S y pc L (.int b :: .int a :: st) I J Q = if a < b then Rn S y t L st I J Q else Rn S y f L st I J Q := (rBic hf ht hq).trans ite_dn
theorem rCge {off : Int} {t f : Nat} (hf : zft y pc = some (.if_icmp .ge off, 3)) (ht : ztg pc off = some t) (hq : pc + 3 = f) : Rn S y pc L (.int b :: .int a :: st) I J Q = if a < b then Rn S y f L st I J Q else Rn S y t L st I J Q := (rBic hf ht hq).trans ite_ge
theorem rCgt {off : Int} {t f : Nat} (hf : zft y pc = some (.if_icmp .gt off, 3)) (ht : ztg pc off = some t) (hq : pc + 3 = f) : Rn S y pc L (.int b :: .int a :: st) I J Q = if b < a then Rn S y t L st I J Q else Rn S y f L st I J Q := (rBic hf ht hq).trans ite_dn
theorem rCle {off : Int} {t f : Nat} (hf : zft y pc = some (.if_icmp .le off, 3)) (ht : ztg pc off = some t) (hq : pc + 3 = f) : Rn S y pc L (.int b :: .int a :: st) I J Q = if b < a then Rn S y f L st I J Q else Rn S y t L st I J Q := (rBic hf ht hq).trans ite_ge
theorem tr_and {C A : Prop} (h : C) : (C ∧ A) = A := by simp [h]
theorem tr_pf {C D A X : Prop} {f : Nat} (h : C) (h2 : D) (h3 : f = 1) : ((C ∧ D ∧ (f = 1 ∨ (f = 2 ∧ X))) ∧ A) = A := by simp [h, h2, h3]
theorem tr_pfz {C D A X : Prop} {f : Nat} (h : C) (h2 : D) (h3 : f = 2) : ((C ∧ D ∧ (f = 1 ∨ (f = 2 ∧ X))) ∧ A) = (X ∧ A) := by simp [h, h2, h3]
def ztb (d : Nat) (x : Int32) : List Nat → Int32 → Nat
  | [], _ => d
  | t :: ts, c => if x = c then t else ztb d x ts (c + 1)
theorem rLk {d o0 o1 : Int} {n t0 t1 td : Nat} (hf : zft y pc = some (.lookupswitch d #[(0, o0), (1, o1)], n)) (h0 : ztg pc o0 = some t0) (h1 : ztg pc o1 = some t1) (hd : ztg pc d = some td) : Rn S y pc L (.int a :: st) I J Q = if a = 0 then Rn S y t0 L st I J Q else if a = 1 then Rn S y t1 L st I J Q else Rn S y td L st I J Q := by
  have hs : ((#[(0, o0), (1, o1)] : Array (Int × Int)).toList.zip ((#[(0, o0), (1, o1)] : Array (Int × Int)).toList.drop 1)).all (fun (a, next) => a.1 < next.1) = true := by simp
  by_cases ha : a = 0
  · subst ha
    rw [if_pos rfl]
    refine rB hf rfl rfl ?_
    have e : Op.lookupswitch.offset (#[(0, o0), (1, o1)] : Array (Int × Int)).toList d (0 : Int32).toInt = o0 := by
      rw [show (#[(0, o0), (1, o1)] : Array (Int × Int)).toList = [(0, o0), (1, o1)] from rfl, Op.lookupswitch.offset_cons]; exact if_pos rfl
    simp only [zbr]
    rw [if_pos hs, e, h0]
    rfl
  · rw [if_neg ha]
    by_cases hb : a = 1
    · subst hb
      rw [if_pos rfl]
      refine rB hf rfl rfl ?_
      have e : Op.lookupswitch.offset (#[(0, o0), (1, o1)] : Array (Int × Int)).toList d (1 : Int32).toInt = o1 := by
        rw [show (#[(0, o0), (1, o1)] : Array (Int × Int)).toList = [(0, o0), (1, o1)] from rfl, Op.lookupswitch.offset_cons, if_neg (by decide), Op.lookupswitch.offset_cons]; exact if_pos rfl
      simp only [zbr]
      rw [if_pos hs, e, h1]
      rfl
    · rw [if_neg hb]
      refine rB hf rfl rfl ?_
      have e : Op.lookupswitch.offset (#[(0, o0), (1, o1)] : Array (Int × Int)).toList d a.toInt = d := by
        rw [show (#[(0, o0), (1, o1)] : Array (Int × Int)).toList = [(0, o0), (1, o1)] from rfl, lv_osw (a := 0) ha (by decide), lv_osw (a := 1) hb (by decide)]; rfl
      simp only [zbr]
      rw [if_pos hs, e, hd]
      rfl
theorem ztb_nI (d : Nat) (ts : List Nat) : ∀ (c k : Nat), c + ts.length < 2 ^ 31 → k < 2 ^ 31 → ztb d (nI k) ts (nI c) = if c ≤ k ∧ k < c + ts.length then ts.getD (k - c) d else d := by
  induction ts with
  | nil => intro c k _ _; simp [ztb]
  | cons t ts ih =>
    intro c k hc hk
    simp only [List.length_cons] at hc ⊢
    rw [ztb]
    by_cases h : k = c
    · subst h
      rw [if_pos rfl, if_pos ⟨Nat.le_refl _, by omega⟩]
      simp
    · rw [if_neg (fun e => h ((nI_eq hk (by omega)).mp e)), nI_1, ih (c + 1) k (by omega) hk]
      by_cases h2 : c + 1 ≤ k ∧ k < c + 1 + ts.length
      · rw [if_pos h2, if_pos ⟨by omega, by omega⟩, show k - c = (k - (c + 1)) + 1 by omega]
        rfl
      · rw [if_neg h2, if_neg (by omega)]
theorem ztb_neg (d : Nat) (ts : List Nat) {x : Int32} (hx : x < 0) : ∀ (c : Nat), c + ts.length < 2 ^ 31 → ztb d x ts (nI c) = d := by
  induction ts with
  | nil => intro c _; rfl
  | cons t ts ih =>
    intro c hc
    simp only [List.length_cons] at hc
    rw [ztb, if_neg (fun h => by rw [h] at hx; exact nI_pos (by omega) hx), nI_1]
    exact ih (c + 1) (by omega)
theorem rTb {d hi : Int} {offs : Array Int} {n td : Nat} {ts : List Nat} (hf : zft y pc = some (.tableswitch d 0 hi offs, n)) (hd : ztg pc d = some td) (hts : offs.toList.map (fun o => ztg pc o) = ts.map some) (hh : hi + 1 = ts.length ∧ ts.length < 2 ^ 31) : Rn S y pc L (.int a :: st) I J Q = Rn S y (ztb td a ts 0) L st I J Q := by
  refine rB hf rfl rfl ?_
  rw [← nI_0]
  simp only [zbr]
  by_cases ha : a < 0
  · rw [if_pos (Or.inl (by rw [Int32.lt_iff_toInt_lt] at ha; exact ha)), hd, ztb_neg td ts ha 0 (by omega)]
    rfl
  · obtain ⟨k, hk, rfl⟩ := nI_of ha
    rw [ztb_nI td ts 0 k (by omega) hk, nI_toInt hk]
    have hl : ts.length = offs.toList.length := by
      have := congrArg List.length hts
      simpa using this.symm
    by_cases h : k < ts.length
    · rw [if_neg (by omega), if_pos ⟨by omega, by omega⟩]
      have hk2 : k < offs.size := by rw [hl] at h; exact h
      have e1 : (offs.toList.map (fun o => ztg pc o))[k]? = (ts.map some)[k]? := by rw [hts]
      rw [List.getElem?_map, List.getElem?_map, Array.getElem?_toList, List.getElem?_eq_getElem h] at e1
      have e2 : ((k : Int) - 0).toNat = k := by omega
      rw [e2]
      cases ho : offs[k]? with
      | none => rw [ho] at e1; simp at e1
      | some o =>
        rw [ho] at e1
        have e1 : ztg pc o = some ts[k] := by simpa using e1
        simp only [e1]
        simp [List.getD, h]
    · rw [if_pos (by omega), if_neg (by omega), hd]
      rfl
end
