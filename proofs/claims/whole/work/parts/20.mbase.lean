/-! ===== the reference: small methods ===== -/
theorem i64_lt {a b : Int32} : (a.toInt64 < b.toInt64) = (a < b) := by
  apply propext
  rw [Int64.lt_iff_toInt_lt, Int32.lt_iff_toInt_lt, Int32.toInt_toInt64, Int32.toInt_toInt64]
theorem k64_0 : (0 : Int64) = (0 : Int32).toInt64 := by decide
theorem k64_1 : (1 : Int64) = (1 : Int32).toInt64 := by decide
theorem k64_2 : (2 : Int64) = (2 : Int32).toInt64 := by decide
theorem k64_3 : (3 : Int64) = (3 : Int32).toInt64 := by decide
theorem k64_5 : (5 : Int64) = (5 : Int32).toInt64 := by decide
theorem k64_9 : (9 : Int64) = (9 : Int32).toInt64 := by decide
theorem k64_15 : (15 : Int64) = (15 : Int32).toInt64 := by decide
theorem k64_16 : (16 : Int64) = (16 : Int32).toInt64 := by decide
theorem k64_23 : (23 : Int64) = (23 : Int32).toInt64 := by decide
theorem k64_24 : (24 : Int64) = (24 : Int32).toInt64 := by decide
theorem k64_255 : (255 : Int64) = (255 : Int32).toInt64 := by decide
theorem k64_m1 : (-1 : Int64) = (-1 : Int32).toInt64 := by decide
theorem lgc_lt {x y : Int64} : (lg_cmp x y < 0) = (x < y) := by
  apply propext
  have h := lg_cmp_ge x y
  constructor
  · intro h1
    rw [Int64.lt_iff_toInt_lt]
    rw [Int64.le_iff_toInt_le] at h
    rw [Int32.lt_iff_toInt_lt] at h1
    rw [Int32.le_iff_toInt_le] at h
    have h2 : ¬ y.toInt ≤ x.toInt := fun z => by
      have := h.mpr z
      omega
    omega
  · intro h1
    rw [Int64.lt_iff_toInt_lt] at h1
    rw [Int64.le_iff_toInt_le, Int32.le_iff_toInt_le] at h
    rw [Int32.lt_iff_toInt_lt]
    have h2 : ¬ (0 : Int32).toInt ≤ (lg_cmp x y).toInt := fun z => by
      have := h.mp z
      omega
    omega
theorem lgc_gt {x y : Int64} : (0 < lg_cmp x y) = (y < x) := by
  apply propext
  unfold lg_cmp
  constructor
  · intro h
    split at h
    · rename_i h1; exact h1
    · split at h
      · exact absurd h (by decide)
      · exact absurd h (by decide)
  · intro h
    rw [if_pos h]
    decide
section
variable {xl : Nat} {I : zI} {J : zJ} {Q : zQ}
theorem m_in {u v w : Int64} : Rn (zG xl) 96 0 [.long u, .null, .long v, .null, .long w, .null] [] I J Q = Q (some (.int (if u < v then 0 else if w < u then 0 else 1))) I J := by
  simp only [x96_0, x96_1, x96_2, x96_3, x96_6, x96_7, x96_9, x96_10, x96_13, x96_14, x96_17, x96_18, ↓reduceIte, zkl_i, zkl_r, zkl_n, zkl_z, zkl_l, Option.toList_some, Option.toList_none, List.cons_append, List.nil_append, zcs_0, zcs_i, zcs_l, zcs_r, zle8, true_and, and_true, true_or, or_true, lgc_lt, lgc_gt]
  simp only [ite_QQ Q, ite_sm, ite_vi, ite_vl, ite_self]
theorem m_isTwo {a : Int32} : Rn (zG xl) 98 0 [.int a] [] I J Q = Q (some (.int (if a < 0 then 0 else if 1 < a then 0 else 1))) I J := by
  simp only [x98_0, x98_1, x98_2, x98_3, x98_4, x98_7, ↓reduceIte, zkl_i, zkl_r, zkl_n, zkl_z, zkl_l, Option.toList_some, Option.toList_none, List.cons_append, List.nil_append, zcs_0, zcs_i, zcs_l, zcs_r, zle8, true_and, and_true, true_or, or_true, m_in, k64_0, k64_1, i64_lt]
  by_cases h1 : a < 0
  all_goals by_cases h2 : 1 < a
  all_goals simp only [h1, h2, if_true, if_false, ↓reduceIte, zkl_i, zkl_r, zkl_n, zkl_z, zkl_l, Option.toList_some, Option.toList_none, List.cons_append, List.nil_append, zcs_0, zcs_i, zcs_l, zcs_r, zle8, true_and, and_true, true_or, or_true, i1_0, false_or]
def isI (b k : Int32) : Int32 := if b >>> (k &&& 31) &&& 1 = 1 then 1 else 0
theorem m_isIn {a b : Int32} : Rn (zG xl) 99 0 [.int a, .int b] [] I J Q = Q (some (.int (isI a b))) I J := by
  simp only [x99_0, x99_1, x99_2, x99_3, x99_4, x99_5, x99_6, x99_9, x99_10, x99_13, x99_14, ↓reduceIte, zkl_i, zkl_r, zkl_n, zkl_z, zkl_l, Option.toList_some, Option.toList_none, List.cons_append, List.nil_append, zcs_0, zcs_i, zcs_l, zcs_r, zle8, true_and, and_true, true_or, or_true]
  simp only [ite_QQ Q, ite_sm, ite_vi, ite_vl, ite_self]
  rfl
theorem m_greater {a b : Int32} : Rn (zG xl) 102 0 [.int a, .int b] [] I J Q = Q (some (.int (if b < a then a else b))) I J := by
  simp only [x102_0, x102_1, x102_2, x102_5, x102_6, x102_9, x102_10, ↓reduceIte, zkl_i, zkl_r, zkl_n, zkl_z, zkl_l, Option.toList_some, Option.toList_none, List.cons_append, List.nil_append, zcs_0, zcs_i, zcs_l, zcs_r, zle8, true_and, and_true, true_or, or_true]
  simp only [ite_QQ Q, ite_sm, ite_vi, ite_vl, ite_self]
theorem m_lesser {a b : Int32} : Rn (zG xl) 101 0 [.int a, .int b] [] I J Q = Q (some (.int (if a < b then a else b))) I J := by
  simp only [x101_0, x101_1, x101_2, x101_5, x101_6, x101_9, x101_10, ↓reduceIte, zkl_i, zkl_r, zkl_n, zkl_z, zkl_l, Option.toList_some, Option.toList_none, List.cons_append, List.nil_append, zcs_0, zcs_i, zcs_l, zcs_r, zle8, true_and, and_true, true_or, or_true]
  simp only [ite_QQ Q, ite_sm, ite_vi, ite_vl, ite_self]
theorem m_finds {a : Int32} : Rn (zG xl) 104 0 [.ref 65, .int a] [] I J Q = Q (some (.int (-10 - a))) (zr I 65 (upd (I 65) 4 a)) J := by
  simp only [x104_0, x104_1, x104_2_65, x104_5, x104_7, x104_8, x104_9, ↓reduceIte, zkl_i, zkl_r, zkl_n, zkl_z, zkl_l, Option.toList_some, Option.toList_none, List.cons_append, List.nil_append, zcs_0, zcs_i, zcs_l, zcs_r, zle8, true_and, and_true, true_or, or_true]
def bt (a lo hi : Int32) : Int32 := if a < lo then 0 else if hi < a then 0 else 1
theorem bt01 (a lo hi : Int32) : bt a lo hi = 0 ∨ bt a lo hi = 1 := by
  unfold bt
  split
  · exact Or.inl rfl
  · split
    · exact Or.inl rfl
    · exact Or.inr rfl
theorem m_isSheet {a : Int32} : Rn (zG xl) 105 0 [.int a] [] I J Q = Q (some (.int (bt a 0 3))) I J := by
  simp only [x105_0, x105_1, x105_2, x105_3, x105_6, x105_9, ↓reduceIte, zkl_i, zkl_r, zkl_n, zkl_z, zkl_l, Option.toList_some, Option.toList_none, List.cons_append, List.nil_append, zcs_0, zcs_i, zcs_l, zcs_r, zle8, true_and, and_true, true_or, or_true, m_in, k64_0, k64_3, i64_lt]
  exact tr_and (bt01 a 0 3)
theorem m_isText {a : Int32} : Rn (zG xl) 113 0 [.int a] [] I J Q = Q (some (.int (bt a 0 2))) I J := by
  simp only [x113_0, x113_1, x113_2, x113_3, x113_6, x113_9, ↓reduceIte, zkl_i, zkl_r, zkl_n, zkl_z, zkl_l, Option.toList_some, Option.toList_none, List.cons_append, List.nil_append, zcs_0, zcs_i, zcs_l, zcs_r, zle8, true_and, and_true, true_or, or_true, m_in, k64_0, k64_2, i64_lt]
  exact tr_and (bt01 a 0 2)
theorem m_isMinute {a : Int32} : Rn (zG xl) 128 0 [.int a] [] I J Q = Q (some (.int (bt a 0 23))) I J := by
  simp only [x128_0, x128_1, x128_2, x128_3, x128_6, x128_9, ↓reduceIte, zkl_i, zkl_r, zkl_n, zkl_z, zkl_l, Option.toList_some, Option.toList_none, List.cons_append, List.nil_append, zcs_0, zcs_i, zcs_l, zcs_r, zle8, true_and, and_true, true_or, or_true, m_in, k64_0, k64_23, i64_lt]
  exact tr_and (bt01 a 0 23)
theorem m_isLine {a : Int32} : Rn (zG xl) 126 0 [.ref 65, .int a] [] I J Q = Q (some (.int (bt a 0 (I 65 7 - 1)))) I J := by
  simp only [x126_0, x126_1, x126_2, x126_3, x126_4_65, x126_7, x126_8, x126_9, x126_10, x126_13, ↓reduceIte, zkl_i, zkl_r, zkl_n, zkl_z, zkl_l, Option.toList_some, Option.toList_none, List.cons_append, List.nil_append, zcs_0, zcs_i, zcs_l, zcs_r, zle8, true_and, and_true, true_or, or_true, m_in, k64_0, i64_lt]
  exact tr_and (bt01 a 0 _)
theorem m_isReader {a : Int32} : Rn (zG xl) 127 0 [.ref 65, .int a] [] I J Q = Q (some (.int (bt a 0 (I 65 9 - 1)))) I J := by
  simp only [x127_0, x127_1, x127_2, x127_3, x127_4_65, x127_7, x127_8, x127_9, x127_10, x127_13, ↓reduceIte, zkl_i, zkl_r, zkl_n, zkl_z, zkl_l, Option.toList_some, Option.toList_none, List.cons_append, List.nil_append, zcs_0, zcs_i, zcs_l, zcs_r, zle8, true_and, and_true, true_or, or_true, m_in, k64_0, i64_lt]
  exact tr_and (bt01 a 0 _)
def cutm (f v : Int32) : Int32 := if f = 0 then v.toInt8.toInt32 else if f = 1 then v.toInt16.toInt32 else v
theorem m_cut {f v : Int32} : Rn (zG xl) 109 0 [.int f, .int v] [] I J Q = Q (some (.int (cutm f v))) I J := by
  simp only [x109_0, x109_1, x109_4, x109_5, x109_6, x109_9, x109_10, x109_11, x109_14, x109_15, x109_16, x109_19, x109_20, ↓reduceIte, zkl_i, zkl_r, zkl_n, zkl_z, zkl_l, Option.toList_some, Option.toList_none, List.cons_append, List.nil_append, zcs_0, zcs_i, zcs_l, zcs_r, zle8, true_and, and_true, true_or, or_true]
  simp only [ite_QQ Q, ite_sm, ite_vi, ite_vl, ite_self]
  rfl
/-! texts -/
def fgo (b lo hi : Int32) : Int32 := if b < 48 + lo then -9 else if 48 + hi < b then -9 else b - 48
theorem m_figureOf {b lo hi : Int32} : Rn (zG xl) 117 0 [.int b, .int lo, .int hi] [] I J Q = Q (some (.int (fgo b lo hi))) I J := by
  simp only [x117_0, x117_1, x117_2, x117_4, x117_5, x117_6, x117_7, x117_9, x117_10, x117_11, x117_12, x117_15, x117_18, x117_19, x117_21, x117_22, x117_25, x117_27, ↓reduceIte, zkl_i, zkl_r, zkl_n, zkl_z, zkl_l, Option.toList_some, Option.toList_none, List.cons_append, List.nil_append, zcs_0, zcs_i, zcs_l, zcs_r, zle8, true_and, and_true, true_or, or_true, m_in, i64_lt]
  rw [fgo]
  by_cases h1 : b < 48 + lo
  all_goals by_cases h2 : 48 + hi < b
  all_goals simp only [h1, h2, if_true, if_false, i1_0]
def lnO (a b c k x : Int32) : Int32 := if k = 0 then (if x = a then 0 else if x = b then 1 else if x = c then 2 else -9) else if k = 1 then fgo x 1 9 else if x = 59 then 0 else -9
def shO (k x : Int32) : Int32 := if k = 0 then fgo x 0 5 else if k = 1 then fgo x 0 9 else if x = 59 then 0 else -9
theorem m_lineOf {k b : Int32} : Rn (zG xl) 118 0 [.int k, .int b] [] I J Q = Q (some (.int (lnO 108 100 116 k b))) I J := by
  simp only [x118_0, x118_1, x118_4, x118_5, x118_7, x118_10, x118_11, x118_14, x118_15, x118_17, x118_20, x118_21, x118_24, x118_25, x118_27, x118_30, x118_31, x118_34, x118_36, x118_37, x118_38, x118_39, x118_42, x118_43, x118_44, x118_46, x118_49, x118_52, x118_53, x118_55, x118_58, x118_59, x118_62, x118_64, ↓reduceIte, zkl_i, zkl_r, zkl_n, zkl_z, zkl_l, Option.toList_some, Option.toList_none, List.cons_append, List.nil_append, zcs_0, zcs_i, zcs_l, zcs_r, zle8, true_and, and_true, true_or, or_true, m_figureOf]
  simp only [ite_QQ Q, ite_sm, ite_vi, ite_vl, ite_self]
  rfl
theorem m_readerOf {k b : Int32} : Rn (zG xl) 120 0 [.int k, .int b] [] I J Q = Q (some (.int (lnO 97 113 111 k b))) I J := by
  simp only [x120_0, x120_1, x120_4, x120_5, x120_7, x120_10, x120_11, x120_14, x120_15, x120_17, x120_20, x120_21, x120_24, x120_25, x120_27, x120_30, x120_31, x120_34, x120_36, x120_37, x120_38, x120_39, x120_42, x120_43, x120_44, x120_46, x120_49, x120_52, x120_53, x120_55, x120_58, x120_59, x120_62, x120_64, ↓reduceIte, zkl_i, zkl_r, zkl_n, zkl_z, zkl_l, Option.toList_some, Option.toList_none, List.cons_append, List.nil_append, zcs_0, zcs_i, zcs_l, zcs_r, zle8, true_and, and_true, true_or, or_true, m_figureOf]
  simp only [ite_QQ Q, ite_sm, ite_vi, ite_vl, ite_self]
  rfl
theorem m_shiftOf {k b : Int32} : Rn (zG xl) 122 0 [.int k, .int b] [] I J Q = Q (some (.int (shO k b))) I J := by
  simp only [x122_0, x122_1, x122_4, x122_5, x122_6, x122_7, x122_10, x122_13, x122_14, x122_15, x122_18, x122_19, x122_20, x122_22, x122_25, x122_28, x122_29, x122_31, x122_34, x122_35, x122_38, x122_40, ↓reduceIte, zkl_i, zkl_r, zkl_n, zkl_z, zkl_l, Option.toList_some, Option.toList_none, List.cons_append, List.nil_append, zcs_0, zcs_i, zcs_l, zcs_r, zle8, true_and, and_true, true_or, or_true, m_figureOf]
  simp only [ite_QQ Q, ite_sm, ite_vi, ite_vl, ite_self]
  rfl
end
