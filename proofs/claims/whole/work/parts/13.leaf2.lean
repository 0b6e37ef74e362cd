/-! ===== the class: plans, sightings, sheets ===== -/
theorem t0 : (0 : Int32).toNatClampNeg = 0 := by decide
theorem cpy0 (f g : Nat → Int32) (n : Nat) : va_cpy f g 0 0 n = zro n f g := by
  funext k
  simp [va_cpy, zro]
section
variable {xl : Nat} {I : zI} {J : zJ} {Q : zQ}
theorem c_takeRow_9 : Rn (zG xl) 15 0 [.ref 9, .ref 29] [] I J Q = Q none (zr I 29 (zro 10 (I 9) (I 29))) J := by
  have hc : zcp (zG xl) 9 29 0 0 (nI 10) := ⟨rfl, rfl, by decide, by decide, by decide, by rw [al_9]; decide, by rw [al_29]; decide⟩
  have k1 : ¬ zkd (zG xl) 9 = 99 := by rw [ak_9]; decide
  have k2 : ¬ zkd (zG xl) 29 = 99 := by rw [ak_29]; decide
  simp (disch := first | assumption | omega | (simp (disch := omega) only [zr_n, zr_s]; assumption)) only [x15_0, x15_1, x15_2, x15_3, x15_4, x15_5, x15_6, x15_7, x15_8, x15_11, x15_14, ↓reduceIte, zkl_i, zkl_r, zkl_n, zkl_z, zkl_l, Option.toList_some, Option.toList_none, List.cons_append, List.nil_append, zcs_0, zcs_i, zcs_l, zcs_r, zle8, true_and, and_true, true_or, or_true, k1, k2, al_9, al_29, not_false_eq_true, ite_self, ofn, hc, t0, nI_clamp, cpy0]
theorem c_takeRow_10 : Rn (zG xl) 15 0 [.ref 10, .ref 30] [] I J Q = Q none (zr I 30 (zro 10 (I 10) (I 30))) J := by
  have hc : zcp (zG xl) 10 30 0 0 (nI 10) := ⟨rfl, rfl, by decide, by decide, by decide, by rw [al_10]; decide, by rw [al_30]; decide⟩
  have k1 : ¬ zkd (zG xl) 10 = 99 := by rw [ak_10]; decide
  have k2 : ¬ zkd (zG xl) 30 = 99 := by rw [ak_30]; decide
  simp (disch := first | assumption | omega | (simp (disch := omega) only [zr_n, zr_s]; assumption)) only [x15_0, x15_1, x15_2, x15_3, x15_4, x15_5, x15_6, x15_7, x15_8, x15_11, x15_14, ↓reduceIte, zkl_i, zkl_r, zkl_n, zkl_z, zkl_l, Option.toList_some, Option.toList_none, List.cons_append, List.nil_append, zcs_0, zcs_i, zcs_l, zcs_r, zle8, true_and, and_true, true_or, or_true, k1, k2, al_10, al_30, not_false_eq_true, ite_self, ofn, hc, t0, nI_clamp, cpy0]
theorem c_takeRow_11 : Rn (zG xl) 15 0 [.ref 11, .ref 31] [] I J Q = Q none (zr I 31 (zro 6 (I 11) (I 31))) J := by
  have hc : zcp (zG xl) 11 31 0 0 (nI 6) := ⟨rfl, rfl, by decide, by decide, by decide, by rw [al_11]; decide, by rw [al_31]; decide⟩
  have k1 : ¬ zkd (zG xl) 11 = 99 := by rw [ak_11]; decide
  have k2 : ¬ zkd (zG xl) 31 = 99 := by rw [ak_31]; decide
  simp (disch := first | assumption | omega | (simp (disch := omega) only [zr_n, zr_s]; assumption)) only [x15_0, x15_1, x15_2, x15_3, x15_4, x15_5, x15_6, x15_7, x15_8, x15_11, x15_14, ↓reduceIte, zkl_i, zkl_r, zkl_n, zkl_z, zkl_l, Option.toList_some, Option.toList_none, List.cons_append, List.nil_append, zcs_0, zcs_i, zcs_l, zcs_r, zle8, true_and, and_true, true_or, or_true, k1, k2, al_11, al_31, not_false_eq_true, ite_self, ofn, hc, t0, nI_clamp, cpy0]
theorem c_takeRow_12 : Rn (zG xl) 15 0 [.ref 12, .ref 32] [] I J Q = Q none (zr I 32 (zro 6 (I 12) (I 32))) J := by
  have hc : zcp (zG xl) 12 32 0 0 (nI 6) := ⟨rfl, rfl, by decide, by decide, by decide, by rw [al_12]; decide, by rw [al_32]; decide⟩
  have k1 : ¬ zkd (zG xl) 12 = 99 := by rw [ak_12]; decide
  have k2 : ¬ zkd (zG xl) 32 = 99 := by rw [ak_32]; decide
  simp (disch := first | assumption | omega | (simp (disch := omega) only [zr_n, zr_s]; assumption)) only [x15_0, x15_1, x15_2, x15_3, x15_4, x15_5, x15_6, x15_7, x15_8, x15_11, x15_14, ↓reduceIte, zkl_i, zkl_r, zkl_n, zkl_z, zkl_l, Option.toList_some, Option.toList_none, List.cons_append, List.nil_append, zcs_0, zcs_i, zcs_l, zcs_r, zle8, true_and, and_true, true_or, or_true, k1, k2, al_12, al_32, not_false_eq_true, ite_self, ofn, hc, t0, nI_clamp, cpy0]
theorem c_takeRow_13 : Rn (zG xl) 15 0 [.ref 13, .ref 33] [] I J Q = Q none (zr I 33 (zro 17 (I 13) (I 33))) J := by
  have hc : zcp (zG xl) 13 33 0 0 (nI 17) := ⟨rfl, rfl, by decide, by decide, by decide, by rw [al_13]; decide, by rw [al_33]; decide⟩
  have k1 : ¬ zkd (zG xl) 13 = 99 := by rw [ak_13]; decide
  have k2 : ¬ zkd (zG xl) 33 = 99 := by rw [ak_33]; decide
  simp (disch := first | assumption | omega | (simp (disch := omega) only [zr_n, zr_s]; assumption)) only [x15_0, x15_1, x15_2, x15_3, x15_4, x15_5, x15_6, x15_7, x15_8, x15_11, x15_14, ↓reduceIte, zkl_i, zkl_r, zkl_n, zkl_z, zkl_l, Option.toList_some, Option.toList_none, List.cons_append, List.nil_append, zcs_0, zcs_i, zcs_l, zcs_r, zle8, true_and, and_true, true_or, or_true, k1, k2, al_13, al_33, not_false_eq_true, ite_self, ofn, hc, t0, nI_clamp, cpy0]
theorem c_takeRow_14 : Rn (zG xl) 15 0 [.ref 14, .ref 34] [] I J Q = Q none (zr I 34 (zro 17 (I 14) (I 34))) J := by
  have hc : zcp (zG xl) 14 34 0 0 (nI 17) := ⟨rfl, rfl, by decide, by decide, by decide, by rw [al_14]; decide, by rw [al_34]; decide⟩
  have k1 : ¬ zkd (zG xl) 14 = 99 := by rw [ak_14]; decide
  have k2 : ¬ zkd (zG xl) 34 = 99 := by rw [ak_34]; decide
  simp (disch := first | assumption | omega | (simp (disch := omega) only [zr_n, zr_s]; assumption)) only [x15_0, x15_1, x15_2, x15_3, x15_4, x15_5, x15_6, x15_7, x15_8, x15_11, x15_14, ↓reduceIte, zkl_i, zkl_r, zkl_n, zkl_z, zkl_l, Option.toList_some, Option.toList_none, List.cons_append, List.nil_append, zcs_0, zcs_i, zcs_l, zcs_r, zle8, true_and, and_true, true_or, or_true, k1, k2, al_14, al_34, not_false_eq_true, ite_self, ofn, hc, t0, nI_clamp, cpy0]
theorem c_takeRow_15 : Rn (zG xl) 15 0 [.ref 15, .ref 35] [] I J Q = Q none (zr I 35 (zro 8 (I 15) (I 35))) J := by
  have hc : zcp (zG xl) 15 35 0 0 (nI 8) := ⟨rfl, rfl, by decide, by decide, by decide, by rw [al_15]; decide, by rw [al_35]; decide⟩
  have k1 : ¬ zkd (zG xl) 15 = 99 := by rw [ak_15]; decide
  have k2 : ¬ zkd (zG xl) 35 = 99 := by rw [ak_35]; decide
  simp (disch := first | assumption | omega | (simp (disch := omega) only [zr_n, zr_s]; assumption)) only [x15_0, x15_1, x15_2, x15_3, x15_4, x15_5, x15_6, x15_7, x15_8, x15_11, x15_14, ↓reduceIte, zkl_i, zkl_r, zkl_n, zkl_z, zkl_l, Option.toList_some, Option.toList_none, List.cons_append, List.nil_append, zcs_0, zcs_i, zcs_l, zcs_r, zle8, true_and, and_true, true_or, or_true, k1, k2, al_15, al_35, not_false_eq_true, ite_self, ofn, hc, t0, nI_clamp, cpy0]
theorem c_takeRow_16 : Rn (zG xl) 15 0 [.ref 16, .ref 36] [] I J Q = Q none (zr I 36 (zro 8 (I 16) (I 36))) J := by
  have hc : zcp (zG xl) 16 36 0 0 (nI 8) := ⟨rfl, rfl, by decide, by decide, by decide, by rw [al_16]; decide, by rw [al_36]; decide⟩
  have k1 : ¬ zkd (zG xl) 16 = 99 := by rw [ak_16]; decide
  have k2 : ¬ zkd (zG xl) 36 = 99 := by rw [ak_36]; decide
  simp (disch := first | assumption | omega | (simp (disch := omega) only [zr_n, zr_s]; assumption)) only [x15_0, x15_1, x15_2, x15_3, x15_4, x15_5, x15_6, x15_7, x15_8, x15_11, x15_14, ↓reduceIte, zkl_i, zkl_r, zkl_n, zkl_z, zkl_l, Option.toList_some, Option.toList_none, List.cons_append, List.nil_append, zcs_0, zcs_i, zcs_l, zcs_r, zle8, true_and, and_true, true_or, or_true, k1, k2, al_16, al_36, not_false_eq_true, ite_self, ofn, hc, t0, nI_clamp, cpy0]
theorem c_takeRow_17 : Rn (zG xl) 15 0 [.ref 17, .ref 37] [] I J Q = Q none (zr I 37 (zro 8 (I 17) (I 37))) J := by
  have hc : zcp (zG xl) 17 37 0 0 (nI 8) := ⟨rfl, rfl, by decide, by decide, by decide, by rw [al_17]; decide, by rw [al_37]; decide⟩
  have k1 : ¬ zkd (zG xl) 17 = 99 := by rw [ak_17]; decide
  have k2 : ¬ zkd (zG xl) 37 = 99 := by rw [ak_37]; decide
  simp (disch := first | assumption | omega | (simp (disch := omega) only [zr_n, zr_s]; assumption)) only [x15_0, x15_1, x15_2, x15_3, x15_4, x15_5, x15_6, x15_7, x15_8, x15_11, x15_14, ↓reduceIte, zkl_i, zkl_r, zkl_n, zkl_z, zkl_l, Option.toList_some, Option.toList_none, List.cons_append, List.nil_append, zcs_0, zcs_i, zcs_l, zcs_r, zle8, true_and, and_true, true_or, or_true, k1, k2, al_17, al_37, not_false_eq_true, ite_self, ofn, hc, t0, nI_clamp, cpy0]
def ztf (I : zI) : zI := zr (zr (zr (zr (zr (zr (zr (zr (zr (zr I 28 (upd (upd (upd (upd (upd (upd (I 28) 0 (I 8 0)) 3 (I 8 3)) 6 (I 8 6)) 9 (I 8 9)) 13 (I 8 13)) 14 (I 8 14))) 29 (zro 10 (I 9) (I 29))) 30 (zro 10 (I 10) (I 30))) 31 (zro 6 (I 11) (I 31))) 32 (zro 6 (I 12) (I 32))) 33 (zro 17 (I 13) (I 33))) 34 (zro 17 (I 14) (I 34))) 35 (zro 8 (I 15) (I 35))) 36 (zro 8 (I 16) (I 36))) 37 (zro 8 (I 17) (I 37))
theorem c_takeFrom : Rn (zG xl) 14 0 [.ref 28, .ref 8] [] I J Q = Q none (ztf I) J := by
  simp (disch := first | assumption | omega | (simp (disch := omega) only [zr_n, zr_s]; assumption)) only [x14_0, x14_1, x14_2_8, x14_2_28, x14_5_8, x14_5_28, x14_8, x14_9, x14_10_8, x14_10_28, x14_13_8, x14_13_28, x14_16, x14_17, x14_18_8, x14_18_28, x14_21_8, x14_21_28, x14_24, x14_25, x14_26_8, x14_26_28, x14_29_8, x14_29_28, x14_32, x14_33, x14_34_8, x14_34_28, x14_37_8, x14_37_28, x14_40, x14_41, x14_42_8, x14_42_28, x14_45_8, x14_45_28, x14_48, x14_49_8, x14_49_28, x14_52, x14_53_8, x14_53_28, x14_56, x14_59, x14_60_8, x14_60_28, x14_63, x14_64_8, x14_64_28, x14_67, x14_70, x14_71_8, x14_71_28, x14_74, x14_75_8, x14_75_28, x14_78, x14_81, x14_82_8, x14_82_28, x14_85, x14_86_8, x14_86_28, x14_89, x14_92, x14_93_8, x14_93_28, x14_96, x14_97_8, x14_97_28, x14_100, x14_103, x14_104_8, x14_104_28, x14_107, x14_108_8, x14_108_28, x14_111, x14_114, x14_115_8, x14_115_28, x14_118, x14_119_8, x14_119_28, x14_122, x14_125, x14_126_8, x14_126_28, x14_129, x14_130_8, x14_130_28, x14_133, x14_136, x14_137_8, x14_137_28, x14_140, x14_141_8, x14_141_28, x14_144, x14_147, ↓reduceIte, zkl_i, zkl_r, zkl_n, zkl_z, zkl_l, Option.toList_some, Option.toList_none, List.cons_append, List.nil_append, zcs_0, zcs_i, zcs_l, zcs_r, zle8, true_and, and_true, true_or, or_true, zr_n, zr_s, zr_zr, c_takeRow_9, c_takeRow_10, c_takeRow_11, c_takeRow_12, c_takeRow_13, c_takeRow_14, c_takeRow_15, c_takeRow_16, c_takeRow_17]
  rfl
def zae (I : zI) (a b c : Int32) : zI := zr (zr (zr (zr I 15 (upd (I 15) (tn (I 8 9)) a)) 16 (upd (I 16) (tn (I 8 9)) b)) 17 (upd (I 17) (tn (I 8 9)) c)) 8 (upd (I 8) 9 (I 8 9 + 1))
theorem c_addEvent {a b c : Int32} (h : ixN (I 8 9) 8) : Rn (zG xl) 16 0 [.ref 8, .int a, .int b, .int c] [] I J Q = Q none (zae I a b c) J := by
  simp (disch := first | assumption | omega | (simp (disch := omega) only [zr_n, zr_s]; assumption)) only [x16_0, x16_1_8, x16_1_28, x16_4, x16_5_8, x16_5_28, x16_8, x16_9, x16_10, x16_11_8, x16_11_28, x16_14, x16_15_8, x16_15_28, x16_18, x16_19, x16_20, x16_21_8, x16_21_28, x16_24, x16_25_8, x16_25_28, x16_28, x16_29, x16_30, x16_31i, x16_31r, x16_32_8, x16_32_28, x16_35, x16_36, x16_37_8, x16_37_28, x16_40, bi_15, bs_15, bi_16, bs_16, bi_17, bs_17, ↓reduceIte, zkl_i, zkl_r, zkl_n, zkl_z, zkl_l, Option.toList_some, Option.toList_none, List.cons_append, List.nil_append, zcs_0, zcs_i, zcs_l, zcs_r, zle8, true_and, and_true, true_or, or_true, zr_n, zr_s, zr_zr, h]
  rfl
def zxc (a b : Nat) (I : zI) : zI := zr (zr I 33 (upd (upd (I 33) a (I 33 b)) b (I 33 a))) 34 (upd (upd (I 34) a (I 34 b)) b (I 34 a))
theorem c_exchange {a b : Nat} (ha : a < 17) (hb : b < 17) : Rn (zG xl) 17 0 [.ref 28, .int (nI a), .int (nI b), .null, .null] [] I J Q = Q none (zxc a b I) J := by
  simp (disch := first | assumption | omega | (simp (disch := omega) only [zr_n, zr_s]; assumption)) only [x17_0, x17_1_8, x17_1_28, x17_4, x17_5, x17_6, x17_7, x17_8_8, x17_8_28, x17_11, x17_12, x17_13, x17_15, x17_16_8, x17_16_28, x17_19, x17_20, x17_21_8, x17_21_28, x17_24, x17_25, x17_26, x17_27, x17_28_8, x17_28_28, x17_31, x17_32, x17_33_8, x17_33_28, x17_36, x17_37, x17_38, x17_39, x17_40_8, x17_40_28, x17_43, x17_44, x17_45, x17_46, x17_47_8, x17_47_28, x17_50, x17_51, x17_53, x17_54, bi_33, bs_33, bi_34, bs_34, ↓reduceIte, zkl_i, zkl_r, zkl_n, zkl_z, zkl_l, Option.toList_some, Option.toList_none, List.cons_append, List.nil_append, zcs_0, zcs_i, zcs_l, zcs_r, zle8, true_and, and_true, true_or, or_true, zr_n, zr_s, zr_zr, ixN_nI, nI_clamp]
  rw [zr_c (c := 34) (d := 33) (by decide), zr_zr, zr_zr]
  rfl
def nxs (s : Int32) : Int32 := 1103515245 * s + 12345
def lot (s m : Int32) : Int32 := (s.toUInt32 >>> (Int32.toUInt32 16 &&& Int32.toUInt32 31)).toInt32 - (s.toUInt32 >>> (Int32.toUInt32 16 &&& Int32.toUInt32 31)).toInt32 / m * m
def sp_dr (rd ln : Int32) (i : Nat) (x : Int32 × (Nat → Int32) × (Nat → Int32)) : Int32 × (Nat → Int32) × (Nat → Int32) := (nxs (nxs x.1), upd x.2.1 i (lot (nxs x.1) rd), upd x.2.2 i (lot (nxs (nxs x.1)) ln))
def sp_dz (I : zI) (s : Int32) (n : Nat) : Int32 × (Nat → Int32) × (Nat → Int32) := fo (sp_dr (I 28 3) (I 28 0)) n 0 (s, I 33, I 34)
def zdr (I : zI) (s : Int32) (n : Nat) : zI := if I 28 3 = 0 then zr I 28 (upd (I 28) 6 0) else if I 28 0 = 0 then zr I 28 (upd (I 28) 6 0) else zr (zr (zr I 33 (sp_dz I s n).2.1) 34 (sp_dz I s n).2.2) 28 (upd (I 28) 6 (nI n))
theorem c_drawShifts {s : Int32} {n : Nat} (hn : n ≤ 16) : Rn (zG xl) 18 0 [.ref 28, .int s, .int (nI n), .null, .null] [] I J Q = Q none (zdr I s n) J := by
  rw [zdr]
  by_cases h1 : I 28 3 = 0
  · simp (disch := first | assumption | omega | (simp (disch := omega) only [zr_n, zr_s]; assumption)) only [x18_0, x18_1, x18_2_8, x18_2_28, x18_5, x18_6_8, x18_6_28, x18_9, x18_12, x18_13_8, x18_13_28, x18_16, x18_19, x18_20, x18_21, x18_22, x18_23, x18_27, x18_28, x18_31, x18_32, x18_35, x18_36, x18_37_8, x18_37_28, x18_40, x18_42, x18_43, x18_45, x18_46, x18_47_8, x18_47_28, x18_50, x18_51, x18_52, x18_53, x18_56, x18_57, x18_58_8, x18_58_28, x18_61, x18_63, x18_64, x18_66, x18_67, x18_68_8, x18_68_28, x18_71, x18_72, x18_73, x18_76, x18_79, x18_80, x18_81_8, x18_81_28, x18_84, ↓reduceIte, zkl_i, zkl_r, zkl_n, zkl_z, zkl_l, Option.toList_some, Option.toList_none, List.cons_append, List.nil_append, zcs_0, zcs_i, zcs_l, zcs_r, zle8, true_and, and_true, true_or, or_true, zr_s, upd_n, h1, if_true]
  · by_cases h2 : I 28 0 = 0
    · simp (disch := first | assumption | omega | (simp (disch := omega) only [zr_n, zr_s]; assumption)) only [x18_0, x18_1, x18_2_8, x18_2_28, x18_5, x18_6_8, x18_6_28, x18_9, x18_12, x18_13_8, x18_13_28, x18_16, x18_19, x18_20, x18_21, x18_22, x18_23, x18_27, x18_28, x18_31, x18_32, x18_35, x18_36, x18_37_8, x18_37_28, x18_40, x18_42, x18_43, x18_45, x18_46, x18_47_8, x18_47_28, x18_50, x18_51, x18_52, x18_53, x18_56, x18_57, x18_58_8, x18_58_28, x18_61, x18_63, x18_64, x18_66, x18_67, x18_68_8, x18_68_28, x18_71, x18_72, x18_73, x18_76, x18_79, x18_80, x18_81_8, x18_81_28, x18_84, ↓reduceIte, zkl_i, zkl_r, zkl_n, zkl_z, zkl_l, Option.toList_some, Option.toList_none, List.cons_append, List.nil_append, zcs_0, zcs_i, zcs_l, zcs_r, zle8, true_and, and_true, true_or, or_true, zr_s, upd_n, h1, h2, if_true, if_false]
    · simp (disch := first | assumption | omega | (simp (disch := omega) only [zr_n, zr_s]; assumption)) only [x18_0, x18_1, x18_2_8, x18_2_28, x18_5, x18_6_8, x18_6_28, x18_9, x18_12, x18_13_8, x18_13_28, x18_16, x18_19, x18_20, x18_21, x18_22, x18_23, x18_27, x18_28, x18_31, x18_32, x18_35, x18_36, x18_37_8, x18_37_28, x18_40, x18_42, x18_43, x18_45, x18_46, x18_47_8, x18_47_28, x18_50, x18_51, x18_52, x18_53, x18_56, x18_57, x18_58_8, x18_58_28, x18_61, x18_63, x18_64, x18_66, x18_67, x18_68_8, x18_68_28, x18_71, x18_72, x18_73, x18_76, x18_79, x18_80, x18_81_8, x18_81_28, x18_84, ↓reduceIte, zkl_i, zkl_r, zkl_n, zkl_z, zkl_l, Option.toList_some, Option.toList_none, List.cons_append, List.nil_append, zcs_0, zcs_i, zcs_l, zcs_r, zle8, true_and, and_true, true_or, or_true, zr_s, upd_n, h1, h2, if_false]
      have key : ∀ (d k : Nat) (x : Int32 × (Nat → Int32) × (Nat → Int32)), k + d = n → Rn (zG xl) 18 25 [.ref 28, .int s, .int (nI n), .int x.1, .int (nI k)] [] (zr (zr (zr I 33 x.2.1) 34 x.2.2) 28 (upd (I 28) 6 0)) J Q = Q none (zr (zr (zr I 33 (fo (sp_dr (I 28 3) (I 28 0)) d k x).2.1) 34 (fo (sp_dr (I 28 3) (I 28 0)) d k x).2.2) 28 (upd (I 28) 6 (nI n))) J := by
        intro d
        induction d with
        | zero =>
          intro k x h
          have h : k = n := h
          subst h
          rw [h18_25]
          simp (disch := first | assumption | omega | (simp (disch := omega) only [zr_n, zr_s]; assumption)) only [x18_0, x18_1, x18_2_8, x18_2_28, x18_5, x18_6_8, x18_6_28, x18_9, x18_12, x18_13_8, x18_13_28, x18_16, x18_19, x18_20, x18_21, x18_22, x18_23, x18_27, x18_28, x18_31, x18_32, x18_35, x18_36, x18_37_8, x18_37_28, x18_40, x18_42, x18_43, x18_45, x18_46, x18_47_8, x18_47_28, x18_50, x18_51, x18_52, x18_53, x18_56, x18_57, x18_58_8, x18_58_28, x18_61, x18_63, x18_64, x18_66, x18_67, x18_68_8, x18_68_28, x18_71, x18_72, x18_73, x18_76, x18_79, x18_80, x18_81_8, x18_81_28, x18_84, ↓reduceIte, zkl_i, zkl_r, zkl_n, zkl_z, zkl_l, Option.toList_some, Option.toList_none, List.cons_append, List.nil_append, zcs_0, zcs_i, zcs_l, zcs_r, zle8, true_and, and_true, true_or, or_true, nI_ltI, Nat.lt_irrefl, if_false, zr_s, zr_zr, upd_upd, fo]
        | succ d ih =>
          intro k x h
          have hk : k < n := by omega
          have ih' := ih (k + 1) (sp_dr (I 28 3) (I 28 0) k x) (by omega)
          rw [h18_25, fo, ← ih']
          simp (disch := first | assumption | omega | (simp (disch := omega) only [zr_n, zr_s]; assumption)) only [x18_0, x18_1, x18_2_8, x18_2_28, x18_5, x18_6_8, x18_6_28, x18_9, x18_12, x18_13_8, x18_13_28, x18_16, x18_19, x18_20, x18_21, x18_22, x18_23, x18_27, x18_28, x18_31, x18_32, x18_35, x18_36, x18_37_8, x18_37_28, x18_40, x18_42, x18_43, x18_45, x18_46, x18_47_8, x18_47_28, x18_50, x18_51, x18_52, x18_53, x18_56, x18_57, x18_58_8, x18_58_28, x18_61, x18_63, x18_64, x18_66, x18_67, x18_68_8, x18_68_28, x18_71, x18_72, x18_73, x18_76, x18_79, x18_80, x18_81_8, x18_81_28, x18_84, x19_0, x19_2, x19_3, x19_4, x19_7, x19_8, bi_33, bs_33, bi_34, bs_34, ↓reduceIte, zkl_i, zkl_r, zkl_n, zkl_z, zkl_l, Option.toList_some, Option.toList_none, List.cons_append, List.nil_append, zcs_0, zcs_i, zcs_l, zcs_r, zle8, true_and, and_true, true_or, or_true, nI_ltI, hk, if_true, zr_s, zr_n, upd_n, h1, h2, not_false_eq_true, ixN_nI, nI_clamp, na_1]
          rw [zr_c (I := zr I 33 _) (c := 34) (d := 28) (by decide), zr_c (I := I) (c := 33) (d := 28) (by decide)]
          rw [zr_c (c := 34) (d := 33) (by decide), zr_zr, zr_zr]
          rw [sp_dr, zr_c (I := zr I 33 _) (c := 34) (d := 28) (by decide), zr_c (I := I) (c := 33) (d := 28) (by decide)]
          rfl
      have h0 := key n 0 (s, I 33, I 34) (Nat.zero_add n)
      simp only [zr_id] at h0
      exact h0
/-! sightings -/
def zsn (I : zI) (a b c : Int32) : zI := zr (zr (zr (zr I 49 (upd (I 49) (tn (I 48 0)) a)) 50 (upd (I 50) (tn (I 48 0)) b)) 51 (upd (I 51) (tn (I 48 0)) c)) 48 (upd (I 48) 0 (I 48 0 + 1))
theorem c_append {a b c : Int32} (h : ixN (I 48 0) 8) : Rn (zG xl) 28 0 [.ref 48, .int a, .int b, .int c] [] I J Q = Q none (zsn I a b c) J := by
  simp (disch := first | assumption | omega | (simp (disch := omega) only [zr_n, zr_s]; assumption)) only [x28_0, x28_1_48, x28_4, x28_5_48, x28_8, x28_9, x28_10, x28_11_48, x28_14, x28_15_48, x28_18, x28_19, x28_20, x28_21_48, x28_24, x28_25_48, x28_28, x28_29, x28_30, x28_31i, x28_31r, x28_32_48, x28_35, x28_36, x28_37_48, x28_40, bi_49, bs_49, bi_50, bs_50, bi_51, bs_51, ↓reduceIte, zkl_i, zkl_r, zkl_n, zkl_z, zkl_l, Option.toList_some, Option.toList_none, List.cons_append, List.nil_append, zcs_0, zcs_i, zcs_l, zcs_r, zle8, true_and, and_true, true_or, or_true, zr_n, zr_s, zr_zr, h]
  rfl
def sp_co (I : zI) : Nat → Nat → Int32
  | 0, _ => 1
  | d + 1, k => if I 50 k < I 38 0 then (if (if I 39 (tn (I 50 k)) = -1 then (0 : Int32) else if I 49 k < I 40 (tn (I 50 k)) then 0 else 1) = (if I 51 k = 1 then 1 else 0) then sp_co I d (k + 1) else 0) else 0
theorem c_comeOut {n : Nat} (hn : I 48 0 = nI n) (h8 : n ≤ 8) (hl : ∀ k, k < n → ixN (I 50 k) 10) : Rn (zG xl) 29 0 [.ref 48, .ref 38, .null, .null] [] I J Q = Q (some (.int (sp_co I n 0))) I J := by
  simp only [x29_0, x29_1, x29_3, x29_4_48, x29_7, x29_10, x29_11_48, x29_14, x29_15, x29_16, x29_17_18, x29_17_38, x29_20, x29_23, x29_24, x29_27, x29_28, x29_29, x29_30, x29_33, x29_34, x29_35_48, x29_38, x29_39, x29_40, x29_41_48, x29_44, x29_45, x29_46, x29_49, x29_50_48, x29_53, x29_54, x29_55, x29_56, x29_59, x29_60, x29_63, x29_64, x29_67, x29_68, x29_69, x29_72, x29_75, x29_76, ↓reduceIte, zkl_i, zkl_r, zkl_n, zkl_z, zkl_l, Option.toList_some, Option.toList_none, List.cons_append, List.nil_append, zcs_0, zcs_i, zcs_l, zcs_r, zle8, true_and, and_true, true_or, or_true]
  have key : ∀ (d k : Nat) (v3 : Value), k + d = n → Rn (zG xl) 29 2 [.ref 48, .ref 38, .int (nI k), v3] [] I J Q = Q (some (.int (sp_co I d k))) I J := by
    intro d
    induction d with
    | zero =>
      intro k v3 h
      have h : k = n := h
      subst h
      rw [h29_2]
      simp (disch := first | assumption | omega | (simp (disch := omega) only [zr_n, zr_s]; assumption)) only [x29_0, x29_1, x29_3, x29_4_48, x29_7, x29_10, x29_11_48, x29_14, x29_15, x29_16, x29_17_18, x29_17_38, x29_20, x29_23, x29_24, x29_27, x29_28, x29_29, x29_30, x29_33, x29_34, x29_35_48, x29_38, x29_39, x29_40, x29_41_48, x29_44, x29_45, x29_46, x29_49, x29_50_48, x29_53, x29_54, x29_55, x29_56, x29_59, x29_60, x29_63, x29_64, x29_67, x29_68, x29_69, x29_72, x29_75, x29_76, ↓reduceIte, zkl_i, zkl_r, zkl_n, zkl_z, zkl_l, Option.toList_some, Option.toList_none, List.cons_append, List.nil_append, zcs_0, zcs_i, zcs_l, zcs_r, zle8, true_and, and_true, true_or, or_true, hn, nI_ltI, Nat.lt_irrefl, if_false, sp_co]
    | succ d ih =>
      intro k v3 h
      have hk : k < n := by omega
      have hlk := hl k hk
      have ih' := fun v => ih (k + 1) v (by omega)
      rw [h29_2, sp_co]
      by_cases h1 : I 50 k < I 38 0
      · simp (disch := first | assumption | omega | (simp (disch := omega) only [zr_n, zr_s]; assumption)) only [x29_3, x29_4_48, x29_7, x29_10, x29_11_48, x29_14, x29_15, x29_16, x29_17_18, x29_17_38, x29_20, x29_23, x29_24, x29_27, x29_28, x29_29, x29_30, x29_33, x29_34, x29_35_48, x29_38, x29_39, x29_40, x29_41_48, x29_44, x29_45, x29_46, x29_49, x29_50_48, x29_53, x29_54, x29_55, x29_56, x29_59, x29_60, x29_63, gc_48, gc_38, bi_49, bs_49, bi_50, bs_50, bi_51, bs_51, ↓reduceIte, zkl_i, zkl_r, zkl_n, zkl_z, zkl_l, Option.toList_some, Option.toList_none, List.cons_append, List.nil_append, zcs_0, zcs_i, zcs_l, zcs_r, zle8, true_and, and_true, true_or, or_true, hn, nI_ltI, hk, if_true, ixN_nI, nI_clamp, h1, i1_0, c_isMarked_38, ite_Rn, ite_cons, ite_vi, ite_vl, ite_self, ite_zr, ite_zr1, ite_zr2, ite_upd, ite_upd1, ite_upd2]
        simp (disch := first | assumption | omega | (simp (disch := omega) only [zr_n, zr_s]; assumption)) only [x29_64, x29_67, x29_68, x29_69, x29_72, x29_75, x29_76, ↓reduceIte, zkl_i, zkl_r, zkl_n, zkl_z, zkl_l, Option.toList_some, Option.toList_none, List.cons_append, List.nil_append, zcs_0, zcs_i, zcs_l, zcs_r, zle8, true_and, and_true, true_or, or_true, na_1, ih']
        simp only [ite_QQ Q, ite_sm, ite_vi, ite_vl, ite_self]
      · simp (disch := first | assumption | omega | (simp (disch := omega) only [zr_n, zr_s]; assumption)) only [x29_0, x29_1, x29_3, x29_4_48, x29_7, x29_10, x29_11_48, x29_14, x29_15, x29_16, x29_17_18, x29_17_38, x29_20, x29_23, x29_24, x29_27, x29_28, x29_29, x29_30, x29_33, x29_34, x29_35_48, x29_38, x29_39, x29_40, x29_41_48, x29_44, x29_45, x29_46, x29_49, x29_50_48, x29_53, x29_54, x29_55, x29_56, x29_59, x29_60, x29_63, x29_64, x29_67, x29_68, x29_69, x29_72, x29_75, x29_76, gc_48, gc_38, bi_49, bs_49, bi_50, bs_50, bi_51, bs_51, ↓reduceIte, zkl_i, zkl_r, zkl_n, zkl_z, zkl_l, Option.toList_some, Option.toList_none, List.cons_append, List.nil_append, zcs_0, zcs_i, zcs_l, zcs_r, zle8, true_and, and_true, true_or, or_true, hn, nI_ltI, hk, if_true, ixN_nI, nI_clamp, h1, if_false]
  exact key n 0 .null (Nat.zero_add n)
/-! sheets -/
def cutv (f v : Int32) : Int32 := if f = 0 then v.toInt8.toInt32 else if f = 1 then v.toInt16.toInt32 else v
theorem c_fill_53 {v : Int32} : Rn (zG xl) 198 0 [.ref 54, .int v, .null, .null] [] I J Q = Q none (zr I 54 (zfil 60 v (I 54))) J := c_fill (by rw [ak_54]; decide) al_54 (fun _ => bs_54) (by decide)
theorem c_renew_53 {f n : Int32} : Rn (zG xl) 23 0 [.ref 53, .int f, .int n] [] I J Q = Q none (zr (zr I 53 (upd (upd (upd (I 53) 0 0) 1 f) 2 n)) 54 (zfil 60 0 (I 54))) J := by
  simp (disch := first | assumption | omega | (simp (disch := omega) only [zr_n, zr_s]; assumption)) only [x23_0, x23_1, x23_2_53, x23_2_55, x23_2_57, x23_2_59, x23_5, x23_6, x23_7_53, x23_7_55, x23_7_57, x23_7_59, x23_10, x23_11, x23_12_53, x23_12_55, x23_12_57, x23_12_59, x23_15, x23_16_53, x23_16_55, x23_16_57, x23_16_59, x23_19, x23_20, x23_23, ↓reduceIte, zkl_i, zkl_r, zkl_n, zkl_z, zkl_l, Option.toList_some, Option.toList_none, List.cons_append, List.nil_append, zcs_0, zcs_i, zcs_l, zcs_r, zle8, true_and, and_true, true_or, or_true, zr_s, zr_n, zr_zr, c_fill_53]
theorem c_findingAt_53 {f i : Int32} : Rn (zG xl) 24 0 [.ref 53, .int f, .int i] [] I J Q = Q (some (.int (if I 53 0 = 0 then (if I 53 1 = f then (if i < 0 then 2 else if i < I 53 2 then 0 else 2) else 3) else 1))) I J := by
  simp (disch := first | assumption | omega | (simp (disch := omega) only [zr_n, zr_s]; assumption)) only [x24_0, x24_1_53, x24_1_55, x24_1_57, x24_1_59, x24_4, x24_7, x24_8, x24_9, x24_10_53, x24_10_55, x24_10_57, x24_10_59, x24_13, x24_14, x24_17, x24_18, x24_19, x24_20, x24_21_53, x24_21_55, x24_21_57, x24_21_59, x24_24, x24_27, x24_30, x24_31, x24_34, x24_35, ↓reduceIte, zkl_i, zkl_r, zkl_n, zkl_z, zkl_l, Option.toList_some, Option.toList_none, List.cons_append, List.nil_append, zcs_0, zcs_i, zcs_l, zcs_r, zle8, true_and, and_true, true_or, or_true, c_below]
  by_cases h1 : I 53 0 = 0
  all_goals by_cases h2 : I 53 1 = f
  all_goals by_cases h3 : i < 0
  all_goals by_cases h4 : i < I 53 2
  all_goals simp only [h1, h2, h3, h4, if_true, if_false, i1_0]
theorem c_put_53 {k : Nat} {v : Int32} (hk : k < 60) : Rn (zG xl) 25 0 [.ref 53, .int (nI k), .int v] [] I J Q = Q none (zr I 54 (upd (I 54) k (cutv (I 53 1) v))) J := by
  simp (disch := first | assumption | omega | (simp (disch := omega) only [zr_n, zr_s]; assumption)) only [x25_0, x25_1_53, x25_1_55, x25_1_57, x25_1_59, x25_4, x25_32, x25_33_53, x25_33_55, x25_33_57, x25_33_59, x25_36, x25_37, x25_38, x25_39, x25_40, x25_43, x25_44_53, x25_44_55, x25_44_57, x25_44_59, x25_47, x25_48, x25_49, x25_50, x25_51, x25_54, x25_55_53, x25_55_55, x25_55_57, x25_55_59, x25_58, x25_59, x25_60, x25_61, bi_54, bs_54, ↓reduceIte, zkl_i, zkl_r, zkl_n, zkl_z, zkl_l, Option.toList_some, Option.toList_none, List.cons_append, List.nil_append, zcs_0, zcs_i, zcs_l, zcs_r, zle8, true_and, and_true, true_or, or_true, ixN_nI, nI_clamp]
  rw [cutv]
  by_cases h1 : I 53 1 = 0
  all_goals by_cases h2 : I 53 1 = 1
  all_goals simp only [h1, h2, if_true, if_false, i1_0]
theorem c_holds_53 {i n : Int32} : Rn (zG xl) 26 0 [.ref 53, .int i, .int n] [] I J Q = Q (some (.int (if i < 0 then 0 else if n < 0 then 0 else if I 53 2 - i < n then 0 else 1))) I J := by
  simp (disch := first | assumption | omega | (simp (disch := omega) only [zr_n, zr_s]; assumption)) only [x26_0, x26_1, x26_4, x26_5, x26_8, x26_9, x26_10_53, x26_10_55, x26_10_57, x26_10_59, x26_13, x26_14, x26_15, x26_18, x26_19, x26_22, x26_23, ↓reduceIte, zkl_i, zkl_r, zkl_n, zkl_z, zkl_l, Option.toList_some, Option.toList_none, List.cons_append, List.nil_append, zcs_0, zcs_i, zcs_l, zcs_r, zle8, true_and, and_true, true_or, or_true]
  simp only [ite_QQ Q, ite_sm, ite_vi, ite_vl, ite_self]
theorem c_fill_55 {v : Int32} : Rn (zG xl) 198 0 [.ref 56, .int v, .null, .null] [] I J Q = Q none (zr I 56 (zfil 60 v (I 56))) J := c_fill (by rw [ak_56]; decide) al_56 (fun _ => bs_56) (by decide)
theorem c_renew_55 {f n : Int32} : Rn (zG xl) 23 0 [.ref 55, .int f, .int n] [] I J Q = Q none (zr (zr I 55 (upd (upd (upd (I 55) 0 0) 1 f) 2 n)) 56 (zfil 60 0 (I 56))) J := by
  simp (disch := first | assumption | omega | (simp (disch := omega) only [zr_n, zr_s]; assumption)) only [x23_0, x23_1, x23_2_53, x23_2_55, x23_2_57, x23_2_59, x23_5, x23_6, x23_7_53, x23_7_55, x23_7_57, x23_7_59, x23_10, x23_11, x23_12_53, x23_12_55, x23_12_57, x23_12_59, x23_15, x23_16_53, x23_16_55, x23_16_57, x23_16_59, x23_19, x23_20, x23_23, ↓reduceIte, zkl_i, zkl_r, zkl_n, zkl_z, zkl_l, Option.toList_some, Option.toList_none, List.cons_append, List.nil_append, zcs_0, zcs_i, zcs_l, zcs_r, zle8, true_and, and_true, true_or, or_true, zr_s, zr_n, zr_zr, c_fill_55]
theorem c_findingAt_55 {f i : Int32} : Rn (zG xl) 24 0 [.ref 55, .int f, .int i] [] I J Q = Q (some (.int (if I 55 0 = 0 then (if I 55 1 = f then (if i < 0 then 2 else if i < I 55 2 then 0 else 2) else 3) else 1))) I J := by
  simp (disch := first | assumption | omega | (simp (disch := omega) only [zr_n, zr_s]; assumption)) only [x24_0, x24_1_53, x24_1_55, x24_1_57, x24_1_59, x24_4, x24_7, x24_8, x24_9, x24_10_53, x24_10_55, x24_10_57, x24_10_59, x24_13, x24_14, x24_17, x24_18, x24_19, x24_20, x24_21_53, x24_21_55, x24_21_57, x24_21_59, x24_24, x24_27, x24_30, x24_31, x24_34, x24_35, ↓reduceIte, zkl_i, zkl_r, zkl_n, zkl_z, zkl_l, Option.toList_some, Option.toList_none, List.cons_append, List.nil_append, zcs_0, zcs_i, zcs_l, zcs_r, zle8, true_and, and_true, true_or, or_true, c_below]
  by_cases h1 : I 55 0 = 0
  all_goals by_cases h2 : I 55 1 = f
  all_goals by_cases h3 : i < 0
  all_goals by_cases h4 : i < I 55 2
  all_goals simp only [h1, h2, h3, h4, if_true, if_false, i1_0]
theorem c_put_55 {k : Nat} {v : Int32} (hk : k < 60) : Rn (zG xl) 25 0 [.ref 55, .int (nI k), .int v] [] I J Q = Q none (zr I 56 (upd (I 56) k (cutv (I 55 1) v))) J := by
  simp (disch := first | assumption | omega | (simp (disch := omega) only [zr_n, zr_s]; assumption)) only [x25_0, x25_1_53, x25_1_55, x25_1_57, x25_1_59, x25_4, x25_32, x25_33_53, x25_33_55, x25_33_57, x25_33_59, x25_36, x25_37, x25_38, x25_39, x25_40, x25_43, x25_44_53, x25_44_55, x25_44_57, x25_44_59, x25_47, x25_48, x25_49, x25_50, x25_51, x25_54, x25_55_53, x25_55_55, x25_55_57, x25_55_59, x25_58, x25_59, x25_60, x25_61, bi_56, bs_56, ↓reduceIte, zkl_i, zkl_r, zkl_n, zkl_z, zkl_l, Option.toList_some, Option.toList_none, List.cons_append, List.nil_append, zcs_0, zcs_i, zcs_l, zcs_r, zle8, true_and, and_true, true_or, or_true, ixN_nI, nI_clamp]
  rw [cutv]
  by_cases h1 : I 55 1 = 0
  all_goals by_cases h2 : I 55 1 = 1
  all_goals simp only [h1, h2, if_true, if_false, i1_0]
theorem c_holds_55 {i n : Int32} : Rn (zG xl) 26 0 [.ref 55, .int i, .int n] [] I J Q = Q (some (.int (if i < 0 then 0 else if n < 0 then 0 else if I 55 2 - i < n then 0 else 1))) I J := by
  simp (disch := first | assumption | omega | (simp (disch := omega) only [zr_n, zr_s]; assumption)) only [x26_0, x26_1, x26_4, x26_5, x26_8, x26_9, x26_10_53, x26_10_55, x26_10_57, x26_10_59, x26_13, x26_14, x26_15, x26_18, x26_19, x26_22, x26_23, ↓reduceIte, zkl_i, zkl_r, zkl_n, zkl_z, zkl_l, Option.toList_some, Option.toList_none, List.cons_append, List.nil_append, zcs_0, zcs_i, zcs_l, zcs_r, zle8, true_and, and_true, true_or, or_true]
  simp only [ite_QQ Q, ite_sm, ite_vi, ite_vl, ite_self]
theorem c_fill_57 {v : Int32} : Rn (zG xl) 198 0 [.ref 58, .int v, .null, .null] [] I J Q = Q none (zr I 58 (zfil 60 v (I 58))) J := c_fill (by rw [ak_58]; decide) al_58 (fun _ => bs_58) (by decide)
theorem c_renew_57 {f n : Int32} : Rn (zG xl) 23 0 [.ref 57, .int f, .int n] [] I J Q = Q none (zr (zr I 57 (upd (upd (upd (I 57) 0 0) 1 f) 2 n)) 58 (zfil 60 0 (I 58))) J := by
  simp (disch := first | assumption | omega | (simp (disch := omega) only [zr_n, zr_s]; assumption)) only [x23_0, x23_1, x23_2_53, x23_2_55, x23_2_57, x23_2_59, x23_5, x23_6, x23_7_53, x23_7_55, x23_7_57, x23_7_59, x23_10, x23_11, x23_12_53, x23_12_55, x23_12_57, x23_12_59, x23_15, x23_16_53, x23_16_55, x23_16_57, x23_16_59, x23_19, x23_20, x23_23, ↓reduceIte, zkl_i, zkl_r, zkl_n, zkl_z, zkl_l, Option.toList_some, Option.toList_none, List.cons_append, List.nil_append, zcs_0, zcs_i, zcs_l, zcs_r, zle8, true_and, and_true, true_or, or_true, zr_s, zr_n, zr_zr, c_fill_57]
theorem c_findingAt_57 {f i : Int32} : Rn (zG xl) 24 0 [.ref 57, .int f, .int i] [] I J Q = Q (some (.int (if I 57 0 = 0 then (if I 57 1 = f then (if i < 0 then 2 else if i < I 57 2 then 0 else 2) else 3) else 1))) I J := by
  simp (disch := first | assumption | omega | (simp (disch := omega) only [zr_n, zr_s]; assumption)) only [x24_0, x24_1_53, x24_1_55, x24_1_57, x24_1_59, x24_4, x24_7, x24_8, x24_9, x24_10_53, x24_10_55, x24_10_57, x24_10_59, x24_13, x24_14, x24_17, x24_18, x24_19, x24_20, x24_21_53, x24_21_55, x24_21_57, x24_21_59, x24_24, x24_27, x24_30, x24_31, x24_34, x24_35, ↓reduceIte, zkl_i, zkl_r, zkl_n, zkl_z, zkl_l, Option.toList_some, Option.toList_none, List.cons_append, List.nil_append, zcs_0, zcs_i, zcs_l, zcs_r, zle8, true_and, and_true, true_or, or_true, c_below]
  by_cases h1 : I 57 0 = 0
  all_goals by_cases h2 : I 57 1 = f
  all_goals by_cases h3 : i < 0
  all_goals by_cases h4 : i < I 57 2
  all_goals simp only [h1, h2, h3, h4, if_true, if_false, i1_0]
theorem c_put_57 {k : Nat} {v : Int32} (hk : k < 60) : Rn (zG xl) 25 0 [.ref 57, .int (nI k), .int v] [] I J Q = Q none (zr I 58 (upd (I 58) k (cutv (I 57 1) v))) J := by
  simp (disch := first | assumption | omega | (simp (disch := omega) only [zr_n, zr_s]; assumption)) only [x25_0, x25_1_53, x25_1_55, x25_1_57, x25_1_59, x25_4, x25_32, x25_33_53, x25_33_55, x25_33_57, x25_33_59, x25_36, x25_37, x25_38, x25_39, x25_40, x25_43, x25_44_53, x25_44_55, x25_44_57, x25_44_59, x25_47, x25_48, x25_49, x25_50, x25_51, x25_54, x25_55_53, x25_55_55, x25_55_57, x25_55_59, x25_58, x25_59, x25_60, x25_61, bi_58, bs_58, ↓reduceIte, zkl_i, zkl_r, zkl_n, zkl_z, zkl_l, Option.toList_some, Option.toList_none, List.cons_append, List.nil_append, zcs_0, zcs_i, zcs_l, zcs_r, zle8, true_and, and_true, true_or, or_true, ixN_nI, nI_clamp]
  rw [cutv]
  by_cases h1 : I 57 1 = 0
  all_goals by_cases h2 : I 57 1 = 1
  all_goals simp only [h1, h2, if_true, if_false, i1_0]
theorem c_holds_57 {i n : Int32} : Rn (zG xl) 26 0 [.ref 57, .int i, .int n] [] I J Q = Q (some (.int (if i < 0 then 0 else if n < 0 then 0 else if I 57 2 - i < n then 0 else 1))) I J := by
  simp (disch := first | assumption | omega | (simp (disch := omega) only [zr_n, zr_s]; assumption)) only [x26_0, x26_1, x26_4, x26_5, x26_8, x26_9, x26_10_53, x26_10_55, x26_10_57, x26_10_59, x26_13, x26_14, x26_15, x26_18, x26_19, x26_22, x26_23, ↓reduceIte, zkl_i, zkl_r, zkl_n, zkl_z, zkl_l, Option.toList_some, Option.toList_none, List.cons_append, List.nil_append, zcs_0, zcs_i, zcs_l, zcs_r, zle8, true_and, and_true, true_or, or_true]
  simp only [ite_QQ Q, ite_sm, ite_vi, ite_vl, ite_self]
theorem c_fill_59 {v : Int32} : Rn (zG xl) 198 0 [.ref 60, .int v, .null, .null] [] I J Q = Q none (zr I 60 (zfil 60 v (I 60))) J := c_fill (by rw [ak_60]; decide) al_60 (fun _ => bs_60) (by decide)
theorem c_renew_59 {f n : Int32} : Rn (zG xl) 23 0 [.ref 59, .int f, .int n] [] I J Q = Q none (zr (zr I 59 (upd (upd (upd (I 59) 0 0) 1 f) 2 n)) 60 (zfil 60 0 (I 60))) J := by
  simp (disch := first | assumption | omega | (simp (disch := omega) only [zr_n, zr_s]; assumption)) only [x23_0, x23_1, x23_2_53, x23_2_55, x23_2_57, x23_2_59, x23_5, x23_6, x23_7_53, x23_7_55, x23_7_57, x23_7_59, x23_10, x23_11, x23_12_53, x23_12_55, x23_12_57, x23_12_59, x23_15, x23_16_53, x23_16_55, x23_16_57, x23_16_59, x23_19, x23_20, x23_23, ↓reduceIte, zkl_i, zkl_r, zkl_n, zkl_z, zkl_l, Option.toList_some, Option.toList_none, List.cons_append, List.nil_append, zcs_0, zcs_i, zcs_l, zcs_r, zle8, true_and, and_true, true_or, or_true, zr_s, zr_n, zr_zr, c_fill_59]
theorem c_findingAt_59 {f i : Int32} : Rn (zG xl) 24 0 [.ref 59, .int f, .int i] [] I J Q = Q (some (.int (if I 59 0 = 0 then (if I 59 1 = f then (if i < 0 then 2 else if i < I 59 2 then 0 else 2) else 3) else 1))) I J := by
  simp (disch := first | assumption | omega | (simp (disch := omega) only [zr_n, zr_s]; assumption)) only [x24_0, x24_1_53, x24_1_55, x24_1_57, x24_1_59, x24_4, x24_7, x24_8, x24_9, x24_10_53, x24_10_55, x24_10_57, x24_10_59, x24_13, x24_14, x24_17, x24_18, x24_19, x24_20, x24_21_53, x24_21_55, x24_21_57, x24_21_59, x24_24, x24_27, x24_30, x24_31, x24_34, x24_35, ↓reduceIte, zkl_i, zkl_r, zkl_n, zkl_z, zkl_l, Option.toList_some, Option.toList_none, List.cons_append, List.nil_append, zcs_0, zcs_i, zcs_l, zcs_r, zle8, true_and, and_true, true_or, or_true, c_below]
  by_cases h1 : I 59 0 = 0
  all_goals by_cases h2 : I 59 1 = f
  all_goals by_cases h3 : i < 0
  all_goals by_cases h4 : i < I 59 2
  all_goals simp only [h1, h2, h3, h4, if_true, if_false, i1_0]
theorem c_put_59 {k : Nat} {v : Int32} (hk : k < 60) : Rn (zG xl) 25 0 [.ref 59, .int (nI k), .int v] [] I J Q = Q none (zr I 60 (upd (I 60) k (cutv (I 59 1) v))) J := by
  simp (disch := first | assumption | omega | (simp (disch := omega) only [zr_n, zr_s]; assumption)) only [x25_0, x25_1_53, x25_1_55, x25_1_57, x25_1_59, x25_4, x25_32, x25_33_53, x25_33_55, x25_33_57, x25_33_59, x25_36, x25_37, x25_38, x25_39, x25_40, x25_43, x25_44_53, x25_44_55, x25_44_57, x25_44_59, x25_47, x25_48, x25_49, x25_50, x25_51, x25_54, x25_55_53, x25_55_55, x25_55_57, x25_55_59, x25_58, x25_59, x25_60, x25_61, bi_60, bs_60, ↓reduceIte, zkl_i, zkl_r, zkl_n, zkl_z, zkl_l, Option.toList_some, Option.toList_none, List.cons_append, List.nil_append, zcs_0, zcs_i, zcs_l, zcs_r, zle8, true_and, and_true, true_or, or_true, ixN_nI, nI_clamp]
  rw [cutv]
  by_cases h1 : I 59 1 = 0
  all_goals by_cases h2 : I 59 1 = 1
  all_goals simp only [h1, h2, if_true, if_false, i1_0]
theorem c_holds_59 {i n : Int32} : Rn (zG xl) 26 0 [.ref 59, .int i, .int n] [] I J Q = Q (some (.int (if i < 0 then 0 else if n < 0 then 0 else if I 59 2 - i < n then 0 else 1))) I J := by
  simp (disch := first | assumption | omega | (simp (disch := omega) only [zr_n, zr_s]; assumption)) only [x26_0, x26_1, x26_4, x26_5, x26_8, x26_9, x26_10_53, x26_10_55, x26_10_57, x26_10_59, x26_13, x26_14, x26_15, x26_18, x26_19, x26_22, x26_23, ↓reduceIte, zkl_i, zkl_r, zkl_n, zkl_z, zkl_l, Option.toList_some, Option.toList_none, List.cons_append, List.nil_append, zcs_0, zcs_i, zcs_l, zcs_r, zle8, true_and, and_true, true_or, or_true]
  simp only [ite_QQ Q, ite_sm, ite_vi, ite_vl, ite_self]
def mayE (a b c : Int32) : Int32 := if a < 0 then 0 else if a < 2 then (if b < 0 then 0 else if b < 6 then (if c < 0 then 0 else if c < 24 then 1 else 0) else 0) else 0
theorem c_mayBeEvent {a b c : Int32} : Rn (zG xl) 82 0 [.int a, .int b, .int c] [] I J Q = Q (some (.int (mayE a b c))) I J := by
  simp (disch := first | assumption | omega | (simp (disch := omega) only [zr_n, zr_s]; assumption)) only [x82_0, x82_1, x82_2, x82_5, x82_8, x82_9, x82_11, x82_14, x82_17, x82_18, x82_20, x82_23, x82_26, x82_27, x82_30, x82_31, ↓reduceIte, zkl_i, zkl_r, zkl_n, zkl_z, zkl_l, Option.toList_some, Option.toList_none, List.cons_append, List.nil_append, zcs_0, zcs_i, zcs_l, zcs_r, zle8, true_and, and_true, true_or, or_true, c_below, mayE]
  by_cases h1 : a < 0
  all_goals by_cases h2 : a < 2
  all_goals by_cases h3 : b < 0
  all_goals by_cases h4 : b < 6
  all_goals by_cases h5 : c < 0
  all_goals by_cases h6 : c < 24
  all_goals simp only [h1, h2, h3, h4, h5, h6, if_true, if_false, i1_0]
theorem c_found {a : Int32} : Rn (zG xl) 83 0 [.ref 0, .int a] [] I J Q = Q (some (.int (-10 - a))) (zr I 0 (upd (I 0) 11 a)) J := by
  simp (disch := first | assumption | omega | (simp (disch := omega) only [zr_n, zr_s]; assumption)) only [x83_0, x83_1, x83_2_0, x83_5, x83_7, x83_8, x83_9, ↓reduceIte, zkl_i, zkl_r, zkl_n, zkl_z, zkl_l, Option.toList_some, Option.toList_none, List.cons_append, List.nil_append, zcs_0, zcs_i, zcs_l, zcs_r, zle8, true_and, and_true, true_or, or_true]
end
