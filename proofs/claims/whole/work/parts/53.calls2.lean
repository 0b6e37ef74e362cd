/-! ===== whole calls: reader, shift, night, hush, count ===== -/
theorem ztb_out {d : Nat} {a : Int32} : ∀ (ts : List Nat) (c : Nat), c + ts.length < 2 ^ 31 → (∀ j, c ≤ j → j < c + ts.length → ¬ a = nI j) → ztb d a ts (nI c) = d := by
  intro ts
  induction ts with
  | nil => intro c _ _; rfl
  | cons t ts ih =>
    intro c hc h
    simp only [List.length_cons] at hc h
    rw [ztb, if_neg (h c (Nat.le_refl _) (by omega)), nI_1]
    exact ih (c + 1) (by omega) (fun j h1 h2 => h j (by omega) (by omega))
theorem IN_out {a : Int32} {n : Nat} (h : ¬ IN a n) : ∀ j, 0 ≤ j → j < 0 + n → ¬ a = nI j := fun j _ hj e => h ⟨j, by omega, e⟩
theorem k64_n1 : (-Int32.toInt64 1 : Int64) = (-1 : Int32).toInt64 := by decide
section
variable {xl : Nat} {J : zJ} {I : zI} {a b c : Int32}
theorem k_reader (h : Inv I) : KI xl 42 131 [.ref 0, .int a, .int b] [.ref 65, .int a, .int b] I J := by
  obtain ⟨e0, e3, e6, e9⟩ := RC_8 h.1
  obtain ⟨b0, b3, b6, b9⟩ := RC_l h.1
  have hf := fun (M : zI) (J : zJ) (hM : RM I M) => r_readsReaders (xl := xl) (J := J) h.1.1.2.1 hM.2.1
  by_cases ha : IN a (tn (pD I 28 3))
  · obtain ⟨k, hk, rfl⟩ := ha
    have hb1 := bm1 hk (by omega)
    have hc1 := bl1 hk (by omega)
    by_cases hb : IN b 2
    · obtain ⟨w, hw, rfl⟩ := hb
      refine mkI h (fun Q => q_reader h.1 hk hw) (Tr_refl I) (fun M J hM => ?_)
      obtain ⟨M', a1, a2, a3, a4, a5⟩ := hf M J hM
      obtain ⟨r1, r2⟩ := RM_reads (n := 9) (C := 73) (by omega) (by omega) a3 a5 hM
      obtain ⟨u1, u2⟩ := a4 k hk
      have hi : (if nI w < 0 then (0 : Int32) else if 1 < nI w then 0 else 1) = 1 := in1 (m := 1) (by omega) (by decide)
      refine ⟨M', fun Q => ?_, r1, r2⟩
      have hw2 : w = 0 ∨ w = 1 := by omega
      rcases hw2 with rfl | rfl
      · simp (disch := first | assumption | omega | (simp (disch := omega) only [zr_n, zr_s]; assumption)) only [x131_0, x131_1, x131_4i, x131_4r, x131_5, x131_6, x131_7, x131_10, x131_13, x131_14, x131_17, x131_20, x131_21_65, x131_24, x131_25, x131_26, x131_27, x131_28, x131_29, x131_30, x131_33, x131_35, gc_65, bi_73, bs_73, ↓reduceIte, zkl_i, zkl_r, zkl_n, zkl_z, zkl_l, Option.toList_some, Option.toList_none, List.cons_append, List.nil_append, zcs_0, zcs_i, zcs_l, zcs_r, zle8, true_and, and_true, true_or, or_true, a1, m_isReader, a2, e3, hb1, i1_0, if_false, m_isTwo, hi, nm_2, nI_add, Nat.add_zero, ixN_nI, nI_clamp, u1]
        rfl
      · simp (disch := first | assumption | omega | (simp (disch := omega) only [zr_n, zr_s]; assumption)) only [x131_0, x131_1, x131_4i, x131_4r, x131_5, x131_6, x131_7, x131_10, x131_13, x131_14, x131_17, x131_20, x131_21_65, x131_24, x131_25, x131_26, x131_27, x131_28, x131_29, x131_30, x131_33, x131_35, gc_65, bi_73, bs_73, ↓reduceIte, zkl_i, zkl_r, zkl_n, zkl_z, zkl_l, Option.toList_some, Option.toList_none, List.cons_append, List.nil_append, zcs_0, zcs_i, zcs_l, zcs_r, zle8, true_and, and_true, true_or, or_true, a1, m_isReader, a2, e3, hb1, i1_0, if_false, m_isTwo, hi, nm_2, nI_add, ixN_nI, nI_clamp, u2]
        rfl
    · have h0 : (if b < 0 then (0 : Int32) else if b < 2 then 1 else 0) = 0 := bl0 (n := 2) (by decide) hb
      refine mkI (v := -2) (I1 := I) (J1 := J) h (fun Q => by simp (disch := first | assumption | omega | (simp (disch := omega) only [zr_n, zr_s]; assumption)) only [x42_0, x42_1, x42_2_0, x42_5_8, x42_5_28, x42_8, x42_11, x42_14, x42_15, x42_16, x42_19, x42_22, x42_24, x42_25, x42_26, x42_29, x42_30_0, x42_33_8, x42_33_28, x42_36, x42_37, x42_38, x42_41, x42_42_0, x42_45_8, x42_45_28, x42_48, x42_49, x42_50, ↓reduceIte, zkl_i, zkl_r, zkl_n, zkl_z, zkl_l, Option.toList_some, Option.toList_none, List.cons_append, List.nil_append, zcs_0, zcs_i, zcs_l, zcs_r, zle8, true_and, and_true, true_or, or_true, c_below, e3, hc1, i1_0, if_false, h0, if_true]) (Tr_refl I) (fun M J hM => ?_)
      obtain ⟨M', a1, a2, a3, a4, a5⟩ := hf M J hM
      obtain ⟨r1, r2⟩ := RM_reads (n := 9) (C := 73) (by omega) (by omega) a3 a5 hM
      have hi : (if b < 0 then (0 : Int32) else if 1 < b then 0 else 1) = 0 := in0 (m := 1) (by decide) hb
      refine ⟨M', fun Q => ?_, r1, r2⟩
      simp (disch := first | assumption | omega | (simp (disch := omega) only [zr_n, zr_s]; assumption)) only [x131_0, x131_1, x131_4i, x131_4r, x131_5, x131_6, x131_7, x131_10, x131_13, x131_14, x131_17, x131_20, x131_21_65, x131_24, x131_25, x131_26, x131_27, x131_28, x131_29, x131_30, x131_33, x131_35, gc_65, ↓reduceIte, zkl_i, zkl_r, zkl_n, zkl_z, zkl_l, Option.toList_some, Option.toList_none, List.cons_append, List.nil_append, zcs_0, zcs_i, zcs_l, zcs_r, zle8, true_and, and_true, true_or, or_true, a1, m_isReader, a2, e3, hb1, i1_0, if_false, m_isTwo, hi, if_true]
  · have hc0 := bl0 (by omega) ha
    have hb0 := bm0 (by omega) ha
    refine mkI (v := -2) (I1 := I) (J1 := J) h (fun Q => by simp (disch := first | assumption | omega | (simp (disch := omega) only [zr_n, zr_s]; assumption)) only [x42_0, x42_1, x42_2_0, x42_5_8, x42_5_28, x42_8, x42_11, x42_14, x42_15, x42_16, x42_19, x42_22, x42_24, x42_25, x42_26, x42_29, x42_30_0, x42_33_8, x42_33_28, x42_36, x42_37, x42_38, x42_41, x42_42_0, x42_45_8, x42_45_28, x42_48, x42_49, x42_50, ↓reduceIte, zkl_i, zkl_r, zkl_n, zkl_z, zkl_l, Option.toList_some, Option.toList_none, List.cons_append, List.nil_append, zcs_0, zcs_i, zcs_l, zcs_r, zle8, true_and, and_true, true_or, or_true, c_below, e3, hc0, if_true]) (Tr_refl I) (fun M J hM => ?_)
    obtain ⟨M', a1, a2, a3, a4, a5⟩ := hf M J hM
    obtain ⟨r1, r2⟩ := RM_reads (n := 9) (C := 73) (by omega) (by omega) a3 a5 hM
    refine ⟨M', fun Q => ?_, r1, r2⟩
    simp (disch := first | assumption | omega | (simp (disch := omega) only [zr_n, zr_s]; assumption)) only [x131_0, x131_1, x131_4i, x131_4r, x131_5, x131_6, x131_7, x131_10, x131_13, x131_14, x131_17, x131_20, x131_21_65, x131_24, x131_25, x131_26, x131_27, x131_28, x131_29, x131_30, x131_33, x131_35, gc_65, ↓reduceIte, zkl_i, zkl_r, zkl_n, zkl_z, zkl_l, Option.toList_some, Option.toList_none, List.cons_append, List.nil_append, zcs_0, zcs_i, zcs_l, zcs_r, zle8, true_and, and_true, true_or, or_true, a1, m_isReader, a2, e3, hb0, if_true]
theorem k_shift (h : Inv I) : KI xl 43 133 [.ref 0, .int a, .int b] [.ref 65, .int a, .int b] I J := by
  obtain ⟨e0, e3, e6, e9⟩ := RC_8 h.1
  obtain ⟨b0, b3, b6, b9⟩ := RC_l h.1
  have hf := fun (M : zI) (J : zJ) (hM : RM I M) => r_readsShifts (xl := xl) (J := J) h.1.1.2.2.1 hM.2.2.1
  by_cases ha : IN a 16
  · obtain ⟨k, hk, rfl⟩ := ha
    have hb1 : (if nI k < 0 then (0 : Int32) else if 15 < nI k then 0 else 1) = 1 := in1 (m := 15) (by omega) (by decide)
    have hc1 : (if nI k < 0 then (0 : Int32) else if nI k < 16 then 1 else 0) = 1 := bl1 (n := 16) hk (by decide)
    by_cases hb : IN b 2
    · obtain ⟨w, hw, rfl⟩ := hb
      refine mkI h (fun Q => q_shift h.1 hk hw) (Tr_refl I) (fun M J hM => ?_)
      obtain ⟨M', a1, a2, a3, a4, a5⟩ := hf M J hM
      obtain ⟨r1, r2⟩ := RM_reads (n := 11) (C := 74) (by omega) (by omega) a3 a5 hM
      have hi : (if nI w < 0 then (0 : Int32) else if 1 < nI w then 0 else 1) = 1 := in1 (m := 1) (by omega) (by decide)
      have hs := fun Q => m_shiftByG (xl := xl) (J := J) (Q := Q) (M := M') (k := k) (w := w) (f := I 13) (g := I 14) (n := tn (pD I 28 6)) b6 hk hw (a2.trans e6) a4
      refine ⟨M', fun Q => ?_, r1, r2⟩
      simp (disch := first | assumption | omega | (simp (disch := omega) only [zr_n, zr_s]; assumption)) only [x133_0, x133_1, x133_4i, x133_4r, x133_5, x133_6, x133_7, x133_8, x133_11, x133_14, x133_17, x133_18, x133_21, x133_24, x133_25, x133_26, x133_27, x133_30, x133_33, x133_35, gc_65, ↓reduceIte, zkl_i, zkl_r, zkl_n, zkl_z, zkl_l, Option.toList_some, Option.toList_none, List.cons_append, List.nil_append, zcs_0, zcs_i, zcs_l, zcs_r, zle8, true_and, and_true, true_or, or_true, a1, m_in, k64_0, k64_15, i64_lt, hb1, i1_0, if_false, m_isTwo, hi, hs]
      rfl
    · have h0 : (if b < 0 then (0 : Int32) else if b < 2 then 1 else 0) = 0 := bl0 (n := 2) (by decide) hb
      refine mkI (v := -2) (I1 := I) (J1 := J) h (fun Q => by simp (disch := first | assumption | omega | (simp (disch := omega) only [zr_n, zr_s]; assumption)) only [x43_0, x43_1, x43_3, x43_6, x43_9, x43_10, x43_11, x43_14, x43_17, x43_19, x43_20, x43_21, x43_22_0, x43_25_8, x43_25_28, x43_28, x43_31, x43_32, x43_33, x43_34, x43_37, x43_38_0, x43_41_8, x43_41_28, x43_44, x43_45, x43_46, x43_49, x43_50_0, x43_53_8, x43_53_28, x43_56, x43_57, x43_58, ↓reduceIte, zkl_i, zkl_r, zkl_n, zkl_z, zkl_l, Option.toList_some, Option.toList_none, List.cons_append, List.nil_append, zcs_0, zcs_i, zcs_l, zcs_r, zle8, true_and, and_true, true_or, or_true, c_below, hc1, i1_0, if_false, h0, if_true]) (Tr_refl I) (fun M J hM => ?_)
      obtain ⟨M', a1, a2, a3, a4, a5⟩ := hf M J hM
      obtain ⟨r1, r2⟩ := RM_reads (n := 11) (C := 74) (by omega) (by omega) a3 a5 hM
      have hi : (if b < 0 then (0 : Int32) else if 1 < b then 0 else 1) = 0 := in0 (m := 1) (by decide) hb
      refine ⟨M', fun Q => ?_, r1, r2⟩
      simp (disch := first | assumption | omega | (simp (disch := omega) only [zr_n, zr_s]; assumption)) only [x133_0, x133_1, x133_4i, x133_4r, x133_5, x133_6, x133_7, x133_8, x133_11, x133_14, x133_17, x133_18, x133_21, x133_24, x133_25, x133_26, x133_27, x133_30, x133_33, x133_35, gc_65, ↓reduceIte, zkl_i, zkl_r, zkl_n, zkl_z, zkl_l, Option.toList_some, Option.toList_none, List.cons_append, List.nil_append, zcs_0, zcs_i, zcs_l, zcs_r, zle8, true_and, and_true, true_or, or_true, a1, m_in, k64_0, k64_15, i64_lt, hb1, i1_0, if_false, m_isTwo, hi, if_true]
  · have hc0 : (if a < 0 then (0 : Int32) else if a < 16 then 1 else 0) = 0 := bl0 (n := 16) (by decide) ha
    have hb0 : (if a < 0 then (0 : Int32) else if 15 < a then 0 else 1) = 0 := in0 (m := 15) (by decide) ha
    refine mkI (v := -2) (I1 := I) (J1 := J) h (fun Q => by simp (disch := first | assumption | omega | (simp (disch := omega) only [zr_n, zr_s]; assumption)) only [x43_0, x43_1, x43_3, x43_6, x43_9, x43_10, x43_11, x43_14, x43_17, x43_19, x43_20, x43_21, x43_22_0, x43_25_8, x43_25_28, x43_28, x43_31, x43_32, x43_33, x43_34, x43_37, x43_38_0, x43_41_8, x43_41_28, x43_44, x43_45, x43_46, x43_49, x43_50_0, x43_53_8, x43_53_28, x43_56, x43_57, x43_58, ↓reduceIte, zkl_i, zkl_r, zkl_n, zkl_z, zkl_l, Option.toList_some, Option.toList_none, List.cons_append, List.nil_append, zcs_0, zcs_i, zcs_l, zcs_r, zle8, true_and, and_true, true_or, or_true, c_below, hc0, if_true]) (Tr_refl I) (fun M J hM => ?_)
    obtain ⟨M', a1, a2, a3, a4, a5⟩ := hf M J hM
    obtain ⟨r1, r2⟩ := RM_reads (n := 11) (C := 74) (by omega) (by omega) a3 a5 hM
    refine ⟨M', fun Q => ?_, r1, r2⟩
    simp (disch := first | assumption | omega | (simp (disch := omega) only [zr_n, zr_s]; assumption)) only [x133_0, x133_1, x133_4i, x133_4r, x133_5, x133_6, x133_7, x133_8, x133_11, x133_14, x133_17, x133_18, x133_21, x133_24, x133_25, x133_26, x133_27, x133_30, x133_33, x133_35, gc_65, ↓reduceIte, zkl_i, zkl_r, zkl_n, zkl_z, zkl_l, Option.toList_some, Option.toList_none, List.cons_append, List.nil_append, zcs_0, zcs_i, zcs_l, zcs_r, zle8, true_and, and_true, true_or, or_true, a1, m_in, k64_0, k64_15, i64_lt, hb0, if_true]
theorem k_night (h : Inv I) : KI xl 49 145 [.ref 0, .int a, .int b] [.ref 65, .int a, .int b] I J := by
  obtain ⟨e0, e3, e6, e9⟩ := RC_8 h.1
  obtain ⟨b0, b3, b6, b9⟩ := RC_l h.1
  by_cases ha : IN a (tn (pD I 28 3))
  · obtain ⟨k, hk, rfl⟩ := ha
    have hb1 := bm1 hk (by omega)
    have hc1 := bl1 hk (by omega)
    by_cases hb : IN b 4
    · obtain ⟨w, hw, rfl⟩ := hb
      refine mkI h (fun Q => q_night h.1 hk hw) (Tr_refl I) (fun M J hM => ?_)
      obtain ⟨M1, f1, f2, f3, f4⟩ := rq_find (xl := xl) (J := J) h.1 hM
      obtain ⟨e7, e9m, e11, e14⟩ := MN_l f2
      have hi : (if nI w < 0 then (0 : Int32) else if 3 < nI w then 0 else 1) = 1 := in1 (m := 3) (by omega) (by decide)
      have hv := fun Q => m_nightOf (xl := xl) (J := J) (Q := Q) (q := k) (w := nI w) f2 (by omega) (by
        have hw2 : w = 0 ∨ w = 1 ∨ w = 2 ∨ w = 3 := by omega
        rcases hw2 with rfl | rfl | rfl | rfl
        · exact Or.inl rfl
        · exact Or.inr (Or.inl rfl)
        · exact Or.inr (Or.inr (Or.inl rfl))
        · exact Or.inr (Or.inr (Or.inr rfl)))
      refine ⟨M1, fun Q => ?_, f3, f4⟩
      simp (disch := first | assumption | omega | (simp (disch := omega) only [zr_n, zr_s]; assumption)) only [x145_0, x145_1, x145_4, x145_5, x145_6, x145_9, x145_12, x145_13, x145_14, x145_15, x145_18, x145_21, x145_24, x145_25, x145_26, x145_27, x145_30, x145_33, x145_35, gc_65, ↓reduceIte, zkl_i, zkl_r, zkl_n, zkl_z, zkl_l, Option.toList_some, Option.toList_none, List.cons_append, List.nil_append, zcs_0, zcs_i, zcs_l, zcs_r, zle8, true_and, and_true, true_or, or_true, f1, m_isReader, e9m, hb1, i1_0, if_false, m_in, k64_0, k64_3, i64_lt, hi, hv]
    · have h0 : ztb 88 b [48, 58, 68, 78] 0 = 88 := ztb_out _ 0 (by decide) (IN_out hb)
      refine mkI (v := -2) (I1 := I) (J1 := J) h (fun Q => by simp (disch := first | assumption | omega | (simp (disch := omega) only [zr_n, zr_s]; assumption)) only [x49_0, x49_1, x49_2_0, x49_5_8, x49_5_28, x49_8, x49_11, x49_14, x49_16, x49_17, x49_18, x49_48, x49_49_0, x49_52_18, x49_52_38, x49_55, x49_56, x49_57, x49_58, x49_59_0, x49_62_18, x49_62_38, x49_65, x49_66, x49_67, x49_68, x49_69_0, x49_72_18, x49_72_38, x49_75, x49_76, x49_77, x49_78, x49_79_0, x49_82_18, x49_82_38, x49_85, x49_86, x49_87, x49_88, x49_90, ↓reduceIte, zkl_i, zkl_r, zkl_n, zkl_z, zkl_l, Option.toList_some, Option.toList_none, List.cons_append, List.nil_append, zcs_0, zcs_i, zcs_l, zcs_r, zle8, true_and, and_true, true_or, or_true, c_below, e3, hc1, i1_0, if_false, h0]) (Tr_refl I) (fun M J hM => ?_)
      obtain ⟨M1, f1, f2, f3, f4⟩ := rq_find (xl := xl) (J := J) h.1 hM
      obtain ⟨e7, e9m, e11, e14⟩ := MN_l f2
      have hi : (if b < 0 then (0 : Int32) else if 3 < b then 0 else 1) = 0 := in0 (m := 3) (by decide) hb
      refine ⟨M1, fun Q => ?_, f3, f4⟩
      simp (disch := first | assumption | omega | (simp (disch := omega) only [zr_n, zr_s]; assumption)) only [x145_0, x145_1, x145_4, x145_5, x145_6, x145_9, x145_12, x145_13, x145_14, x145_15, x145_18, x145_21, x145_24, x145_25, x145_26, x145_27, x145_30, x145_33, x145_35, gc_65, ↓reduceIte, zkl_i, zkl_r, zkl_n, zkl_z, zkl_l, Option.toList_some, Option.toList_none, List.cons_append, List.nil_append, zcs_0, zcs_i, zcs_l, zcs_r, zle8, true_and, and_true, true_or, or_true, f1, m_isReader, e9m, hb1, i1_0, if_false, m_in, k64_0, k64_3, i64_lt, hi, if_true]
  · have hc0 := bl0 (by omega) ha
    have hb0 := bm0 (by omega) ha
    refine mkI (v := -2) (I1 := I) (J1 := J) h (fun Q => by simp (disch := first | assumption | omega | (simp (disch := omega) only [zr_n, zr_s]; assumption)) only [x49_0, x49_1, x49_2_0, x49_5_8, x49_5_28, x49_8, x49_11, x49_14, x49_16, x49_17, x49_18, x49_48, x49_49_0, x49_52_18, x49_52_38, x49_55, x49_56, x49_57, x49_58, x49_59_0, x49_62_18, x49_62_38, x49_65, x49_66, x49_67, x49_68, x49_69_0, x49_72_18, x49_72_38, x49_75, x49_76, x49_77, x49_78, x49_79_0, x49_82_18, x49_82_38, x49_85, x49_86, x49_87, x49_88, x49_90, ↓reduceIte, zkl_i, zkl_r, zkl_n, zkl_z, zkl_l, Option.toList_some, Option.toList_none, List.cons_append, List.nil_append, zcs_0, zcs_i, zcs_l, zcs_r, zle8, true_and, and_true, true_or, or_true, c_below, e3, hc0, if_true]) (Tr_refl I) (fun M J hM => ?_)
    obtain ⟨M1, f1, f2, f3, f4⟩ := rq_find (xl := xl) (J := J) h.1 hM
    obtain ⟨e7, e9m, e11, e14⟩ := MN_l f2
    refine ⟨M1, fun Q => ?_, f3, f4⟩
    simp (disch := first | assumption | omega | (simp (disch := omega) only [zr_n, zr_s]; assumption)) only [x145_0, x145_1, x145_4, x145_5, x145_6, x145_9, x145_12, x145_13, x145_14, x145_15, x145_18, x145_21, x145_24, x145_25, x145_26, x145_27, x145_30, x145_33, x145_35, gc_65, ↓reduceIte, zkl_i, zkl_r, zkl_n, zkl_z, zkl_l, Option.toList_some, Option.toList_none, List.cons_append, List.nil_append, zcs_0, zcs_i, zcs_l, zcs_r, zle8, true_and, and_true, true_or, or_true, f1, m_isReader, e9m, hb0, if_true]
theorem k_hush (h : Inv I) : KI xl 58 165 [.ref 0, .int a] [.ref 65, .int a] I J := by
  have h13 := h.1.1.2.2.2.2.1
  by_cases ha : a < -1 ∨ 1 < a
  · have hi : (if a < -1 then (0 : Int32) else if 1 < a then 0 else 1) = 0 := by
      by_cases z : a < -1
      · rw [if_pos z]
      · rcases ha with z2 | z2
        · exact absurd z2 z
        · rw [if_neg z, if_pos z2]
    refine mkI (v := -2) (I1 := I) (J1 := J) h (fun Q => ?_) (Tr_refl I) (fun M J hM => ?_)
    · by_cases z : a < -1
      · simp (disch := first | assumption | omega | (simp (disch := omega) only [zr_n, zr_s]; assumption)) only [x58_0, x58_1, x58_2, x58_5, x58_6, x58_7, x58_10, x58_12, x58_13, x58_14, x58_17, x58_18_0, x58_21, x58_22, x58_23, x58_24, x58_25, ↓reduceIte, zkl_i, zkl_r, zkl_n, zkl_z, zkl_l, Option.toList_some, Option.toList_none, List.cons_append, List.nil_append, zcs_0, zcs_i, zcs_l, zcs_r, zle8, true_and, and_true, true_or, or_true, z, if_true]
      · rcases ha with z2 | z2
        · exact absurd z2 z
        · simp (disch := first | assumption | omega | (simp (disch := omega) only [zr_n, zr_s]; assumption)) only [x58_0, x58_1, x58_2, x58_5, x58_6, x58_7, x58_10, x58_12, x58_13, x58_14, x58_17, x58_18_0, x58_21, x58_22, x58_23, x58_24, x58_25, ↓reduceIte, zkl_i, zkl_r, zkl_n, zkl_z, zkl_l, Option.toList_some, Option.toList_none, List.cons_append, List.nil_append, zcs_0, zcs_i, zcs_l, zcs_r, zle8, true_and, and_true, true_or, or_true, z, z2, if_true, if_false]
    · obtain ⟨M1, f1, f2, f3, f4⟩ := rq_find (xl := xl) (J := J) h.1 hM
      refine ⟨M1, fun Q => ?_, f3, f4⟩
      simp (disch := first | assumption | omega | (simp (disch := omega) only [zr_n, zr_s]; assumption)) only [x165_0, x165_1, x165_4, x165_5, x165_6, x165_9, x165_10, x165_13, x165_16, x165_17, x165_18, x165_21, x165_24, x165_26, gc_65, ↓reduceIte, zkl_i, zkl_r, zkl_n, zkl_z, zkl_l, Option.toList_some, Option.toList_none, List.cons_append, List.nil_append, zcs_0, zcs_i, zcs_l, zcs_r, zle8, true_and, and_true, true_or, or_true, f1, m_in, k64_1, k64_n1, i64_lt, hi, if_true]
  · have hi : a = -1 ∨ a = 0 ∨ a = 1 := by
      have z1 : ¬ a < -1 := fun z => ha (Or.inl z)
      have z2 : ¬ 1 < a := fun z => ha (Or.inr z)
      rw [Int32.lt_iff_toInt_lt] at z1 z2
      have t1 : (-1 : Int32).toInt = -1 := by decide
      have t2 : (1 : Int32).toInt = 1 := by decide
      have t3 : (0 : Int32).toInt = 0 := by decide
      rw [t1] at z1
      rw [t2] at z2
      have hc : a.toInt = -1 ∨ a.toInt = 0 ∨ a.toInt = 1 := by omega
      rcases hc with hc | hc | hc
      · exact Or.inl (Int32.toInt_inj.mp (hc.trans t1.symm))
      · exact Or.inr (Or.inl (Int32.toInt_inj.mp (hc.trans t3.symm)))
      · exact Or.inr (Or.inr (Int32.toInt_inj.mp (hc.trans t2.symm)))
    have hi2 : (if a < -1 then (0 : Int32) else if 1 < a then 0 else 1) = 1 := by
      rw [if_neg (fun z => ha (Or.inl z)), if_neg (fun z => ha (Or.inr z))]
    obtain ⟨X, x1, x2⟩ := q_hush (xl := xl) (J := J) h.1 hi
    refine mkI h x1 x2 (fun M J hM => ?_)
    obtain ⟨M1, f1, f2, f3, f4⟩ := rq_find (xl := xl) (J := J) h.1 hM
    obtain ⟨M2, g1, g2, g3⟩ := m_hushBy (xl := xl) (J := J) (i := a) f2.1 h13
    refine ⟨M2, fun Q => ?_, RM_Fr g3 g2 h13 f3, Fr_trans f4 g3⟩
    simp (disch := first | assumption | omega | (simp (disch := omega) only [zr_n, zr_s]; assumption)) only [x165_0, x165_1, x165_4, x165_5, x165_6, x165_9, x165_10, x165_13, x165_16, x165_17, x165_18, x165_21, x165_24, x165_26, gc_65, ↓reduceIte, zkl_i, zkl_r, zkl_n, zkl_z, zkl_l, Option.toList_some, Option.toList_none, List.cons_append, List.nil_append, zcs_0, zcs_i, zcs_l, zcs_r, zle8, true_and, and_true, true_or, or_true, f1, m_in, k64_1, k64_n1, i64_lt, hi2, i1_0, if_false, g1]
theorem rq_count {M : zI} {w : Nat} (hC : RC I) (hM : RM I M) (hw : w < 9) : ∃ M' : zI, (∀ Q : zQ, Rn (zG xl) 184 0 [.ref 65, .int (nI w)] [] M J Q = Q (some (.int (cnD I w))) M' J) ∧ MN (pD I) M' ∧ RM I M' ∧ Fr M M' := by
  obtain ⟨e0, e3, e6, e9⟩ := RC_8 hC
  obtain ⟨M1, f1, f2, f3, f4⟩ := rq_find (xl := xl) (J := J) hC hM
  obtain ⟨e7, e9m, e11, e14⟩ := MN_l f2
  have t : ztb 95 (nI 0) [56, 61, 66, 71, 71, 71, 80, 85, 90] 0 = 56 ∧ ztb 95 (nI 1) [56, 61, 66, 71, 71, 71, 80, 85, 90] 0 = 61 ∧ ztb 95 (nI 2) [56, 61, 66, 71, 71, 71, 80, 85, 90] 0 = 66 ∧ ztb 95 (nI 3) [56, 61, 66, 71, 71, 71, 80, 85, 90] 0 = 71 ∧ ztb 95 (nI 4) [56, 61, 66, 71, 71, 71, 80, 85, 90] 0 = 71 ∧ ztb 95 (nI 5) [56, 61, 66, 71, 71, 71, 80, 85, 90] 0 = 71 ∧ ztb 95 (nI 6) [56, 61, 66, 71, 71, 71, 80, 85, 90] 0 = 80 ∧ ztb 95 (nI 7) [56, 61, 66, 71, 71, 71, 80, 85, 90] 0 = 85 ∧ ztb 95 (nI 8) [56, 61, 66, 71, 71, 71, 80, 85, 90] 0 = 90 := by decide
  have s3 : nI 3 - 3 = 0 ∧ nI 4 - 3 = 1 ∧ nI 5 - 3 = 2 := by decide
  refine ⟨M1, fun Q => ?_, f2, f3, f4⟩
  have hw : w = 0 ∨ w = 1 ∨ w = 2 ∨ w = 3 ∨ w = 4 ∨ w = 5 ∨ w = 6 ∨ w = 7 ∨ w = 8 := by omega
  obtain ⟨g1, g2, g3, g4, g5, g6, g7⟩ := f3
  rcases hw with rfl | rfl | rfl | rfl | rfl | rfl | rfl | rfl | rfl
  · simp (disch := first | assumption | omega | (simp (disch := omega) only [zr_n, zr_s]; assumption)) only [x184_0, x184_1, x184_4, x184_5, x184_56, x184_57_65, x184_60, x184_61, x184_62_65, x184_65, x184_66, x184_67_65, x184_70, x184_71, x184_72_65, x184_75, x184_76, x184_77, x184_78, x184_79, x184_80, x184_81_65, x184_84, x184_85, x184_86_65, x184_89, x184_90, x184_91_65, x184_94, x184_95, x184_97, gc_65, ↓reduceIte, zkl_i, zkl_r, zkl_n, zkl_z, zkl_l, Option.toList_some, Option.toList_none, List.cons_append, List.nil_append, zcs_0, zcs_i, zcs_l, zcs_r, zle8, true_and, and_true, true_or, or_true, f1, t, e7, ← e0]
    rfl
  · simp (disch := first | assumption | omega | (simp (disch := omega) only [zr_n, zr_s]; assumption)) only [x184_0, x184_1, x184_4, x184_5, x184_56, x184_57_65, x184_60, x184_61, x184_62_65, x184_65, x184_66, x184_67_65, x184_70, x184_71, x184_72_65, x184_75, x184_76, x184_77, x184_78, x184_79, x184_80, x184_81_65, x184_84, x184_85, x184_86_65, x184_89, x184_90, x184_91_65, x184_94, x184_95, x184_97, gc_65, ↓reduceIte, zkl_i, zkl_r, zkl_n, zkl_z, zkl_l, Option.toList_some, Option.toList_none, List.cons_append, List.nil_append, zcs_0, zcs_i, zcs_l, zcs_r, zle8, true_and, and_true, true_or, or_true, f1, t, e9m, ← e3]
    rfl
  · simp (disch := first | assumption | omega | (simp (disch := omega) only [zr_n, zr_s]; assumption)) only [x184_0, x184_1, x184_4, x184_5, x184_56, x184_57_65, x184_60, x184_61, x184_62_65, x184_65, x184_66, x184_67_65, x184_70, x184_71, x184_72_65, x184_75, x184_76, x184_77, x184_78, x184_79, x184_80, x184_81_65, x184_84, x184_85, x184_86_65, x184_89, x184_90, x184_91_65, x184_94, x184_95, x184_97, gc_65, ↓reduceIte, zkl_i, zkl_r, zkl_n, zkl_z, zkl_l, Option.toList_some, Option.toList_none, List.cons_append, List.nil_append, zcs_0, zcs_i, zcs_l, zcs_r, zle8, true_and, and_true, true_or, or_true, f1, t, e11, ← e6]
    rfl
  · simp (disch := first | assumption | omega | (simp (disch := omega) only [zr_n, zr_s]; assumption)) only [x184_0, x184_1, x184_4, x184_5, x184_56, x184_57_65, x184_60, x184_61, x184_62_65, x184_65, x184_66, x184_67_65, x184_70, x184_71, x184_72_65, x184_75, x184_76, x184_77, x184_78, x184_79, x184_80, x184_81_65, x184_84, x184_85, x184_86_65, x184_89, x184_90, x184_91_65, x184_94, x184_95, x184_97, gc_65, bi_71, bs_71, ↓reduceIte, zkl_i, zkl_r, zkl_n, zkl_z, zkl_l, Option.toList_some, Option.toList_none, List.cons_append, List.nil_append, zcs_0, zcs_i, zcs_l, zcs_r, zle8, true_and, and_true, true_or, or_true, f1, t, s3, ix3, t0, t12, g1.1]
    rfl
  · simp (disch := first | assumption | omega | (simp (disch := omega) only [zr_n, zr_s]; assumption)) only [x184_0, x184_1, x184_4, x184_5, x184_56, x184_57_65, x184_60, x184_61, x184_62_65, x184_65, x184_66, x184_67_65, x184_70, x184_71, x184_72_65, x184_75, x184_76, x184_77, x184_78, x184_79, x184_80, x184_81_65, x184_84, x184_85, x184_86_65, x184_89, x184_90, x184_91_65, x184_94, x184_95, x184_97, gc_65, bi_71, bs_71, ↓reduceIte, zkl_i, zkl_r, zkl_n, zkl_z, zkl_l, Option.toList_some, Option.toList_none, List.cons_append, List.nil_append, zcs_0, zcs_i, zcs_l, zcs_r, zle8, true_and, and_true, true_or, or_true, f1, t, s3, ix3, t0, t12, g2.1]
    rfl
  · simp (disch := first | assumption | omega | (simp (disch := omega) only [zr_n, zr_s]; assumption)) only [x184_0, x184_1, x184_4, x184_5, x184_56, x184_57_65, x184_60, x184_61, x184_62_65, x184_65, x184_66, x184_67_65, x184_70, x184_71, x184_72_65, x184_75, x184_76, x184_77, x184_78, x184_79, x184_80, x184_81_65, x184_84, x184_85, x184_86_65, x184_89, x184_90, x184_91_65, x184_94, x184_95, x184_97, gc_65, bi_71, bs_71, ↓reduceIte, zkl_i, zkl_r, zkl_n, zkl_z, zkl_l, Option.toList_some, Option.toList_none, List.cons_append, List.nil_append, zcs_0, zcs_i, zcs_l, zcs_r, zle8, true_and, and_true, true_or, or_true, f1, t, s3, ix3, t0, t12, g3.1]
    rfl
  · simp (disch := first | assumption | omega | (simp (disch := omega) only [zr_n, zr_s]; assumption)) only [x184_0, x184_1, x184_4, x184_5, x184_56, x184_57_65, x184_60, x184_61, x184_62_65, x184_65, x184_66, x184_67_65, x184_70, x184_71, x184_72_65, x184_75, x184_76, x184_77, x184_78, x184_79, x184_80, x184_81_65, x184_84, x184_85, x184_86_65, x184_89, x184_90, x184_91_65, x184_94, x184_95, x184_97, gc_65, ↓reduceIte, zkl_i, zkl_r, zkl_n, zkl_z, zkl_l, Option.toList_some, Option.toList_none, List.cons_append, List.nil_append, zcs_0, zcs_i, zcs_l, zcs_r, zle8, true_and, and_true, true_or, or_true, f1, t, e14, ← e9]
    rfl
  · simp (disch := first | assumption | omega | (simp (disch := omega) only [zr_n, zr_s]; assumption)) only [x184_0, x184_1, x184_4, x184_5, x184_56, x184_57_65, x184_60, x184_61, x184_62_65, x184_65, x184_66, x184_67_65, x184_70, x184_71, x184_72_65, x184_75, x184_76, x184_77, x184_78, x184_79, x184_80, x184_81_65, x184_84, x184_85, x184_86_65, x184_89, x184_90, x184_91_65, x184_94, x184_95, x184_97, gc_65, ↓reduceIte, zkl_i, zkl_r, zkl_n, zkl_z, zkl_l, Option.toList_some, Option.toList_none, List.cons_append, List.nil_append, zcs_0, zcs_i, zcs_l, zcs_r, zle8, true_and, and_true, true_or, or_true, f1, t, g5.1]
    rfl
  · simp (disch := first | assumption | omega | (simp (disch := omega) only [zr_n, zr_s]; assumption)) only [x184_0, x184_1, x184_4, x184_5, x184_56, x184_57_65, x184_60, x184_61, x184_62_65, x184_65, x184_66, x184_67_65, x184_70, x184_71, x184_72_65, x184_75, x184_76, x184_77, x184_78, x184_79, x184_80, x184_81_65, x184_84, x184_85, x184_86_65, x184_89, x184_90, x184_91_65, x184_94, x184_95, x184_97, gc_65, ↓reduceIte, zkl_i, zkl_r, zkl_n, zkl_z, zkl_l, Option.toList_some, Option.toList_none, List.cons_append, List.nil_append, zcs_0, zcs_i, zcs_l, zcs_r, zle8, true_and, and_true, true_or, or_true, f1, t, g7]
    rfl
theorem k_count (h : Inv I) : KI xl 73 184 [.ref 0, .int a] [.ref 65, .int a] I J := by
  by_cases ha : IN a 9
  · obtain ⟨w, hw, rfl⟩ := ha
    refine mkI h (fun Q => q_count hw) (Tr_refl I) (fun M J hM => ?_)
    obtain ⟨M1, f1, f2, f3, f4⟩ := rq_count (xl := xl) (J := J) h.1 hM hw
    exact ⟨M1, f1, f3, f4⟩
  · have h0 : ztb 109 a [52, 60, 68, 76, 76, 76, 88, 96, 104] 0 = 109 := ztb_out _ 0 (by decide) (IN_out ha)
    have h1 : ztb 95 a [56, 61, 66, 71, 71, 71, 80, 85, 90] 0 = 95 := ztb_out _ 0 (by decide) (IN_out ha)
    refine mkI (v := -2) (I1 := I) (J1 := J) h (fun Q => by simp (disch := first | assumption | omega | (simp (disch := omega) only [zr_n, zr_s]; assumption)) only [x73_0, x73_1, x73_52, x73_53_0, x73_56_8, x73_56_28, x73_59, x73_60, x73_61_0, x73_64_8, x73_64_28, x73_67, x73_68, x73_69_0, x73_72_8, x73_72_28, x73_75, x73_76, x73_77_0, x73_80, x73_81, x73_82, x73_83, x73_84_2, x73_84_4, x73_84_6, x73_87, x73_88, x73_89_0, x73_92_8, x73_92_28, x73_95, x73_96, x73_97_0, x73_100_48, x73_103, x73_104, x73_105_0, x73_108, x73_109, x73_111, ↓reduceIte, zkl_i, zkl_r, zkl_n, zkl_z, zkl_l, Option.toList_some, Option.toList_none, List.cons_append, List.nil_append, zcs_0, zcs_i, zcs_l, zcs_r, zle8, true_and, and_true, true_or, or_true, h0]) (Tr_refl I) (fun M J hM => ?_)
    obtain ⟨M1, f1, f2, f3, f4⟩ := rq_find (xl := xl) (J := J) h.1 hM
    refine ⟨M1, fun Q => ?_, f3, f4⟩
    simp (disch := first | assumption | omega | (simp (disch := omega) only [zr_n, zr_s]; assumption)) only [x184_0, x184_1, x184_4, x184_5, x184_56, x184_57_65, x184_60, x184_61, x184_62_65, x184_65, x184_66, x184_67_65, x184_70, x184_71, x184_72_65, x184_75, x184_76, x184_77, x184_78, x184_79, x184_80, x184_81_65, x184_84, x184_85, x184_86_65, x184_89, x184_90, x184_91_65, x184_94, x184_95, x184_97, gc_65, ↓reduceIte, zkl_i, zkl_r, zkl_n, zkl_z, zkl_l, Option.toList_some, Option.toList_none, List.cons_append, List.nil_append, zcs_0, zcs_i, zcs_l, zcs_r, zle8, true_and, and_true, true_or, or_true, f1, h1]
end
