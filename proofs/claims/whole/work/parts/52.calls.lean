/-! ===== whole calls: those that ask ===== -/
theorem m_no {xl : Nat} {J : zJ} {I : zI} {Q : zQ} {a : Int32} : Rn (zG xl) 97 0 [.int a] [] I J Q = Q (some (.long (-9223372036854775808 - a.toInt64))) I J := by
  simp (disch := first | assumption | omega | (simp (disch := omega) only [zr_n, zr_s]; assumption)) only [x97_0, x97_3, x97_4, x97_5, x97_6, ↓reduceIte, zkl_i, zkl_r, zkl_n, zkl_z, zkl_l, Option.toList_some, Option.toList_none, List.cons_append, List.nil_append, zcs_0, zcs_i, zcs_l, zcs_r, zle8, true_and, and_true, true_or, or_true]

theorem w01 {w : Nat} (h : w < 2) : nI w = 0 ∨ nI w = 1 := by
  have hw : w = 0 ∨ w = 1 := by omega
  rcases hw with rfl | rfl
  · exact Or.inl rfl
  · exact Or.inr rfl
theorem no2 : (-9223372036854775808 - (-2 : Int32).toInt64 : Int64) = -9223372036854775806 := by decide
section
variable {xl : Nat} {J : zJ} {I : zI} {a b c : Int32}
theorem k_margin (h : Inv I) : KI xl 48 143 [.ref 0, .int a, .int b] [.ref 65, .int a, .int b] I J := by
  obtain ⟨e0, e3, e6, e9⟩ := RC_8 h.1
  obtain ⟨b0, b3, b6, b9⟩ := RC_l h.1
  have h13 := h.1.1.2.2.2.2.1
  by_cases ha0 : IN a (tn (pD I 28 0))
  · obtain ⟨k, hk0, rfl⟩ := ha0
    have hc0 := bl1 hk0 (show tn (pD I 28 0) < 2 ^ 31 by omega)
    have hr0 := bm1 hk0 (show tn (pD I 28 0) < 1000 by omega)
    by_cases ha1 : IN b (3)
    · obtain ⟨w, hk1, rfl⟩ := ha1
      have hc1 : (if nI w < 0 then (0 : Int32) else if nI w < 3 then 1 else 0) = 1 := bl1 (n := 3) hk1 (by decide)
      have hr1 : (if nI w < 0 then (0 : Int32) else if 2 < nI w then 0 else 1) = 1 := in1 (m := 2) (by omega) (by decide)
      refine mkI h (fun Q => q_margin h.1 hk0 hk1) (Tr_refl I) (fun M J hM => ?_)
      obtain ⟨M1, f1, f2, f3, f4⟩ := rq_find (xl := xl) (J := J) h.1 hM
      obtain ⟨e7, e9m, e11, e14⟩ := MN_l f2
      have hv := fun Q => m_marginOf (xl := xl) (J := J) (Q := Q) (q := k) (w := nI w) f2 (by omega)
      refine ⟨M1, fun Q => ?_, f3, f4⟩
      simp (disch := first | assumption | omega | (simp (disch := omega) only [zr_n, zr_s]; assumption)) only [x143_0, x143_1, x143_4, x143_5, x143_6, x143_9, x143_12, x143_13, x143_14, x143_15, x143_18, x143_21, x143_24, x143_25, x143_26, x143_27, x143_30, x143_33, x143_35, gc_65, ↓reduceIte, zkl_i, zkl_r, zkl_n, zkl_z, zkl_l, Option.toList_some, Option.toList_none, List.cons_append, List.nil_append, zcs_0, zcs_i, zcs_l, zcs_r, zle8, true_and, and_true, true_or, or_true, f1, no2, m_isLine, m_isReader, m_isTwo, m_isMinute, m_in, m_no, k64_0, k64_1, k64_2, k64_3, k64_15, k64_16, k64_23, i64_lt, e7, e9m, e11, i1_0, if_true, if_false, hr0, hr1, hv]
    · have hc1 : (if b < 0 then (0 : Int32) else if b < 3 then 1 else 0) = 0 := bl0 (n := 3) (by decide) ha1
      have hr1 : (if b < 0 then (0 : Int32) else if 2 < b then 0 else 1) = 0 := in0 (m := 2) (by decide) ha1
      refine mkI (v := (-2)) (I1 := I) (J1 := J) h (fun Q => by simp (disch := first | assumption | omega | (simp (disch := omega) only [zr_n, zr_s]; assumption)) only [x48_0, x48_1, x48_2_0, x48_5_8, x48_5_28, x48_8, x48_11, x48_14, x48_15, x48_16, x48_19, x48_22, x48_24, x48_25, x48_26, x48_29, x48_30_0, x48_33_18, x48_33_38, x48_36, x48_37, x48_38, x48_39, x48_40, x48_41, x48_44, x48_45_0, x48_48_18, x48_48_38, x48_51, x48_52, x48_53, x48_56, x48_57_0, x48_60_18, x48_60_38, x48_63, x48_64, x48_65, ↓reduceIte, zkl_i, zkl_r, zkl_n, zkl_z, zkl_l, Option.toList_some, Option.toList_none, List.cons_append, List.nil_append, zcs_0, zcs_i, zcs_l, zcs_r, zle8, true_and, and_true, true_or, or_true, c_below, e0, e3, e6, hc0, hc1, i1_0, if_true, if_false]) (Tr_refl I) (fun M J hM => ?_)
      obtain ⟨M1, f1, f2, f3, f4⟩ := rq_find (xl := xl) (J := J) h.1 hM
      obtain ⟨e7, e9m, e11, e14⟩ := MN_l f2
      refine ⟨M1, fun Q => ?_, f3, f4⟩
      simp (disch := first | assumption | omega | (simp (disch := omega) only [zr_n, zr_s]; assumption)) only [x143_0, x143_1, x143_4, x143_5, x143_6, x143_9, x143_12, x143_13, x143_14, x143_15, x143_18, x143_21, x143_24, x143_25, x143_26, x143_27, x143_30, x143_33, x143_35, gc_65, ↓reduceIte, zkl_i, zkl_r, zkl_n, zkl_z, zkl_l, Option.toList_some, Option.toList_none, List.cons_append, List.nil_append, zcs_0, zcs_i, zcs_l, zcs_r, zle8, true_and, and_true, true_or, or_true, f1, no2, m_isLine, m_isReader, m_isTwo, m_isMinute, m_in, m_no, k64_0, k64_1, k64_2, k64_3, k64_15, k64_16, k64_23, i64_lt, e7, e9m, e11, i1_0, if_true, if_false, hr0, hr1]
  · have hc0 := bl0 (show tn (pD I 28 0) < 2 ^ 31 by omega) ha0
    have hr0 := bm0 (show tn (pD I 28 0) < 1000 by omega) ha0
    refine mkI (v := (-2)) (I1 := I) (J1 := J) h (fun Q => by simp (disch := first | assumption | omega | (simp (disch := omega) only [zr_n, zr_s]; assumption)) only [x48_0, x48_1, x48_2_0, x48_5_8, x48_5_28, x48_8, x48_11, x48_14, x48_15, x48_16, x48_19, x48_22, x48_24, x48_25, x48_26, x48_29, x48_30_0, x48_33_18, x48_33_38, x48_36, x48_37, x48_38, x48_39, x48_40, x48_41, x48_44, x48_45_0, x48_48_18, x48_48_38, x48_51, x48_52, x48_53, x48_56, x48_57_0, x48_60_18, x48_60_38, x48_63, x48_64, x48_65, ↓reduceIte, zkl_i, zkl_r, zkl_n, zkl_z, zkl_l, Option.toList_some, Option.toList_none, List.cons_append, List.nil_append, zcs_0, zcs_i, zcs_l, zcs_r, zle8, true_and, and_true, true_or, or_true, c_below, e0, e3, e6, hc0, i1_0, if_true, if_false]) (Tr_refl I) (fun M J hM => ?_)
    obtain ⟨M1, f1, f2, f3, f4⟩ := rq_find (xl := xl) (J := J) h.1 hM
    obtain ⟨e7, e9m, e11, e14⟩ := MN_l f2
    refine ⟨M1, fun Q => ?_, f3, f4⟩
    simp (disch := first | assumption | omega | (simp (disch := omega) only [zr_n, zr_s]; assumption)) only [x143_0, x143_1, x143_4, x143_5, x143_6, x143_9, x143_12, x143_13, x143_14, x143_15, x143_18, x143_21, x143_24, x143_25, x143_26, x143_27, x143_30, x143_33, x143_35, gc_65, ↓reduceIte, zkl_i, zkl_r, zkl_n, zkl_z, zkl_l, Option.toList_some, Option.toList_none, List.cons_append, List.nil_append, zcs_0, zcs_i, zcs_l, zcs_r, zle8, true_and, and_true, true_or, or_true, f1, no2, m_isLine, m_isReader, m_isTwo, m_isMinute, m_in, m_no, k64_0, k64_1, k64_2, k64_3, k64_15, k64_16, k64_23, i64_lt, e7, e9m, e11, i1_0, if_true, if_false, hr0]

theorem k_done (h : Inv I) : KI xl 50 147 [.ref 0, .int a, .int b] [.ref 65, .int a, .int b] I J := by
  obtain ⟨e0, e3, e6, e9⟩ := RC_8 h.1
  obtain ⟨b0, b3, b6, b9⟩ := RC_l h.1
  have h13 := h.1.1.2.2.2.2.1
  by_cases ha0 : IN a (tn (pD I 28 6))
  · obtain ⟨k, hk0, rfl⟩ := ha0
    have hc0 := bl1 hk0 (show tn (pD I 28 6) < 2 ^ 31 by omega)
    have hr0 : (if nI k < 0 then (0 : Int32) else if nI (tn (pD I 28 6)) - 1 < nI k then 0 else 1) = 1 := bm1 hk0 (by omega)
    by_cases ha1 : IN b (2)
    · obtain ⟨w, hk1, rfl⟩ := ha1
      have hc1 : (if nI w < 0 then (0 : Int32) else if nI w < 2 then 1 else 0) = 1 := bl1 (n := 2) hk1 (by decide)
      have hr1 : (if nI w < 0 then (0 : Int32) else if 1 < nI w then 0 else 1) = 1 := in1 (m := 1) (by omega) (by decide)
      refine mkI h (fun Q => q_done h.1 hk0 hk1) (Tr_refl I) (fun M J hM => ?_)
      obtain ⟨M1, f1, f2, f3, f4⟩ := rq_find (xl := xl) (J := J) h.1 hM
      obtain ⟨e7, e9m, e11, e14⟩ := MN_l f2
      have hv := fun Q => m_doneOf (xl := xl) (J := J) (Q := Q) (q := k) (w := nI w) f2 hk0
      refine ⟨M1, fun Q => ?_, f3, f4⟩
      simp (disch := first | assumption | omega | (simp (disch := omega) only [zr_n, zr_s]; assumption)) only [x147_0, x147_1, x147_4, x147_5, x147_6, x147_7, x147_8_65, x147_11, x147_12, x147_13, x147_14, x147_17, x147_20, x147_21, x147_24, x147_27, x147_28, x147_29, x147_30, x147_33, x147_36, x147_38, gc_65, ↓reduceIte, zkl_i, zkl_r, zkl_n, zkl_z, zkl_l, Option.toList_some, Option.toList_none, List.cons_append, List.nil_append, zcs_0, zcs_i, zcs_l, zcs_r, zle8, true_and, and_true, true_or, or_true, f1, no2, m_isLine, m_isReader, m_isTwo, m_isMinute, m_in, m_no, k64_0, k64_1, k64_2, k64_3, k64_15, k64_16, k64_23, i64_lt, e7, e9m, e11, i1_0, if_true, if_false, hr0, hr1, hv]
      rw [dnD]
      rcases fd_01 (D := pD I) k (by omega) with z | z
      · simp only [z, i0_0, if_true]
      · simp only [z, i1_0, if_false]
    · have hc1 : (if b < 0 then (0 : Int32) else if b < 2 then 1 else 0) = 0 := bl0 (n := 2) (by decide) ha1
      have hr1 : (if b < 0 then (0 : Int32) else if 1 < b then 0 else 1) = 0 := in0 (m := 1) (by decide) ha1
      refine mkI (v := (-2)) (I1 := I) (J1 := J) h (fun Q => by simp (disch := first | assumption | omega | (simp (disch := omega) only [zr_n, zr_s]; assumption)) only [x50_0, x50_1, x50_2_0, x50_5_8, x50_5_28, x50_8, x50_11, x50_14, x50_15, x50_16, x50_19, x50_22, x50_24, x50_25, x50_26, x50_29, x50_30_0, x50_33_18, x50_33_38, x50_36, x50_37, x50_38, x50_41, x50_42_0, x50_45_18, x50_45_38, x50_48, x50_49, x50_50, ↓reduceIte, zkl_i, zkl_r, zkl_n, zkl_z, zkl_l, Option.toList_some, Option.toList_none, List.cons_append, List.nil_append, zcs_0, zcs_i, zcs_l, zcs_r, zle8, true_and, and_true, true_or, or_true, c_below, e0, e3, e6, hc0, hc1, i1_0, if_true, if_false]) (Tr_refl I) (fun M J hM => ?_)
      obtain ⟨M1, f1, f2, f3, f4⟩ := rq_find (xl := xl) (J := J) h.1 hM
      obtain ⟨e7, e9m, e11, e14⟩ := MN_l f2
      refine ⟨M1, fun Q => ?_, f3, f4⟩
      simp (disch := first | assumption | omega | (simp (disch := omega) only [zr_n, zr_s]; assumption)) only [x147_0, x147_1, x147_4, x147_5, x147_6, x147_7, x147_8_65, x147_11, x147_12, x147_13, x147_14, x147_17, x147_20, x147_21, x147_24, x147_27, x147_28, x147_29, x147_30, x147_33, x147_36, x147_38, gc_65, ↓reduceIte, zkl_i, zkl_r, zkl_n, zkl_z, zkl_l, Option.toList_some, Option.toList_none, List.cons_append, List.nil_append, zcs_0, zcs_i, zcs_l, zcs_r, zle8, true_and, and_true, true_or, or_true, f1, no2, m_isLine, m_isReader, m_isTwo, m_isMinute, m_in, m_no, k64_0, k64_1, k64_2, k64_3, k64_15, k64_16, k64_23, i64_lt, e7, e9m, e11, i1_0, if_true, if_false, hr0, hr1]
  · have hc0 := bl0 (show tn (pD I 28 6) < 2 ^ 31 by omega) ha0
    have hr0 : (if a < 0 then (0 : Int32) else if nI (tn (pD I 28 6)) - 1 < a then 0 else 1) = 0 := bm0 (by omega) ha0
    refine mkI (v := (-2)) (I1 := I) (J1 := J) h (fun Q => by simp (disch := first | assumption | omega | (simp (disch := omega) only [zr_n, zr_s]; assumption)) only [x50_0, x50_1, x50_2_0, x50_5_8, x50_5_28, x50_8, x50_11, x50_14, x50_15, x50_16, x50_19, x50_22, x50_24, x50_25, x50_26, x50_29, x50_30_0, x50_33_18, x50_33_38, x50_36, x50_37, x50_38, x50_41, x50_42_0, x50_45_18, x50_45_38, x50_48, x50_49, x50_50, ↓reduceIte, zkl_i, zkl_r, zkl_n, zkl_z, zkl_l, Option.toList_some, Option.toList_none, List.cons_append, List.nil_append, zcs_0, zcs_i, zcs_l, zcs_r, zle8, true_and, and_true, true_or, or_true, c_below, e0, e3, e6, hc0, i1_0, if_true, if_false]) (Tr_refl I) (fun M J hM => ?_)
    obtain ⟨M1, f1, f2, f3, f4⟩ := rq_find (xl := xl) (J := J) h.1 hM
    obtain ⟨e7, e9m, e11, e14⟩ := MN_l f2
    refine ⟨M1, fun Q => ?_, f3, f4⟩
    simp (disch := first | assumption | omega | (simp (disch := omega) only [zr_n, zr_s]; assumption)) only [x147_0, x147_1, x147_4, x147_5, x147_6, x147_7, x147_8_65, x147_11, x147_12, x147_13, x147_14, x147_17, x147_20, x147_21, x147_24, x147_27, x147_28, x147_29, x147_30, x147_33, x147_36, x147_38, gc_65, ↓reduceIte, zkl_i, zkl_r, zkl_n, zkl_z, zkl_l, Option.toList_some, Option.toList_none, List.cons_append, List.nil_append, zcs_0, zcs_i, zcs_l, zcs_r, zle8, true_and, and_true, true_or, or_true, f1, no2, m_isLine, m_isReader, m_isTwo, m_isMinute, m_in, m_no, k64_0, k64_1, k64_2, k64_3, k64_15, k64_16, k64_23, i64_lt, e7, e9m, e11, i1_0, if_true, if_false, hr0]

theorem k_marked (h : Inv I) : KI xl 51 149 [.ref 0, .int a] [.ref 65, .int a] I J := by
  obtain ⟨e0, e3, e6, e9⟩ := RC_8 h.1
  obtain ⟨b0, b3, b6, b9⟩ := RC_l h.1
  have h13 := h.1.1.2.2.2.2.1
  by_cases ha0 : IN a (24)
  · obtain ⟨k, hk0, rfl⟩ := ha0
    have hc0 : (if nI k < 0 then (0 : Int32) else if nI k < 24 then 1 else 0) = 1 := bl1 (n := 24) hk0 (by decide)
    have hr0 : bt (nI k) 0 23 = 1 := in1 (m := 23) (by omega) (by decide)
    refine mkI h (fun Q => q_marked h.1 hk0) (Tr_refl I) (fun M J hM => ?_)
    obtain ⟨M1, f1, f2, f3, f4⟩ := rq_find (xl := xl) (J := J) h.1 hM
    obtain ⟨e7, e9m, e11, e14⟩ := MN_l f2
    have hv := fun Q => m_corrected (xl := xl) (J := J) (Q := Q) (m := nI k) f2
    obtain ⟨j, hj, ej⟩ := Pk_mk (m := nI k) f2.1.1
    have ho := fun Q => m_ones (xl := xl) (J := J) (I := M1) (Q := Q) (x := mkD (pD I) (nI k)) (by rw [ej]; exact (on_ok hj).1)
    refine ⟨M1, fun Q => ?_, f3, f4⟩
    simp (disch := first | assumption | omega | (simp (disch := omega) only [zr_n, zr_s]; assumption)) only [x149_0, x149_1, x149_4, x149_5, x149_8, x149_11, x149_12, x149_13, x149_16, x149_19, x149_22, x149_24, gc_65, ↓reduceIte, zkl_i, zkl_r, zkl_n, zkl_z, zkl_l, Option.toList_some, Option.toList_none, List.cons_append, List.nil_append, zcs_0, zcs_i, zcs_l, zcs_r, zle8, true_and, and_true, true_or, or_true, f1, no2, m_isLine, m_isReader, m_isTwo, m_isMinute, m_in, m_no, k64_0, k64_1, k64_2, k64_3, k64_15, k64_16, k64_23, i64_lt, e7, e9m, e11, i1_0, if_true, if_false, hr0, hv, ho, maD]
  · have hc0 : (if a < 0 then (0 : Int32) else if a < 24 then 1 else 0) = 0 := bl0 (n := 24) (by decide) ha0
    have hr0 : bt a 0 23 = 0 := in0 (m := 23) (by decide) ha0
    refine mkI (v := (-2)) (I1 := I) (J1 := J) h (fun Q => by simp (disch := first | assumption | omega | (simp (disch := omega) only [zr_n, zr_s]; assumption)) only [x51_0, x51_1, x51_3, x51_6, x51_9, x51_10_0, x51_13, x51_14, x51_17, x51_20, x51_23, x51_25, ↓reduceIte, zkl_i, zkl_r, zkl_n, zkl_z, zkl_l, Option.toList_some, Option.toList_none, List.cons_append, List.nil_append, zcs_0, zcs_i, zcs_l, zcs_r, zle8, true_and, and_true, true_or, or_true, c_below, e0, e3, e6, hc0, i1_0, if_true, if_false]) (Tr_refl I) (fun M J hM => ?_)
    obtain ⟨M1, f1, f2, f3, f4⟩ := rq_find (xl := xl) (J := J) h.1 hM
    obtain ⟨e7, e9m, e11, e14⟩ := MN_l f2
    refine ⟨M1, fun Q => ?_, f3, f4⟩
    simp (disch := first | assumption | omega | (simp (disch := omega) only [zr_n, zr_s]; assumption)) only [x149_0, x149_1, x149_4, x149_5, x149_8, x149_11, x149_12, x149_13, x149_16, x149_19, x149_22, x149_24, gc_65, ↓reduceIte, zkl_i, zkl_r, zkl_n, zkl_z, zkl_l, Option.toList_some, Option.toList_none, List.cons_append, List.nil_append, zcs_0, zcs_i, zcs_l, zcs_r, zle8, true_and, and_true, true_or, or_true, f1, no2, m_isLine, m_isReader, m_isTwo, m_isMinute, m_in, m_no, k64_0, k64_1, k64_2, k64_3, k64_15, k64_16, k64_23, i64_lt, e7, e9m, e11, i1_0, if_true, if_false, hr0]

theorem k_left (h : Inv I) : KI xl 54 155 [.ref 0, .int a] [.ref 65, .int a] I J := by
  obtain ⟨e0, e3, e6, e9⟩ := RC_8 h.1
  obtain ⟨b0, b3, b6, b9⟩ := RC_l h.1
  have h13 := h.1.1.2.2.2.2.1
  by_cases ha0 : IN a (2)
  · obtain ⟨w, hk0, rfl⟩ := ha0
    have hc0 : (if nI w < 0 then (0 : Int32) else if nI w < 2 then 1 else 0) = 1 := bl1 (n := 2) hk0 (by decide)
    have hr0 : (if nI w < 0 then (0 : Int32) else if 1 < nI w then 0 else 1) = 1 := in1 (m := 1) (by omega) (by decide)
    refine mkI h (fun Q => q_left h.1 hk0) (Tr_refl I) (fun M J hM => ?_)
    obtain ⟨M1, f1, f2, f3, f4⟩ := rq_find (xl := xl) (J := J) h.1 hM
    obtain ⟨e7, e9m, e11, e14⟩ := MN_l f2
    have hv := fun Q => m_leftBy (xl := xl) (J := J) (Q := Q) (w := nI w) f2
    refine ⟨M1, fun Q => ?_, f3, f4⟩
    simp (disch := first | assumption | omega | (simp (disch := omega) only [zr_n, zr_s]; assumption)) only [x155_0, x155_1, x155_4, x155_5, x155_8, x155_11, x155_12, x155_13, x155_16, x155_19, x155_21, gc_65, ↓reduceIte, zkl_i, zkl_r, zkl_n, zkl_z, zkl_l, Option.toList_some, Option.toList_none, List.cons_append, List.nil_append, zcs_0, zcs_i, zcs_l, zcs_r, zle8, true_and, and_true, true_or, or_true, f1, no2, m_isLine, m_isReader, m_isTwo, m_isMinute, m_in, m_no, k64_0, k64_1, k64_2, k64_3, k64_15, k64_16, k64_23, i64_lt, e7, e9m, e11, i1_0, if_true, if_false, hr0, hv]
  · have hc0 : (if a < 0 then (0 : Int32) else if a < 2 then 1 else 0) = 0 := bl0 (n := 2) (by decide) ha0
    have hr0 : (if a < 0 then (0 : Int32) else if 1 < a then 0 else 1) = 0 := in0 (m := 1) (by decide) ha0
    refine mkI (v := (-2)) (I1 := I) (J1 := J) h (fun Q => by simp (disch := first | assumption | omega | (simp (disch := omega) only [zr_n, zr_s]; assumption)) only [x54_0, x54_1, x54_2, x54_5, x54_8, x54_10, x54_11, x54_12, x54_15, x54_16_0, x54_19, x54_22, x54_25, x54_26_0, x54_29, x54_32, ↓reduceIte, zkl_i, zkl_r, zkl_n, zkl_z, zkl_l, Option.toList_some, Option.toList_none, List.cons_append, List.nil_append, zcs_0, zcs_i, zcs_l, zcs_r, zle8, true_and, and_true, true_or, or_true, c_below, e0, e3, e6, hc0, i1_0, if_true, if_false]) (Tr_refl I) (fun M J hM => ?_)
    obtain ⟨M1, f1, f2, f3, f4⟩ := rq_find (xl := xl) (J := J) h.1 hM
    obtain ⟨e7, e9m, e11, e14⟩ := MN_l f2
    refine ⟨M1, fun Q => ?_, f3, f4⟩
    simp (disch := first | assumption | omega | (simp (disch := omega) only [zr_n, zr_s]; assumption)) only [x155_0, x155_1, x155_4, x155_5, x155_8, x155_11, x155_12, x155_13, x155_16, x155_19, x155_21, gc_65, ↓reduceIte, zkl_i, zkl_r, zkl_n, zkl_z, zkl_l, Option.toList_some, Option.toList_none, List.cons_append, List.nil_append, zcs_0, zcs_i, zcs_l, zcs_r, zle8, true_and, and_true, true_or, or_true, f1, no2, m_isLine, m_isReader, m_isTwo, m_isMinute, m_in, m_no, k64_0, k64_1, k64_2, k64_3, k64_15, k64_16, k64_23, i64_lt, e7, e9m, e11, i1_0, if_true, if_false, hr0]

theorem k_harm (h : Inv I) : KI xl 52 151 [.ref 0] [.ref 65] I J := by
  obtain ⟨e0, e3, e6, e9⟩ := RC_8 h.1
  obtain ⟨b0, b3, b6, b9⟩ := RC_l h.1
  have h13 := h.1.1.2.2.2.2.1
  refine mkI h (fun Q => q_harm h.1) (Tr_refl I) (fun M J hM => ?_)
  obtain ⟨M1, f1, f2, f3, f4⟩ := rq_find (xl := xl) (J := J) h.1 hM
  obtain ⟨e7, e9m, e11, e14⟩ := MN_l f2
  have hv := fun Q => m_harmNow (xl := xl) (J := J) (Q := Q) f2
  refine ⟨M1, fun Q => ?_, f3, f4⟩
  simp (disch := first | assumption | omega | (simp (disch := omega) only [zr_n, zr_s]; assumption)) only [x151_0, x151_1, x151_4, x151_5, x151_8, gc_65, ↓reduceIte, zkl_i, zkl_r, zkl_n, zkl_z, zkl_l, Option.toList_some, Option.toList_none, List.cons_append, List.nil_append, zcs_0, zcs_i, zcs_l, zcs_r, zle8, true_and, and_true, true_or, or_true, f1, no2, m_isLine, m_isReader, m_isTwo, m_isMinute, m_in, m_no, k64_0, k64_1, k64_2, k64_3, k64_15, k64_16, k64_23, i64_lt, e7, e9m, e11, i1_0, if_true, if_false, hv]

theorem k_worst (h : Inv I) : KI xl 53 153 [.ref 0, .null, .null] [.ref 65] I J := by
  obtain ⟨e0, e3, e6, e9⟩ := RC_8 h.1
  obtain ⟨b0, b3, b6, b9⟩ := RC_l h.1
  have h13 := h.1.1.2.2.2.2.1
  refine mkI h (fun Q => q_worst h.1) (Tr_refl I) (fun M J hM => ?_)
  obtain ⟨M1, f1, f2, f3, f4⟩ := rq_find (xl := xl) (J := J) h.1 hM
  obtain ⟨e7, e9m, e11, e14⟩ := MN_l f2
  have hv := fun Q => m_worstNow (xl := xl) (J := J) (Q := Q) f2
  refine ⟨M1, fun Q => ?_, f3, f4⟩
  simp (disch := first | assumption | omega | (simp (disch := omega) only [zr_n, zr_s]; assumption)) only [x153_0, x153_1, x153_4, x153_5, x153_8, gc_65, ↓reduceIte, zkl_i, zkl_r, zkl_n, zkl_z, zkl_l, Option.toList_some, Option.toList_none, List.cons_append, List.nil_append, zcs_0, zcs_i, zcs_l, zcs_r, zle8, true_and, and_true, true_or, or_true, f1, no2, m_isLine, m_isReader, m_isTwo, m_isMinute, m_in, m_no, k64_0, k64_1, k64_2, k64_3, k64_15, k64_16, k64_23, i64_lt, e7, e9m, e11, i1_0, if_true, if_false, hv]

theorem k_more (h : Inv I) : KI xl 55 157 [.ref 0, .int a] [.ref 65, .int a] I J := by
  obtain ⟨e0, e3, e6, e9⟩ := RC_8 h.1
  obtain ⟨b0, b3, b6, b9⟩ := RC_l h.1
  have h13 := h.1.1.2.2.2.2.1
  by_cases ha0 : IN a (3)
  · obtain ⟨w, hk0, rfl⟩ := ha0
    have hc0 : (if nI w < 0 then (0 : Int32) else if nI w < 3 then 1 else 0) = 1 := bl1 (n := 3) hk0 (by decide)
    have hr0 : (if nI w < 0 then (0 : Int32) else if 2 < nI w then 0 else 1) = 1 := in1 (m := 2) (by omega) (by decide)
    obtain ⟨X, x1, x2⟩ := q_more (xl := xl) (J := J) h.1 hk0
    refine mkI h x1 x2 (fun M J hM => ?_)
    obtain ⟨M1, f1, f2, f3, f4⟩ := rq_find (xl := xl) (J := J) h.1 hM
    obtain ⟨e7, e9m, e11, e14⟩ := MN_l f2
    obtain ⟨M2, g1, g2, g3⟩ := m_moreBy (xl := xl) (J := J) (w := nI w) f2.1 b6
    refine ⟨M2, fun Q => ?_, RM_Fr g3 g2 h13 f3, Fr_trans f4 g3⟩
    simp (disch := first | assumption | omega | (simp (disch := omega) only [zr_n, zr_s]; assumption)) only [x157_0, x157_1, x157_4, x157_5, x157_6, x157_7, x157_10, x157_13, x157_16, x157_17, x157_18, x157_21, x157_24, x157_26, gc_65, ↓reduceIte, zkl_i, zkl_r, zkl_n, zkl_z, zkl_l, Option.toList_some, Option.toList_none, List.cons_append, List.nil_append, zcs_0, zcs_i, zcs_l, zcs_r, zle8, true_and, and_true, true_or, or_true, f1, no2, m_isLine, m_isReader, m_isTwo, m_isMinute, m_in, m_no, k64_0, k64_1, k64_2, k64_3, k64_15, k64_16, k64_23, i64_lt, e7, e9m, e11, i1_0, if_true, if_false, hr0, g1]
  · have hc0 : (if a < 0 then (0 : Int32) else if a < 3 then 1 else 0) = 0 := bl0 (n := 3) (by decide) ha0
    have hr0 : (if a < 0 then (0 : Int32) else if 2 < a then 0 else 1) = 0 := in0 (m := 2) (by decide) ha0
    refine mkI (v := (-2)) (I1 := I) (J1 := J) h (fun Q => by simp (disch := first | assumption | omega | (simp (disch := omega) only [zr_n, zr_s]; assumption)) only [x55_0, x55_1, x55_2, x55_5, x55_8, x55_10, x55_11, x55_12, x55_15, x55_16_0, x55_19, x55_20, x55_21, ↓reduceIte, zkl_i, zkl_r, zkl_n, zkl_z, zkl_l, Option.toList_some, Option.toList_none, List.cons_append, List.nil_append, zcs_0, zcs_i, zcs_l, zcs_r, zle8, true_and, and_true, true_or, or_true, c_below, e0, e3, e6, hc0, i1_0, if_true, if_false]) (Tr_refl I) (fun M J hM => ?_)
    obtain ⟨M1, f1, f2, f3, f4⟩ := rq_find (xl := xl) (J := J) h.1 hM
    obtain ⟨e7, e9m, e11, e14⟩ := MN_l f2
    refine ⟨M1, fun Q => ?_, f3, f4⟩
    simp (disch := first | assumption | omega | (simp (disch := omega) only [zr_n, zr_s]; assumption)) only [x157_0, x157_1, x157_4, x157_5, x157_6, x157_7, x157_10, x157_13, x157_16, x157_17, x157_18, x157_21, x157_24, x157_26, gc_65, ↓reduceIte, zkl_i, zkl_r, zkl_n, zkl_z, zkl_l, Option.toList_some, Option.toList_none, List.cons_append, List.nil_append, zcs_0, zcs_i, zcs_l, zcs_r, zle8, true_and, and_true, true_or, or_true, f1, no2, m_isLine, m_isReader, m_isTwo, m_isMinute, m_in, m_no, k64_0, k64_1, k64_2, k64_3, k64_15, k64_16, k64_23, i64_lt, e7, e9m, e11, i1_0, if_true, if_false, hr0]

theorem k_turn (h : Inv I) : KI xl 57 162 [.ref 0, .int a] [.ref 65, .int a] I J := by
  obtain ⟨e0, e3, e6, e9⟩ := RC_8 h.1
  obtain ⟨b0, b3, b6, b9⟩ := RC_l h.1
  have h13 := h.1.1.2.2.2.2.1
  by_cases ha0 : IN a (3)
  · obtain ⟨w, hk0, rfl⟩ := ha0
    have hc0 : (if nI w < 0 then (0 : Int32) else if nI w < 3 then 1 else 0) = 1 := bl1 (n := 3) hk0 (by decide)
    have hr0 : (if nI w < 0 then (0 : Int32) else if 2 < nI w then 0 else 1) = 1 := in1 (m := 2) (by omega) (by decide)
    obtain ⟨X, x1, x2⟩ := q_turn (xl := xl) (J := J) h.1 hk0
    refine mkI h x1 x2 (fun M J hM => ?_)
    obtain ⟨M1, f1, f2, f3, f4⟩ := rq_find (xl := xl) (J := J) h.1 hM
    obtain ⟨e7, e9m, e11, e14⟩ := MN_l f2
    obtain ⟨M2, g1, g2, g3⟩ := m_turnBy (xl := xl) (J := J) (w := nI w) f2.1
    refine ⟨M2, fun Q => ?_, RM_Fr g3 g2 h13 f3, Fr_trans f4 g3⟩
    simp (disch := first | assumption | omega | (simp (disch := omega) only [zr_n, zr_s]; assumption)) only [x162_0, x162_1, x162_4, x162_5, x162_6, x162_7, x162_10, x162_13, x162_16, x162_17, x162_18, x162_21, x162_24, x162_26, gc_65, ↓reduceIte, zkl_i, zkl_r, zkl_n, zkl_z, zkl_l, Option.toList_some, Option.toList_none, List.cons_append, List.nil_append, zcs_0, zcs_i, zcs_l, zcs_r, zle8, true_and, and_true, true_or, or_true, f1, no2, m_isLine, m_isReader, m_isTwo, m_isMinute, m_in, m_no, k64_0, k64_1, k64_2, k64_3, k64_15, k64_16, k64_23, i64_lt, e7, e9m, e11, i1_0, if_true, if_false, hr0, g1]
  · have hc0 : (if a < 0 then (0 : Int32) else if a < 3 then 1 else 0) = 0 := bl0 (n := 3) (by decide) ha0
    have hr0 : (if a < 0 then (0 : Int32) else if 2 < a then 0 else 1) = 0 := in0 (m := 2) (by decide) ha0
    refine mkI (v := (-2)) (I1 := I) (J1 := J) h (fun Q => by simp (disch := first | assumption | omega | (simp (disch := omega) only [zr_n, zr_s]; assumption)) only [x57_0, x57_1, x57_2, x57_5, x57_8, x57_10, x57_11, x57_12, x57_15, x57_16_0, x57_19, x57_20, x57_21, ↓reduceIte, zkl_i, zkl_r, zkl_n, zkl_z, zkl_l, Option.toList_some, Option.toList_none, List.cons_append, List.nil_append, zcs_0, zcs_i, zcs_l, zcs_r, zle8, true_and, and_true, true_or, or_true, c_below, e0, e3, e6, hc0, i1_0, if_true, if_false]) (Tr_refl I) (fun M J hM => ?_)
    obtain ⟨M1, f1, f2, f3, f4⟩ := rq_find (xl := xl) (J := J) h.1 hM
    obtain ⟨e7, e9m, e11, e14⟩ := MN_l f2
    refine ⟨M1, fun Q => ?_, f3, f4⟩
    simp (disch := first | assumption | omega | (simp (disch := omega) only [zr_n, zr_s]; assumption)) only [x162_0, x162_1, x162_4, x162_5, x162_6, x162_7, x162_10, x162_13, x162_16, x162_17, x162_18, x162_21, x162_24, x162_26, gc_65, ↓reduceIte, zkl_i, zkl_r, zkl_n, zkl_z, zkl_l, Option.toList_some, Option.toList_none, List.cons_append, List.nil_append, zcs_0, zcs_i, zcs_l, zcs_r, zle8, true_and, and_true, true_or, or_true, f1, no2, m_isLine, m_isReader, m_isTwo, m_isMinute, m_in, m_no, k64_0, k64_1, k64_2, k64_3, k64_15, k64_16, k64_23, i64_lt, e7, e9m, e11, i1_0, if_true, if_false, hr0]

theorem k_late (h : Inv I) : KI xl 56 159 [.ref 0, .null] [.ref 65] I J := by
  obtain ⟨e0, e3, e6, e9⟩ := RC_8 h.1
  obtain ⟨b0, b3, b6, b9⟩ := RC_l h.1
  have h13 := h.1.1.2.2.2.2.1
  obtain ⟨X, x1, x2⟩ := c_late (xl := xl) (J := J) (RP_CD h.1.1)
  refine mkI h x1 x2 (fun M J hM => ?_)
  obtain ⟨M1, f1, f2, f3, f4⟩ := rq_find (xl := xl) (J := J) h.1 hM
  obtain ⟨e7, e9m, e11, e14⟩ := MN_l f2
  obtain ⟨M2, g1, g2, g3⟩ := m_lateNow (xl := xl) (J := J) f2.1
  refine ⟨M2, fun Q => ?_, RM_Fr g3 g2 h13 f3, Fr_trans f4 g3⟩
  simp (disch := first | assumption | omega | (simp (disch := omega) only [zr_n, zr_s]; assumption)) only [x159_0, x159_1, x159_4, x159_5, x159_8, gc_65, ↓reduceIte, zkl_i, zkl_r, zkl_n, zkl_z, zkl_l, Option.toList_some, Option.toList_none, List.cons_append, List.nil_append, zcs_0, zcs_i, zcs_l, zcs_r, zle8, true_and, and_true, true_or, or_true, f1, no2, m_isLine, m_isReader, m_isTwo, m_isMinute, m_in, m_no, k64_0, k64_1, k64_2, k64_3, k64_15, k64_16, k64_23, i64_lt, e7, e9m, e11, i1_0, if_true, if_false, g1]

theorem k_never (h : Inv I) : KI xl 61 170 [.ref 0, .null, .null] [.ref 65] I J := by
  obtain ⟨e0, e3, e6, e9⟩ := RC_8 h.1
  obtain ⟨b0, b3, b6, b9⟩ := RC_l h.1
  have h13 := h.1.1.2.2.2.2.1
  obtain ⟨X, x1, x2⟩ := c_never (xl := xl) (J := J) (RP_CD h.1.1) h.1.2.1
  refine mkI h x1 x2 (fun M J hM => ?_)
  obtain ⟨M1, f1, f2, f3, f4⟩ := rq_find (xl := xl) (J := J) h.1 hM
  obtain ⟨e7, e9m, e11, e14⟩ := MN_l f2
  obtain ⟨M2, g1, g2, g3⟩ := m_neverNow (xl := xl) (J := J) f2.1 h13 h.1.2.1 f3.2.2.2.2.1
  refine ⟨M2, fun Q => ?_, RM_Fr g3 g2 h13 f3, Fr_trans f4 g3⟩
  simp (disch := first | assumption | omega | (simp (disch := omega) only [zr_n, zr_s]; assumption)) only [x170_0, x170_1, x170_4, x170_5, x170_8, gc_65, ↓reduceIte, zkl_i, zkl_r, zkl_n, zkl_z, zkl_l, Option.toList_some, Option.toList_none, List.cons_append, List.nil_append, zcs_0, zcs_i, zcs_l, zcs_r, zle8, true_and, and_true, true_or, or_true, f1, no2, m_isLine, m_isReader, m_isTwo, m_isMinute, m_in, m_no, k64_0, k64_1, k64_2, k64_3, k64_15, k64_16, k64_23, i64_lt, e7, e9m, e11, i1_0, if_true, if_false, g1]

theorem k_kind (h : Inv I) : KI xl 63 174 [.ref 0, .int a, .null, .null] [.ref 65, .int a] I J := by
  obtain ⟨e0, e3, e6, e9⟩ := RC_8 h.1
  obtain ⟨b0, b3, b6, b9⟩ := RC_l h.1
  have h13 := h.1.1.2.2.2.2.1
  by_cases ha0 : IN a (tn (pD I 28 0))
  · obtain ⟨k, hk0, rfl⟩ := ha0
    have hc0 := bl1 hk0 (show tn (pD I 28 0) < 2 ^ 31 by omega)
    have hr0 := bm1 hk0 (show tn (pD I 28 0) < 1000 by omega)
    obtain ⟨X, x1, x2⟩ := c_kind (xl := xl) (J := J) (RP_CD h.1.1) h.1.2.1 hk0
    refine mkI h x1 x2 (fun M J hM => ?_)
    obtain ⟨M1, f1, f2, f3, f4⟩ := rq_find (xl := xl) (J := J) h.1 hM
    obtain ⟨e7, e9m, e11, e14⟩ := MN_l f2
    obtain ⟨M2, g1, g2, g3⟩ := m_kindOf (xl := xl) (J := J) f2.1 h.1.2.1 f3.2.2.2.2.1 hk0
    refine ⟨M2, fun Q => ?_, RM_Fr g3 g2 h13 f3, Fr_trans f4 g3⟩
    simp (disch := first | assumption | omega | (simp (disch := omega) only [zr_n, zr_s]; assumption)) only [x174_0, x174_1, x174_4, x174_5, x174_6, x174_9, x174_12, x174_13, x174_14, x174_17, x174_20, x174_22, gc_65, ↓reduceIte, zkl_i, zkl_r, zkl_n, zkl_z, zkl_l, Option.toList_some, Option.toList_none, List.cons_append, List.nil_append, zcs_0, zcs_i, zcs_l, zcs_r, zle8, true_and, and_true, true_or, or_true, f1, no2, m_isLine, m_isReader, m_isTwo, m_isMinute, m_in, m_no, k64_0, k64_1, k64_2, k64_3, k64_15, k64_16, k64_23, i64_lt, e7, e9m, e11, i1_0, if_true, if_false, hr0, g1]
  · have hc0 := bl0 (show tn (pD I 28 0) < 2 ^ 31 by omega) ha0
    have hr0 := bm0 (show tn (pD I 28 0) < 1000 by omega) ha0
    refine mkI (v := (-2)) (I1 := I) (J1 := J) h (fun Q => by simp (disch := first | assumption | omega | (simp (disch := omega) only [zr_n, zr_s]; assumption)) only [x63_0, x63_1, x63_2_0, x63_5_8, x63_5_28, x63_8, x63_11, x63_14, x63_16, x63_17, x63_18_0, x63_21, x63_22_0, x63_25, x63_28, x63_29, x63_30, x63_31, x63_33, x63_34, x63_37, x63_38_0, x63_41_8, x63_41_28, x63_44, x63_45, x63_46, x63_47, x63_48_0, x63_51, x63_52_0, x63_55, x63_58, x63_59_0, x63_62, x63_63_0, x63_66, x63_69, x63_72, x63_73, x63_74, x63_75, x63_76, x63_77, x63_78, x63_81, x63_84, x63_85, ↓reduceIte, zkl_i, zkl_r, zkl_n, zkl_z, zkl_l, Option.toList_some, Option.toList_none, List.cons_append, List.nil_append, zcs_0, zcs_i, zcs_l, zcs_r, zle8, true_and, and_true, true_or, or_true, c_below, e0, e3, e6, hc0, i1_0, if_true, if_false]) (Tr_refl I) (fun M J hM => ?_)
    obtain ⟨M1, f1, f2, f3, f4⟩ := rq_find (xl := xl) (J := J) h.1 hM
    obtain ⟨e7, e9m, e11, e14⟩ := MN_l f2
    refine ⟨M1, fun Q => ?_, f3, f4⟩
    simp (disch := first | assumption | omega | (simp (disch := omega) only [zr_n, zr_s]; assumption)) only [x174_0, x174_1, x174_4, x174_5, x174_6, x174_9, x174_12, x174_13, x174_14, x174_17, x174_20, x174_22, gc_65, ↓reduceIte, zkl_i, zkl_r, zkl_n, zkl_z, zkl_l, Option.toList_some, Option.toList_none, List.cons_append, List.nil_append, zcs_0, zcs_i, zcs_l, zcs_r, zle8, true_and, and_true, true_or, or_true, f1, no2, m_isLine, m_isReader, m_isTwo, m_isMinute, m_in, m_no, k64_0, k64_1, k64_2, k64_3, k64_15, k64_16, k64_23, i64_lt, e7, e9m, e11, i1_0, if_true, if_false, hr0]

theorem k_ask (h : Inv I) : KI xl 64 177 [.ref 0, .int a, .null, .null, .null, .null, .null] [.ref 65, .int a] I J := by
  obtain ⟨e0, e3, e6, e9⟩ := RC_8 h.1
  obtain ⟨b0, b3, b6, b9⟩ := RC_l h.1
  have h13 := h.1.1.2.2.2.2.1
  by_cases ha0 : IN a (tn (pD I 28 3))
  · obtain ⟨k, hk0, rfl⟩ := ha0
    have hc0 := bl1 hk0 (show tn (pD I 28 3) < 2 ^ 31 by omega)
    have hr0 := bm1 hk0 (show tn (pD I 28 3) < 1000 by omega)
    obtain ⟨X, x1, x2⟩ := q_ask (xl := xl) (J := J) h.1 hk0
    refine mkI h x1 x2 (fun M J hM => ?_)
    obtain ⟨M1, f1, f2, f3, f4⟩ := rq_find (xl := xl) (J := J) h.1 hM
    obtain ⟨e7, e9m, e11, e14⟩ := MN_l f2
    obtain ⟨M2, g1, g2, g3⟩ := m_askOf (xl := xl) (J := J) f2.1 h.1.2.1 f3.2.2.2.2.1 hk0
    refine ⟨M2, fun Q => ?_, RM_Fr g3 g2 h13 f3, Fr_trans f4 g3⟩
    simp (disch := first | assumption | omega | (simp (disch := omega) only [zr_n, zr_s]; assumption)) only [x177_0, x177_1, x177_4, x177_5, x177_6, x177_9, x177_12, x177_13, x177_14, x177_17, x177_20, x177_22, gc_65, ↓reduceIte, zkl_i, zkl_r, zkl_n, zkl_z, zkl_l, Option.toList_some, Option.toList_none, List.cons_append, List.nil_append, zcs_0, zcs_i, zcs_l, zcs_r, zle8, true_and, and_true, true_or, or_true, f1, no2, m_isLine, m_isReader, m_isTwo, m_isMinute, m_in, m_no, k64_0, k64_1, k64_2, k64_3, k64_15, k64_16, k64_23, i64_lt, e7, e9m, e11, i1_0, if_true, if_false, hr0, g1]
  · have hc0 := bl0 (show tn (pD I 28 3) < 2 ^ 31 by omega) ha0
    have hr0 := bm0 (show tn (pD I 28 3) < 1000 by omega) ha0
    refine mkI (v := (-2)) (I1 := I) (J1 := J) h (fun Q => by simp (disch := first | assumption | omega | (simp (disch := omega) only [zr_n, zr_s]; assumption)) only [x64_0, x64_1, x64_2_0, x64_5_8, x64_5_28, x64_8, x64_11, x64_14, x64_16, x64_17, x64_18, x64_19, x64_22, x64_23, x64_24, x64_25, x64_27, x64_29, x64_30, x64_34, x64_36, x64_39, x64_40, x64_41, x64_43, x64_46, x64_48, x64_50, x64_52, x64_55, x64_57, x64_59, x64_61, x64_62, x64_65, x64_68, x64_69, ↓reduceIte, zkl_i, zkl_r, zkl_n, zkl_z, zkl_l, Option.toList_some, Option.toList_none, List.cons_append, List.nil_append, zcs_0, zcs_i, zcs_l, zcs_r, zle8, true_and, and_true, true_or, or_true, c_below, e0, e3, e6, hc0, i1_0, if_true, if_false]) (Tr_refl I) (fun M J hM => ?_)
    obtain ⟨M1, f1, f2, f3, f4⟩ := rq_find (xl := xl) (J := J) h.1 hM
    obtain ⟨e7, e9m, e11, e14⟩ := MN_l f2
    refine ⟨M1, fun Q => ?_, f3, f4⟩
    simp (disch := first | assumption | omega | (simp (disch := omega) only [zr_n, zr_s]; assumption)) only [x177_0, x177_1, x177_4, x177_5, x177_6, x177_9, x177_12, x177_13, x177_14, x177_17, x177_20, x177_22, gc_65, ↓reduceIte, zkl_i, zkl_r, zkl_n, zkl_z, zkl_l, Option.toList_some, Option.toList_none, List.cons_append, List.nil_append, zcs_0, zcs_i, zcs_l, zcs_r, zle8, true_and, and_true, true_or, or_true, f1, no2, m_isLine, m_isReader, m_isTwo, m_isMinute, m_in, m_no, k64_0, k64_1, k64_2, k64_3, k64_15, k64_16, k64_23, i64_lt, e7, e9m, e11, i1_0, if_true, if_false, hr0]

theorem k_keens (h : Inv I) : KI xl 62 172 [.ref 0, .int a] [.ref 65, .int a] I J := by
  obtain ⟨e0, e3, e6, e9⟩ := RC_8 h.1
  obtain ⟨b0, b3, b6, b9⟩ := RC_l h.1
  have h13 := h.1.1.2.2.2.2.1
  by_cases ha0 : IN a (tn (pD I 28 3))
  · obtain ⟨k, hk0, rfl⟩ := ha0
    have hc0 := bl1 hk0 (show tn (pD I 28 3) < 2 ^ 31 by omega)
    have hr0 := bm1 hk0 (show tn (pD I 28 3) < 1000 by omega)
    obtain ⟨X, x1, x2⟩ := q_keens (xl := xl) (J := J) h.1 hk0
    refine mkI h x1 x2 (fun M J hM => ?_)
    obtain ⟨M1, f1, f2, f3, f4⟩ := rq_find (xl := xl) (J := J) h.1 hM
    obtain ⟨e7, e9m, e11, e14⟩ := MN_l f2
    obtain ⟨M2, g1, g0, g2, g3⟩ := m_keensOf (xl := xl) (J := J) f2.1 h.1.2.1 f3.2.2.2.2.1 hk0
    refine ⟨M2, fun Q => ?_, RM_Fr g3 g2 h13 f3, Fr_trans f4 g3⟩
    simp (disch := first | assumption | omega | (simp (disch := omega) only [zr_n, zr_s]; assumption)) only [x172_0, x172_1, x172_4, x172_5, x172_6, x172_9, x172_12, x172_13, x172_14, x172_17, x172_20, x172_22, gc_65, ↓reduceIte, zkl_i, zkl_r, zkl_n, zkl_z, zkl_l, Option.toList_some, Option.toList_none, List.cons_append, List.nil_append, zcs_0, zcs_i, zcs_l, zcs_r, zle8, true_and, and_true, true_or, or_true, f1, no2, m_isLine, m_isReader, m_isTwo, m_isMinute, m_in, m_no, k64_0, k64_1, k64_2, k64_3, k64_15, k64_16, k64_23, i64_lt, e7, e9m, e11, i1_0, if_true, if_false, hr0, g1]
  · have hc0 := bl0 (show tn (pD I 28 3) < 2 ^ 31 by omega) ha0
    have hr0 := bm0 (show tn (pD I 28 3) < 1000 by omega) ha0
    refine mkI (v := (-2)) (I1 := I) (J1 := J) h (fun Q => by simp (disch := first | assumption | omega | (simp (disch := omega) only [zr_n, zr_s]; assumption)) only [x62_0, x62_1, x62_2_0, x62_5_8, x62_5_28, x62_8, x62_11, x62_14, x62_15, x62_16, x62_19, x62_22, x62_24, ↓reduceIte, zkl_i, zkl_r, zkl_n, zkl_z, zkl_l, Option.toList_some, Option.toList_none, List.cons_append, List.nil_append, zcs_0, zcs_i, zcs_l, zcs_r, zle8, true_and, and_true, true_or, or_true, c_below, e0, e3, e6, hc0, i1_0, if_true, if_false]) (Tr_refl I) (fun M J hM => ?_)
    obtain ⟨M1, f1, f2, f3, f4⟩ := rq_find (xl := xl) (J := J) h.1 hM
    obtain ⟨e7, e9m, e11, e14⟩ := MN_l f2
    refine ⟨M1, fun Q => ?_, f3, f4⟩
    simp (disch := first | assumption | omega | (simp (disch := omega) only [zr_n, zr_s]; assumption)) only [x172_0, x172_1, x172_4, x172_5, x172_6, x172_9, x172_12, x172_13, x172_14, x172_17, x172_20, x172_22, gc_65, ↓reduceIte, zkl_i, zkl_r, zkl_n, zkl_z, zkl_l, Option.toList_some, Option.toList_none, List.cons_append, List.nil_append, zcs_0, zcs_i, zcs_l, zcs_r, zle8, true_and, and_true, true_or, or_true, f1, no2, m_isLine, m_isReader, m_isTwo, m_isMinute, m_in, m_no, k64_0, k64_1, k64_2, k64_3, k64_15, k64_16, k64_23, i64_lt, e7, e9m, e11, i1_0, if_true, if_false, hr0]

theorem k_days (h : Inv I) : KI xl 66 182 [.ref 0, .int c, .int a, .int b] [.ref 65, .int c, .int a, .int b] I J := by
  obtain ⟨e0, e3, e6, e9⟩ := RC_8 h.1
  obtain ⟨b0, b3, b6, b9⟩ := RC_l h.1
  have h13 := h.1.1.2.2.2.2.1
  by_cases ha0 : IN a (17)
  · obtain ⟨k, hk0, rfl⟩ := ha0
    have hc0 : (if nI k < 0 then (0 : Int32) else if nI k < 17 then 1 else 0) = 1 := bl1 (n := 17) hk0 (by decide)
    have hr0 : (if nI k < 0 then (0 : Int32) else if 16 < nI k then 0 else 1) = 1 := in1 (m := 16) (by omega) (by decide)
    by_cases ha1 : IN b (2)
    · obtain ⟨w, hk1, rfl⟩ := ha1
      have hc1 : (if nI w < 0 then (0 : Int32) else if nI w < 2 then 1 else 0) = 1 := bl1 (n := 2) hk1 (by decide)
      have hr1 : (if nI w < 0 then (0 : Int32) else if 1 < nI w then 0 else 1) = 1 := in1 (m := 1) (by omega) (by decide)
      obtain ⟨X, x1, x2⟩ := c_days (xl := xl) (J := J) (s := c) (w := nI w) (RP_CD h.1.1) (show k ≤ 16 by omega) (w01 hk1)
      refine mkI h x1 x2 (fun M J hM => ?_)
      obtain ⟨M1, f1, f2, f3, f4⟩ := rq_find (xl := xl) (J := J) h.1 hM
      obtain ⟨e7, e9m, e11, e14⟩ := MN_l f2
      obtain ⟨M2, g1, g2, g3⟩ := m_daysOf (xl := xl) (J := J) (s := c) (w := nI w) h.1.1 f3 f2.1 (show k ≤ 16 by omega) (w01 hk1)
      refine ⟨M2, fun Q => ?_, RM_Fr g3 g2 h13 f3, Fr_trans f4 g3⟩
      simp (disch := first | assumption | omega | (simp (disch := omega) only [zr_n, zr_s]; assumption)) only [x182_0, x182_1, x182_4, x182_5, x182_6, x182_7, x182_10, x182_13, x182_16, x182_17, x182_20, x182_23, x182_24, x182_25, x182_26, x182_27, x182_30, x182_33, x182_35, gc_65, ↓reduceIte, zkl_i, zkl_r, zkl_n, zkl_z, zkl_l, Option.toList_some, Option.toList_none, List.cons_append, List.nil_append, zcs_0, zcs_i, zcs_l, zcs_r, zle8, true_and, and_true, true_or, or_true, f1, no2, m_isLine, m_isReader, m_isTwo, m_isMinute, m_in, m_no, k64_0, k64_1, k64_2, k64_3, k64_15, k64_16, k64_23, i64_lt, e7, e9m, e11, i1_0, if_true, if_false, hr0, hr1, g1]
    · have hc1 : (if b < 0 then (0 : Int32) else if b < 2 then 1 else 0) = 0 := bl0 (n := 2) (by decide) ha1
      have hr1 : (if b < 0 then (0 : Int32) else if 1 < b then 0 else 1) = 0 := in0 (m := 1) (by decide) ha1
      refine mkI (v := (-2)) (I1 := I) (J1 := J) h (fun Q => by simp (disch := first | assumption | omega | (simp (disch := omega) only [zr_n, zr_s]; assumption)) only [x66_0, x66_1, x66_3, x66_6, x66_9, x66_10, x66_11, x66_14, x66_17, x66_19, x66_20, x66_21_0, x66_24, x66_25_0, x66_28, x66_31, x66_32_0, x66_35, x66_36, x66_37, x66_40, x66_41_0, x66_44, x66_45_0, x66_48, x66_51, x66_52, x66_55, x66_56_0, x66_59, x66_60_0, x66_63, x66_66, x66_69, x66_70_0, x66_73, x66_76, x66_79, ↓reduceIte, zkl_i, zkl_r, zkl_n, zkl_z, zkl_l, Option.toList_some, Option.toList_none, List.cons_append, List.nil_append, zcs_0, zcs_i, zcs_l, zcs_r, zle8, true_and, and_true, true_or, or_true, c_below, e0, e3, e6, hc0, hc1, i1_0, if_true, if_false]) (Tr_refl I) (fun M J hM => ?_)
      obtain ⟨M1, f1, f2, f3, f4⟩ := rq_find (xl := xl) (J := J) h.1 hM
      obtain ⟨e7, e9m, e11, e14⟩ := MN_l f2
      refine ⟨M1, fun Q => ?_, f3, f4⟩
      simp (disch := first | assumption | omega | (simp (disch := omega) only [zr_n, zr_s]; assumption)) only [x182_0, x182_1, x182_4, x182_5, x182_6, x182_7, x182_10, x182_13, x182_16, x182_17, x182_20, x182_23, x182_24, x182_25, x182_26, x182_27, x182_30, x182_33, x182_35, gc_65, ↓reduceIte, zkl_i, zkl_r, zkl_n, zkl_z, zkl_l, Option.toList_some, Option.toList_none, List.cons_append, List.nil_append, zcs_0, zcs_i, zcs_l, zcs_r, zle8, true_and, and_true, true_or, or_true, f1, no2, m_isLine, m_isReader, m_isTwo, m_isMinute, m_in, m_no, k64_0, k64_1, k64_2, k64_3, k64_15, k64_16, k64_23, i64_lt, e7, e9m, e11, i1_0, if_true, if_false, hr0, hr1]
  · have hc0 : (if a < 0 then (0 : Int32) else if a < 17 then 1 else 0) = 0 := bl0 (n := 17) (by decide) ha0
    have hr0 : (if a < 0 then (0 : Int32) else if 16 < a then 0 else 1) = 0 := in0 (m := 16) (by decide) ha0
    refine mkI (v := (-2)) (I1 := I) (J1 := J) h (fun Q => by simp (disch := first | assumption | omega | (simp (disch := omega) only [zr_n, zr_s]; assumption)) only [x66_0, x66_1, x66_3, x66_6, x66_9, x66_10, x66_11, x66_14, x66_17, x66_19, x66_20, x66_21_0, x66_24, x66_25_0, x66_28, x66_31, x66_32_0, x66_35, x66_36, x66_37, x66_40, x66_41_0, x66_44, x66_45_0, x66_48, x66_51, x66_52, x66_55, x66_56_0, x66_59, x66_60_0, x66_63, x66_66, x66_69, x66_70_0, x66_73, x66_76, x66_79, ↓reduceIte, zkl_i, zkl_r, zkl_n, zkl_z, zkl_l, Option.toList_some, Option.toList_none, List.cons_append, List.nil_append, zcs_0, zcs_i, zcs_l, zcs_r, zle8, true_and, and_true, true_or, or_true, c_below, e0, e3, e6, hc0, i1_0, if_true, if_false]) (Tr_refl I) (fun M J hM => ?_)
    obtain ⟨M1, f1, f2, f3, f4⟩ := rq_find (xl := xl) (J := J) h.1 hM
    obtain ⟨e7, e9m, e11, e14⟩ := MN_l f2
    refine ⟨M1, fun Q => ?_, f3, f4⟩
    simp (disch := first | assumption | omega | (simp (disch := omega) only [zr_n, zr_s]; assumption)) only [x182_0, x182_1, x182_4, x182_5, x182_6, x182_7, x182_10, x182_13, x182_16, x182_17, x182_20, x182_23, x182_24, x182_25, x182_26, x182_27, x182_30, x182_33, x182_35, gc_65, ↓reduceIte, zkl_i, zkl_r, zkl_n, zkl_z, zkl_l, Option.toList_some, Option.toList_none, List.cons_append, List.nil_append, zcs_0, zcs_i, zcs_l, zcs_r, zle8, true_and, and_true, true_or, or_true, f1, no2, m_isLine, m_isReader, m_isTwo, m_isMinute, m_in, m_no, k64_0, k64_1, k64_2, k64_3, k64_15, k64_16, k64_23, i64_lt, e7, e9m, e11, i1_0, if_true, if_false, hr0]

theorem k_chance (h : Inv I) : KL xl 65 179 [.ref 0, .int c, .int a, .int b] [.ref 65, .int c, .int a, .int b] I J := by
  obtain ⟨e0, e3, e6, e9⟩ := RC_8 h.1
  obtain ⟨b0, b3, b6, b9⟩ := RC_l h.1
  have h13 := h.1.1.2.2.2.2.1
  by_cases ha0 : IN c (17)
  · obtain ⟨j, hk0, rfl⟩ := ha0
    have hc0 : (if nI j < 0 then (0 : Int32) else if nI j < 17 then 1 else 0) = 1 := bl1 (n := 17) hk0 (by decide)
    have hr0 : (if nI j < 0 then (0 : Int32) else if 16 < nI j then 0 else 1) = 1 := in1 (m := 16) (by omega) (by decide)
    by_cases ha1 : IN a (tn (pD I 28 0))
    · obtain ⟨k, hk1, rfl⟩ := ha1
      have hc1 := bl1 hk1 (show tn (pD I 28 0) < 2 ^ 31 by omega)
      have hr1 := bm1 hk1 (show tn (pD I 28 0) < 1000 by omega)
      by_cases ha2 : IN b (2)
      · obtain ⟨w, hk2, rfl⟩ := ha2
        have hc2 : (if nI w < 0 then (0 : Int32) else if nI w < 2 then 1 else 0) = 1 := bl1 (n := 2) hk2 (by decide)
        have hr2 : (if nI w < 0 then (0 : Int32) else if 1 < nI w then 0 else 1) = 1 := in1 (m := 1) (by omega) (by decide)
        obtain ⟨X, JX, x1, x2⟩ := q_chance (xl := xl) (J := J) (c := j) (w := w) h.1 (by omega) hk1 hk2
        refine mkL h x1 x2 (fun M J hM => ?_)
        obtain ⟨M1, f1, f2, f3, f4⟩ := rq_find (xl := xl) (J := J) h.1 hM
        obtain ⟨e7, e9m, e11, e14⟩ := MN_l f2
        obtain ⟨M2, g1, g2, g3⟩ := m_chanceOf (xl := xl) (J := J) (c := j) (w := nI w) f2.1 h13 (by omega) hk1
        refine ⟨M2, fun Q => ?_, RM_Fr g3 g2 h13 f3, Fr_trans f4 g3⟩
        simp (disch := first | assumption | omega | (simp (disch := omega) only [zr_n, zr_s]; assumption)) only [x179_0, x179_1, x179_4, x179_5, x179_6, x179_7, x179_10, x179_13, x179_16, x179_17, x179_18, x179_21, x179_24, x179_25, x179_28, x179_31, x179_32, x179_33, x179_34, x179_35, x179_38, x179_41, x179_43, x179_46, gc_65, ↓reduceIte, zkl_i, zkl_r, zkl_n, zkl_z, zkl_l, Option.toList_some, Option.toList_none, List.cons_append, List.nil_append, zcs_0, zcs_i, zcs_l, zcs_r, zle8, true_and, and_true, true_or, or_true, f1, no2, m_isLine, m_isReader, m_isTwo, m_isMinute, m_in, m_no, k64_0, k64_1, k64_2, k64_3, k64_15, k64_16, k64_23, i64_lt, e7, e9m, e11, i1_0, if_true, if_false, hr0, hr1, hr2, g1]
      · have hc2 : (if b < 0 then (0 : Int32) else if b < 2 then 1 else 0) = 0 := bl0 (n := 2) (by decide) ha2
        have hr2 : (if b < 0 then (0 : Int32) else if 1 < b then 0 else 1) = 0 := in0 (m := 1) (by decide) ha2
        refine mkL (v := (-9223372036854775806)) (I1 := I) (J1 := J) h (fun Q => by simp (disch := first | assumption | omega | (simp (disch := omega) only [zr_n, zr_s]; assumption)) only [x65_0, x65_1, x65_3, x65_6, x65_9, x65_10, x65_11_0, x65_14_8, x65_14_28, x65_17, x65_20, x65_23, x65_24, x65_25, x65_28, x65_31, x65_34, x65_35, x65_36, x65_37, x65_40, x65_41, x65_42, x65_43, x65_46, ↓reduceIte, zkl_i, zkl_r, zkl_n, zkl_z, zkl_l, Option.toList_some, Option.toList_none, List.cons_append, List.nil_append, zcs_0, zcs_i, zcs_l, zcs_r, zle8, true_and, and_true, true_or, or_true, c_below, e0, e3, e6, hc0, hc1, hc2, i1_0, if_true, if_false]) (Tr_refl I) (fun M J hM => ?_)
        obtain ⟨M1, f1, f2, f3, f4⟩ := rq_find (xl := xl) (J := J) h.1 hM
        obtain ⟨e7, e9m, e11, e14⟩ := MN_l f2
        refine ⟨M1, fun Q => ?_, f3, f4⟩
        simp (disch := first | assumption | omega | (simp (disch := omega) only [zr_n, zr_s]; assumption)) only [x179_0, x179_1, x179_4, x179_5, x179_6, x179_7, x179_10, x179_13, x179_16, x179_17, x179_18, x179_21, x179_24, x179_25, x179_28, x179_31, x179_32, x179_33, x179_34, x179_35, x179_38, x179_41, x179_43, x179_46, gc_65, ↓reduceIte, zkl_i, zkl_r, zkl_n, zkl_z, zkl_l, Option.toList_some, Option.toList_none, List.cons_append, List.nil_append, zcs_0, zcs_i, zcs_l, zcs_r, zle8, true_and, and_true, true_or, or_true, f1, no2, m_isLine, m_isReader, m_isTwo, m_isMinute, m_in, m_no, k64_0, k64_1, k64_2, k64_3, k64_15, k64_16, k64_23, i64_lt, e7, e9m, e11, i1_0, if_true, if_false, hr0, hr1, hr2]
    · have hc1 := bl0 (show tn (pD I 28 0) < 2 ^ 31 by omega) ha1
      have hr1 := bm0 (show tn (pD I 28 0) < 1000 by omega) ha1
      refine mkL (v := (-9223372036854775806)) (I1 := I) (J1 := J) h (fun Q => by simp (disch := first | assumption | omega | (simp (disch := omega) only [zr_n, zr_s]; assumption)) only [x65_0, x65_1, x65_3, x65_6, x65_9, x65_10, x65_11_0, x65_14_8, x65_14_28, x65_17, x65_20, x65_23, x65_24, x65_25, x65_28, x65_31, x65_34, x65_35, x65_36, x65_37, x65_40, x65_41, x65_42, x65_43, x65_46, ↓reduceIte, zkl_i, zkl_r, zkl_n, zkl_z, zkl_l, Option.toList_some, Option.toList_none, List.cons_append, List.nil_append, zcs_0, zcs_i, zcs_l, zcs_r, zle8, true_and, and_true, true_or, or_true, c_below, e0, e3, e6, hc0, hc1, i1_0, if_true, if_false]) (Tr_refl I) (fun M J hM => ?_)
      obtain ⟨M1, f1, f2, f3, f4⟩ := rq_find (xl := xl) (J := J) h.1 hM
      obtain ⟨e7, e9m, e11, e14⟩ := MN_l f2
      refine ⟨M1, fun Q => ?_, f3, f4⟩
      simp (disch := first | assumption | omega | (simp (disch := omega) only [zr_n, zr_s]; assumption)) only [x179_0, x179_1, x179_4, x179_5, x179_6, x179_7, x179_10, x179_13, x179_16, x179_17, x179_18, x179_21, x179_24, x179_25, x179_28, x179_31, x179_32, x179_33, x179_34, x179_35, x179_38, x179_41, x179_43, x179_46, gc_65, ↓reduceIte, zkl_i, zkl_r, zkl_n, zkl_z, zkl_l, Option.toList_some, Option.toList_none, List.cons_append, List.nil_append, zcs_0, zcs_i, zcs_l, zcs_r, zle8, true_and, and_true, true_or, or_true, f1, no2, m_isLine, m_isReader, m_isTwo, m_isMinute, m_in, m_no, k64_0, k64_1, k64_2, k64_3, k64_15, k64_16, k64_23, i64_lt, e7, e9m, e11, i1_0, if_true, if_false, hr0, hr1]
  · have hc0 : (if c < 0 then (0 : Int32) else if c < 17 then 1 else 0) = 0 := bl0 (n := 17) (by decide) ha0
    have hr0 : (if c < 0 then (0 : Int32) else if 16 < c then 0 else 1) = 0 := in0 (m := 16) (by decide) ha0
    refine mkL (v := (-9223372036854775806)) (I1 := I) (J1 := J) h (fun Q => by simp (disch := first | assumption | omega | (simp (disch := omega) only [zr_n, zr_s]; assumption)) only [x65_0, x65_1, x65_3, x65_6, x65_9, x65_10, x65_11_0, x65_14_8, x65_14_28, x65_17, x65_20, x65_23, x65_24, x65_25, x65_28, x65_31, x65_34, x65_35, x65_36, x65_37, x65_40, x65_41, x65_42, x65_43, x65_46, ↓reduceIte, zkl_i, zkl_r, zkl_n, zkl_z, zkl_l, Option.toList_some, Option.toList_none, List.cons_append, List.nil_append, zcs_0, zcs_i, zcs_l, zcs_r, zle8, true_and, and_true, true_or, or_true, c_below, e0, e3, e6, hc0, i1_0, if_true, if_false]) (Tr_refl I) (fun M J hM => ?_)
    obtain ⟨M1, f1, f2, f3, f4⟩ := rq_find (xl := xl) (J := J) h.1 hM
    obtain ⟨e7, e9m, e11, e14⟩ := MN_l f2
    refine ⟨M1, fun Q => ?_, f3, f4⟩
    simp (disch := first | assumption | omega | (simp (disch := omega) only [zr_n, zr_s]; assumption)) only [x179_0, x179_1, x179_4, x179_5, x179_6, x179_7, x179_10, x179_13, x179_16, x179_17, x179_18, x179_21, x179_24, x179_25, x179_28, x179_31, x179_32, x179_33, x179_34, x179_35, x179_38, x179_41, x179_43, x179_46, gc_65, ↓reduceIte, zkl_i, zkl_r, zkl_n, zkl_z, zkl_l, Option.toList_some, Option.toList_none, List.cons_append, List.nil_append, zcs_0, zcs_i, zcs_l, zcs_r, zle8, true_and, and_true, true_or, or_true, f1, no2, m_isLine, m_isReader, m_isTwo, m_isMinute, m_in, m_no, k64_0, k64_1, k64_2, k64_3, k64_15, k64_16, k64_23, i64_lt, e7, e9m, e11, i1_0, if_true, if_false, hr0]

end
