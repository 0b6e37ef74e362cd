/-! ===== questions: what is asked rightly, what not ===== -/
def IN (a : Int32) (n : Nat) : Prop := ∃ k, k < n ∧ a = nI k
theorem IN_nlt {a : Int32} {n : Nat} (hn : n < 2 ^ 31) (h : ¬ IN a n) : a < 0 ∨ ¬ a < nI n := by
  rcases pk_ix a hn with h1 | h1 | h1
  · exact Or.inl h1
  · exact Or.inr (nlt32.mp h1)
  · exact absurd h1 h
theorem bl1 {k n : Nat} (h : k < n) (hn : n < 2 ^ 31) : (if nI k < 0 then (0 : Int32) else if nI k < nI n then 1 else 0) = 1 := by
  rw [if_neg (nI_pos (by omega)), if_pos ((nI_ltI (by omega) hn).mpr h)]
theorem bl0 {a : Int32} {n : Nat} (hn : n < 2 ^ 31) (h : ¬ IN a n) : (if a < 0 then (0 : Int32) else if a < nI n then 1 else 0) = 0 := by
  rcases IN_nlt hn h with z | z
  · rw [if_pos z]
  · by_cases z2 : a < 0
    · rw [if_pos z2]
    · rw [if_neg z2, if_neg z]
theorem in1 {k m : Nat} (h : k ≤ m) (hm : m < 2 ^ 31) : (if nI k < 0 then (0 : Int32) else if nI m < nI k then 0 else 1) = 1 := by
  rw [if_neg (nI_pos (by omega)), if_neg]
  rw [nI_ltI hm (by omega)]
  omega
theorem in0 {a : Int32} {m : Nat} (hm : m + 1 < 2 ^ 31) (h : ¬ IN a (m + 1)) : (if a < 0 then (0 : Int32) else if nI m < a then 0 else 1) = 0 := by
  by_cases z2 : a < 0
  · rw [if_pos z2]
  · rw [if_neg z2, if_pos]
    rcases IN_nlt hm h with z | z
    · exact absurd z z2
    · obtain ⟨j, hj, rfl⟩ := nI_of z2
      rw [nI_ltI hj hm] at z
      exact (nI_ltI (by omega) hj).mpr (by omega)
theorem bm1 {k n : Nat} (h : k < n) (hn : n < 1000) : bt (nI k) 0 (nI n - 1) = 1 := by
  rw [show n = (n - 1) + 1 by omega, nI_pred]
  exact in1 (m := n - 1) (by omega) (by omega)
theorem bm0 {a : Int32} {n : Nat} (hn : n < 1000) (h : ¬ IN a n) : bt a 0 (nI n - 1) = 0 := by
  by_cases z2 : a < 0
  · unfold bt; rw [if_pos z2]
  · by_cases hz : n = 0
    · subst hz
      unfold bt
      rw [if_neg z2, if_pos]
      obtain ⟨j, hj, rfl⟩ := nI_of z2
      rw [Int32.lt_iff_toInt_lt, nI_toInt hj]
      have : (nI 0 - 1).toInt = -1 := by decide
      omega
    · rw [show n = (n - 1) + 1 by omega, nI_pred]
      refine in0 (m := n - 1) (by omega) ?_
      rw [show n - 1 + 1 = n by omega]
      exact h
theorem nlt_4 {k : Nat} (h : k < 2 ^ 31) : (nI k < 4) = (k < 4) := propext (nI_ltI h (by decide))
theorem nlt_16 {k : Nat} (h : k < 2 ^ 31) : (nI k < 16) = (k < 16) := propext (nI_ltI h (by decide))
theorem nlt_17 {k : Nat} (h : k < 2 ^ 31) : (nI k < 17) = (k < 17) := propext (nI_ltI h (by decide))
theorem Fr_RM {I M M' : zI} (h : Fr M M') (h13 : M' 65 13 = M 65 13) (h14 : M' 65 14 = M 65 14) (h16 : M' 65 16 = M 65 16) (g : RM I M) : RM I M' := by
  obtain ⟨g1, g2, g3, g4, g5, g6, g7⟩ := g
  have h0 := h
  obtain ⟨f1, f2, f3⟩ := h
  refine ⟨?_, ?_, ?_, ?_, SM_Fr h0 g5, ?_, by rw [f2]; exact g7⟩
  · unfold TXM; rw [f1 70 (by omega), f1 71 (by omega)]; exact g1
  · unfold TXM; rw [f1 70 (by omega), f1 71 (by omega)]; exact g2
  · unfold TXM; rw [f1 70 (by omega), f1 71 (by omega)]; exact g3
  · unfold EVm
    rw [f1 75 (by omega), h13, h14, h16]
    exact g4
  · unfold SHm
    rw [f1 66 (by omega), f1 67 (by omega), f1 68 (by omega)]
    exact g6
def flD (I : zI) (t : Nat) : Int32 := if t = 0 then sp_fp 1001 1 (I 3) (tn (I 2 3)) else if t = 1 then sp_fp 1002 1 (I 5) (tn (I 4 3)) else sp_fp 1003 0 (I 7) (tn (I 6 3))
def rdD (D : zI) (q w : Nat) : Int32 := if w = 0 then D 31 q else D 32 q
def shD (D : zI) (q w : Nat) : Int32 := if q < tn (D 28 6) then (if w = 0 then D 33 q else D 34 q) else -1
def cnD (I : zI) (w : Nat) : Int32 := if w = 0 then I 8 0 else if w = 1 then I 8 3 else if w = 2 then I 8 6 else if w = 3 then I 2 3 else if w = 4 then I 4 3 else if w = 5 then I 6 3 else if w = 6 then I 8 9 else if w = 7 then I 48 0 else I 0 11
section
variable {xl : Nat} {J : zJ} {Q : zQ} {I : zI} {k w : Nat}
theorem RC_8 (h : RC I) : I 8 0 = nI (tn (pD I 28 0)) ∧ I 8 3 = nI (tn (pD I 28 3)) ∧ I 8 6 = nI (tn (pD I 28 6)) ∧ I 8 9 = nI (tn (pD I 28 9)) := CD_8 (RP_CD h.1) (Tr_refl I)
theorem RC_l (h : RC I) : tn (pD I 28 0) ≤ 10 ∧ tn (pD I 28 3) ≤ 6 ∧ tn (pD I 28 6) ≤ 16 ∧ tn (pD I 28 9) ≤ 8 := by
  obtain ⟨b0, -, b3, -, -, -, b9, -⟩ := Pk_l (RP_CD h.1).2.1
  exact ⟨b0, b3, RP_16 h.1, b9⟩
theorem q_line (h : RC I) (hk : k < tn (pD I 28 0)) (hw : w < 3) : Rn (zG xl) 41 0 [.ref 0, .int (nI k), .int (nI w), .null] [] I J Q = Q (some (.int (lnD (pD I) k (nI w)))) I J := by
  obtain ⟨e0, e3, e6, e9⟩ := RC_8 h
  obtain ⟨b0, b3, b6, b9⟩ := RC_l h
  have h1 := bl1 hk (by omega)
  have h2 : (if nI w < 0 then (0 : Int32) else if nI w < 3 then 1 else 0) = 1 := bl1 (n := 3) hw (by decide)
  have hs : ixN (I 9 k) 3 := (RP_CD h.1).2.1.2.2.2.2.2 k hk
  have hh : I 1000 (I 9 k).toNatClampNeg = 1 + 2 * I 9 k := HD_k h.1.2.2.2.2.2 hs
  simp (disch := first | assumption | omega | (simp (disch := omega) only [zr_n, zr_s]; assumption)) only [x41_0, x41_1, x41_2_0, x41_5_8, x41_5_28, x41_8, x41_11, x41_14, x41_15, x41_16, x41_19, x41_22, x41_24, x41_25, x41_26_0, x41_29_8, x41_29_28, x41_32, x41_33, x41_34, x41_35, x41_36, x41_39, x41_40, x41_41, x41_42, x41_43, x41_46, x41_47_0, x41_50_8, x41_50_28, x41_53, x41_54, x41_55, x41_58, x41_61, x41_62, x41_63, bi_9, bs_9, bi_10, bs_10, bi_1000, ↓reduceIte, zkl_i, zkl_r, zkl_n, zkl_z, zkl_l, Option.toList_some, Option.toList_none, List.cons_append, List.nil_append, zcs_0, zcs_i, zcs_l, zcs_r, zle8, true_and, and_true, true_or, or_true, c_below, e0, h1, h2, if_false, i1_0, ixN_nI, nI_clamp, hs, hh]
  simp only [ite_QQ Q, ite_sm, ite_vi, ite_vl, ite_self]
  rfl
theorem q_reader (h : RC I) (hk : k < tn (pD I 28 3)) (hw : w < 2) : Rn (zG xl) 42 0 [.ref 0, .int (nI k), .int (nI w)] [] I J Q = Q (some (.int (rdD (pD I) k w))) I J := by
  obtain ⟨e0, e3, e6, e9⟩ := RC_8 h
  obtain ⟨b0, b3, b6, b9⟩ := RC_l h
  have h1 := bl1 hk (by omega)
  have h2 : (if nI w < 0 then (0 : Int32) else if nI w < 2 then 1 else 0) = 1 := bl1 (n := 2) hw (by decide)
  simp (disch := first | assumption | omega | (simp (disch := omega) only [zr_n, zr_s]; assumption)) only [x42_0, x42_1, x42_2_0, x42_5_8, x42_5_28, x42_8, x42_11, x42_14, x42_15, x42_16, x42_19, x42_22, x42_24, x42_25, x42_26, x42_29, x42_30_0, x42_33_8, x42_33_28, x42_36, x42_37, x42_38, x42_41, x42_42_0, x42_45_8, x42_45_28, x42_48, x42_49, x42_50, bi_11, bs_11, bi_12, bs_12, ↓reduceIte, zkl_i, zkl_r, zkl_n, zkl_z, zkl_l, Option.toList_some, Option.toList_none, List.cons_append, List.nil_append, zcs_0, zcs_i, zcs_l, zcs_r, zle8, true_and, and_true, true_or, or_true, c_below, e3, h1, h2, if_false, i1_0, ixN_nI, nI_clamp, ne_0]
  simp only [ite_QQ Q, ite_sm, ite_vi, ite_vl, ite_self]
  rfl
theorem q_shift (h : RC I) (hk : k < 16) (hw : w < 2) : Rn (zG xl) 43 0 [.ref 0, .int (nI k), .int (nI w)] [] I J Q = Q (some (.int (shD (pD I) k w))) I J := by
  obtain ⟨e0, e3, e6, e9⟩ := RC_8 h
  obtain ⟨b0, b3, b6, b9⟩ := RC_l h
  have h1 : (if nI k < 0 then (0 : Int32) else if nI k < 16 then 1 else 0) = 1 := bl1 (n := 16) hk (by decide)
  have h2 : (if nI w < 0 then (0 : Int32) else if nI w < 2 then 1 else 0) = 1 := bl1 (n := 2) hw (by decide)
  simp (disch := first | assumption | omega | (simp (disch := omega) only [zr_n, zr_s]; assumption)) only [x43_0, x43_1, x43_3, x43_6, x43_9, x43_10, x43_11, x43_14, x43_17, x43_19, x43_20, x43_21, x43_22_0, x43_25_8, x43_25_28, x43_28, x43_31, x43_32, x43_33, x43_34, x43_37, x43_38_0, x43_41_8, x43_41_28, x43_44, x43_45, x43_46, x43_49, x43_50_0, x43_53_8, x43_53_28, x43_56, x43_57, x43_58, bi_13, bs_13, bi_14, bs_14, ↓reduceIte, zkl_i, zkl_r, zkl_n, zkl_z, zkl_l, Option.toList_some, Option.toList_none, List.cons_append, List.nil_append, zcs_0, zcs_i, zcs_l, zcs_r, zle8, true_and, and_true, true_or, or_true, c_below, e6, h1, h2, if_false, i1_0, ixN_nI, nI_clamp, ne_0, nI_ltI]
  simp only [ite_QQ Q, ite_sm, ite_vi, ite_vl, ite_self]
  rfl
theorem q_margin (h : RC I) (hk : k < tn (pD I 28 0)) (hw : w < 3) : Rn (zG xl) 48 0 [.ref 0, .int (nI k), .int (nI w)] [] I J Q = Q (some (.int (mgD (pD I) k (nI w)))) I J := by
  obtain ⟨e0, e3, e6, e9⟩ := RC_8 h
  obtain ⟨b0, b3, b6, b9⟩ := RC_l h
  have h1 := bl1 hk (by omega)
  have h2 : (if nI w < 0 then (0 : Int32) else if nI w < 3 then 1 else 0) = 1 := bl1 (n := 3) hw (by decide)
  obtain ⟨c1, c2, c3⟩ := h.2.2.2.2.2.1 k (by omega)
  simp (disch := first | assumption | omega | (simp (disch := omega) only [zr_n, zr_s]; assumption)) only [x48_0, x48_1, x48_2_0, x48_5_8, x48_5_28, x48_8, x48_11, x48_14, x48_15, x48_16, x48_19, x48_22, x48_24, x48_25, x48_26, x48_29, x48_30_0, x48_33_18, x48_33_38, x48_36, x48_37, x48_38, x48_39, x48_40, x48_41, x48_44, x48_45_0, x48_48_18, x48_48_38, x48_51, x48_52, x48_53, x48_56, x48_57_0, x48_60_18, x48_60_38, x48_63, x48_64, x48_65, bi_19, bs_19, bi_20, bs_20, bi_21, bs_21, ↓reduceIte, zkl_i, zkl_r, zkl_n, zkl_z, zkl_l, Option.toList_some, Option.toList_none, List.cons_append, List.nil_append, zcs_0, zcs_i, zcs_l, zcs_r, zle8, true_and, and_true, true_or, or_true, c_below, e0, h1, h2, if_false, i1_0, ixN_nI, nI_clamp, show I 19 k = Nt (pD I) 39 k from c1, show I 20 k = Nt (pD I) 40 k from c2, show I 21 k = Nt (pD I) 41 k from c3]
  simp only [ite_QQ Q, ite_sm, ite_vi, ite_vl, ite_self]
  rfl
theorem q_night (h : RC I) (hk : k < tn (pD I 28 3)) (hw : w < 4) : Rn (zG xl) 49 0 [.ref 0, .int (nI k), .int (nI w)] [] I J Q = Q (some (.int (ngD (pD I) k (nI w)))) I J := by
  obtain ⟨e0, e3, e6, e9⟩ := RC_8 h
  obtain ⟨b0, b3, b6, b9⟩ := RC_l h
  have h1 := bl1 hk (by omega)
  obtain ⟨c1, c2, c3, c4⟩ := h.2.2.2.2.2.2.1 k (by omega)
  have t : ztb 88 (nI 0) [48, 58, 68, 78] 0 = 48 ∧ ztb 88 (nI 1) [48, 58, 68, 78] 0 = 58 ∧ ztb 88 (nI 2) [48, 58, 68, 78] 0 = 68 ∧ ztb 88 (nI 3) [48, 58, 68, 78] 0 = 78 := by decide
  have hw : w = 0 ∨ w = 1 ∨ w = 2 ∨ w = 3 := by omega
  rcases hw with rfl | rfl | rfl | rfl <;> (simp (disch := first | assumption | omega | (simp (disch := omega) only [zr_n, zr_s]; assumption)) only [x49_0, x49_1, x49_2_0, x49_5_8, x49_5_28, x49_8, x49_11, x49_14, x49_16, x49_17, x49_18, x49_48, x49_49_0, x49_52_18, x49_52_38, x49_55, x49_56, x49_57, x49_58, x49_59_0, x49_62_18, x49_62_38, x49_65, x49_66, x49_67, x49_68, x49_69_0, x49_72_18, x49_72_38, x49_75, x49_76, x49_77, x49_78, x49_79_0, x49_82_18, x49_82_38, x49_85, x49_86, x49_87, x49_88, x49_90, bi_22, bs_22, bi_23, bs_23, bi_24, bs_24, bi_25, bs_25, ↓reduceIte, zkl_i, zkl_r, zkl_n, zkl_z, zkl_l, Option.toList_some, Option.toList_none, List.cons_append, List.nil_append, zcs_0, zcs_i, zcs_l, zcs_r, zle8, true_and, and_true, true_or, or_true, c_below, e3, h1, if_false, i1_0, ixN_nI, nI_clamp, t, show I 22 k = Nt (pD I) 42 k from c1, show I 23 k = Nt (pD I) 43 k from c2, show I 24 k = Nt (pD I) 44 k from c3, show I 25 k = Nt (pD I) 45 k from c4]) <;> rfl
theorem q_done (h : RC I) (hk : k < tn (pD I 28 6)) (hw : w < 2) : Rn (zG xl) 50 0 [.ref 0, .int (nI k), .int (nI w)] [] I J Q = Q (some (.int (dnD (pD I) k (nI w)))) I J := by
  obtain ⟨e0, e3, e6, e9⟩ := RC_8 h
  obtain ⟨b0, b3, b6, b9⟩ := RC_l h
  have h1 := bl1 hk (by omega)
  have h2 : (if nI w < 0 then (0 : Int32) else if nI w < 2 then 1 else 0) = 1 := bl1 (n := 2) hw (by decide)
  obtain ⟨c1, c2⟩ := h.2.2.2.2.2.2.2 k hk
  simp (disch := first | assumption | omega | (simp (disch := omega) only [zr_n, zr_s]; assumption)) only [x50_0, x50_1, x50_2_0, x50_5_8, x50_5_28, x50_8, x50_11, x50_14, x50_15, x50_16, x50_19, x50_22, x50_24, x50_25, x50_26, x50_29, x50_30_0, x50_33_18, x50_33_38, x50_36, x50_37, x50_38, x50_41, x50_42_0, x50_45_18, x50_45_38, x50_48, x50_49, x50_50, bi_26, bs_26, bi_27, bs_27, ↓reduceIte, zkl_i, zkl_r, zkl_n, zkl_z, zkl_l, Option.toList_some, Option.toList_none, List.cons_append, List.nil_append, zcs_0, zcs_i, zcs_l, zcs_r, zle8, true_and, and_true, true_or, or_true, c_below, e6, h1, h2, if_false, i1_0, ixN_nI, nI_clamp, show I 26 k = Nt (pD I) 46 k from c1, show I 27 k = Nt (pD I) 47 k from c2]
  simp only [ite_QQ Q, ite_sm, ite_vi, ite_vl, ite_self]
  rfl
def maD (D : zI) (m : Nat) : Int32 := onF 10 (mkD D (nI m)) 0
theorem q_marked (h : RC I) (hk : k < 24) : Rn (zG xl) 51 0 [.ref 0, .int (nI k)] [] I J Q = Q (some (.int (maD (pD I) k))) I J := by
  have h1 : (if nI k < 0 then (0 : Int32) else if nI k < 24 then 1 else 0) = 1 := bl1 (n := 24) hk (by decide)
  have hd := fun Q => d_markedBy_18 (xl := xl) (J := J) (Q := Q) (m := nI k) h.2.2.2
  obtain ⟨j, hj, ej⟩ := Pk_mk (m := nI k) (RP_CD h.1).2.1
  simp (disch := first | assumption | omega | (simp (disch := omega) only [zr_n, zr_s]; assumption)) only [x51_0, x51_1, x51_3, x51_6, x51_9, x51_10_0, x51_13, x51_14, x51_17, x51_20, x51_23, x51_25, gc_18, ↓reduceIte, zkl_i, zkl_r, zkl_n, zkl_z, zkl_l, Option.toList_some, Option.toList_none, List.cons_append, List.nil_append, zcs_0, zcs_i, zcs_l, zcs_r, zle8, true_and, and_true, true_or, or_true, c_below, h1, if_false, i1_0, hd, c_bitCount]
  rw [maD, ej, (on_ok hj).2]
theorem q_harm (h : RC I) : Rn (zG xl) 52 0 [.ref 0] [] I J Q = Q (some (.int (hD (pD I)))) I J := by
  have hd := fun Q => d_harmOf_18 (xl := xl) (J := J) (Q := Q) h.2.2.2
  simp (disch := first | assumption | omega | (simp (disch := omega) only [zr_n, zr_s]; assumption)) only [x52_0, x52_1_0, x52_4, x52_5_0, x52_8, x52_11, gc_18, ↓reduceIte, zkl_i, zkl_r, zkl_n, zkl_z, zkl_l, Option.toList_some, Option.toList_none, List.cons_append, List.nil_append, zcs_0, zcs_i, zcs_l, zcs_r, zle8, true_and, and_true, true_or, or_true, hd]
theorem q_worst (h : RC I) : Rn (zG xl) 53 0 [.ref 0, .null, .null] [] I J Q = Q (some (.int (wsD (pD I)))) I J := by
  obtain ⟨e0, e3, e6, e9⟩ := RC_8 h
  obtain ⟨b0, b3, b6, b9⟩ := RC_l h
  have ew : wsF (I 19) (I 10) (tn (pD I 28 0)) = wsF (Nt (pD I) 39) (pD I 30) (tn (pD I 28 0)) := wsF_c (by omega) (fun k hk => ⟨(h.2.2.2.2.2.1 k (by omega)).1, rfl⟩)
  rw [wsD, ← ew]
  simp only [x53_0, x53_1, x53_2, x53_3, ↓reduceIte, zkl_i, zkl_r, zkl_n, zkl_z, zkl_l, Option.toList_some, Option.toList_none, List.cons_append, List.nil_append, zcs_0, zcs_i, zcs_l, zcs_r, zle8, true_and, and_true, true_or, or_true]
  rw [wsF]
  generalize hn : tn (pD I 28 0) = n at e0 b0
  refine (fo_loop (R := fun k s => Rn (zG xl) 53 4 [.ref 0, .int s, .int (nI k)] [] I J Q) (E := fun s => Q (some (.int s)) I J) (n := n) (fun k s => s = -1 ∨ ∃ j, j < k ∧ s = nI j) (fun k s hk hP => ?_) (fun s _ => ?_) n 0 (-1) (Nat.zero_add _) (Or.inl rfl)).1
  · rw [h53_4]
    rcases hP with rfl | ⟨j, hj, rfl⟩
    · by_cases q1 : I 19 k = -1
      · refine ⟨?_, Or.inr ⟨k, by omega, by rw [if_pos q1, if_pos rfl]⟩⟩
        simp (disch := first | assumption | omega | (simp (disch := omega) only [zr_n, zr_s]; assumption)) only [x53_5, x53_6_0, x53_9_8, x53_9_28, x53_12, x53_15, x53_16_0, x53_19_18, x53_19_38, x53_22, x53_23, x53_24, x53_25, x53_28, x53_29, x53_30, x53_33, x53_34_0, x53_37_8, x53_37_28, x53_40, x53_41, x53_42, x53_43_0, x53_46_8, x53_46_28, x53_49, x53_50, x53_51, x53_54, x53_55, x53_56, x53_59, bi_19, bs_19, bi_10, bs_10, ↓reduceIte, zkl_i, zkl_r, zkl_n, zkl_z, zkl_l, Option.toList_some, Option.toList_none, List.cons_append, List.nil_append, zcs_0, zcs_i, zcs_l, zcs_r, zle8, true_and, and_true, true_or, or_true, e0, nI_ltI, hk, if_true, ixN_nI, nI_clamp, na_1, q1]
      · refine ⟨?_, Or.inl (by rw [if_neg q1])⟩
        simp (disch := first | assumption | omega | (simp (disch := omega) only [zr_n, zr_s]; assumption)) only [x53_5, x53_6_0, x53_9_8, x53_9_28, x53_12, x53_15, x53_16_0, x53_19_18, x53_19_38, x53_22, x53_23, x53_24, x53_25, x53_28, x53_29, x53_30, x53_33, x53_34_0, x53_37_8, x53_37_28, x53_40, x53_41, x53_42, x53_43_0, x53_46_8, x53_46_28, x53_49, x53_50, x53_51, x53_54, x53_55, x53_56, x53_59, bi_19, bs_19, bi_10, bs_10, ↓reduceIte, zkl_i, zkl_r, zkl_n, zkl_z, zkl_l, Option.toList_some, Option.toList_none, List.cons_append, List.nil_append, zcs_0, zcs_i, zcs_l, zcs_r, zle8, true_and, and_true, true_or, or_true, e0, nI_ltI, hk, if_true, ixN_nI, nI_clamp, na_1, q1, if_false]
    · have ej : tn (nI j) = j := nI_clamp (by omega)
      have nj : ¬ nI j = -1 := by rw [ne_m1 (by omega)]; exact fun z => z
      by_cases q1 : I 19 k = -1
      · by_cases q3 : I 10 j < I 10 k
        · refine ⟨?_, Or.inr ⟨k, by omega, by rw [if_pos q1, if_neg nj, ej, if_pos q3]⟩⟩
          simp (disch := first | assumption | omega | (simp (disch := omega) only [zr_n, zr_s]; assumption)) only [x53_5, x53_6_0, x53_9_8, x53_9_28, x53_12, x53_15, x53_16_0, x53_19_18, x53_19_38, x53_22, x53_23, x53_24, x53_25, x53_28, x53_29, x53_30, x53_33, x53_34_0, x53_37_8, x53_37_28, x53_40, x53_41, x53_42, x53_43_0, x53_46_8, x53_46_28, x53_49, x53_50, x53_51, x53_54, x53_55, x53_56, x53_59, bi_19, bs_19, bi_10, bs_10, ↓reduceIte, zkl_i, zkl_r, zkl_n, zkl_z, zkl_l, Option.toList_some, Option.toList_none, List.cons_append, List.nil_append, zcs_0, zcs_i, zcs_l, zcs_r, zle8, true_and, and_true, true_or, or_true, e0, nI_ltI, hk, if_true, ixN_nI, nI_clamp, na_1, q1, nj, if_false, q3, ej]
        · refine ⟨?_, Or.inr ⟨j, by omega, by rw [if_pos q1, if_neg nj, ej, if_neg q3]⟩⟩
          simp (disch := first | assumption | omega | (simp (disch := omega) only [zr_n, zr_s]; assumption)) only [x53_5, x53_6_0, x53_9_8, x53_9_28, x53_12, x53_15, x53_16_0, x53_19_18, x53_19_38, x53_22, x53_23, x53_24, x53_25, x53_28, x53_29, x53_30, x53_33, x53_34_0, x53_37_8, x53_37_28, x53_40, x53_41, x53_42, x53_43_0, x53_46_8, x53_46_28, x53_49, x53_50, x53_51, x53_54, x53_55, x53_56, x53_59, bi_19, bs_19, bi_10, bs_10, ↓reduceIte, zkl_i, zkl_r, zkl_n, zkl_z, zkl_l, Option.toList_some, Option.toList_none, List.cons_append, List.nil_append, zcs_0, zcs_i, zcs_l, zcs_r, zle8, true_and, and_true, true_or, or_true, e0, nI_ltI, hk, if_true, ixN_nI, nI_clamp, na_1, q1, nj, if_false, q3, ej]
      · refine ⟨?_, Or.inr ⟨j, by omega, by rw [if_neg q1]⟩⟩
        simp (disch := first | assumption | omega | (simp (disch := omega) only [zr_n, zr_s]; assumption)) only [x53_5, x53_6_0, x53_9_8, x53_9_28, x53_12, x53_15, x53_16_0, x53_19_18, x53_19_38, x53_22, x53_23, x53_24, x53_25, x53_28, x53_29, x53_30, x53_33, x53_34_0, x53_37_8, x53_37_28, x53_40, x53_41, x53_42, x53_43_0, x53_46_8, x53_46_28, x53_49, x53_50, x53_51, x53_54, x53_55, x53_56, x53_59, bi_19, bs_19, bi_10, bs_10, ↓reduceIte, zkl_i, zkl_r, zkl_n, zkl_z, zkl_l, Option.toList_some, Option.toList_none, List.cons_append, List.nil_append, zcs_0, zcs_i, zcs_l, zcs_r, zle8, true_and, and_true, true_or, or_true, e0, nI_ltI, hk, if_true, ixN_nI, nI_clamp, na_1, q1, if_false]
  · rw [h53_4]
    simp (disch := first | assumption | omega | (simp (disch := omega) only [zr_n, zr_s]; assumption)) only [x53_5, x53_6_0, x53_9_8, x53_9_28, x53_12, x53_15, x53_16_0, x53_19_18, x53_19_38, x53_22, x53_23, x53_24, x53_25, x53_28, x53_29, x53_30, x53_33, x53_34_0, x53_37_8, x53_37_28, x53_40, x53_41, x53_42, x53_43_0, x53_46_8, x53_46_28, x53_49, x53_50, x53_51, x53_54, x53_55, x53_56, x53_59, x53_62, x53_63, ↓reduceIte, zkl_i, zkl_r, zkl_n, zkl_z, zkl_l, Option.toList_some, Option.toList_none, List.cons_append, List.nil_append, zcs_0, zcs_i, zcs_l, zcs_r, zle8, true_and, and_true, true_or, or_true, e0, nI_ltI, Nat.lt_irrefl, if_false]
theorem q_left (h : RC I) (hw : w < 2) : Rn (zG xl) 54 0 [.ref 0, .int (nI w)] [] I J Q = Q (some (.int (if nI w = 0 then urD (pD I) else pdD (pD I)))) I J := by
  have h2 : (if nI w < 0 then (0 : Int32) else if nI w < 2 then 1 else 0) = 1 := bl1 (n := 2) hw (by decide)
  have hd1 := fun Q => d_unread_18 (xl := xl) (J := J) (Q := Q) h.2.2.2
  have hd2 := fun Q => d_passed_18 (xl := xl) (J := J) (Q := Q) h.2.2.2
  simp (disch := first | assumption | omega | (simp (disch := omega) only [zr_n, zr_s]; assumption)) only [x54_0, x54_1, x54_2, x54_5, x54_8, x54_10, x54_11, x54_12, x54_15, x54_16_0, x54_19, x54_22, x54_25, x54_26_0, x54_29, x54_32, gc_18, ↓reduceIte, zkl_i, zkl_r, zkl_n, zkl_z, zkl_l, Option.toList_some, Option.toList_none, List.cons_append, List.nil_append, zcs_0, zcs_i, zcs_l, zcs_r, zle8, true_and, and_true, true_or, or_true, c_below, h2, if_false, i1_0, hd1, hd2]
  simp only [ite_QQ Q, ite_sm, ite_vi, ite_vl, ite_self]
theorem q_fault (h : RC I) (hw : w < 3) : Rn (zG xl) 40 0 [.ref 0, .int (nI w)] [] I J Q = Q (some (.int (flD I w))) I J := by
  have h2 : (if nI w < 0 then (0 : Int32) else if nI w < 3 then 1 else 0) = 1 := bl1 (n := 3) hw (by decide)
  obtain ⟨⟨t1, t2, t3, -⟩, -⟩ := h
  have f1 := fun Q => c_faultPlace_2 (xl := xl) (J := J) (Q := Q) t1.2.1 t1.1
  have f2 := fun Q => c_faultPlace_4 (xl := xl) (J := J) (Q := Q) t2.2.1 t2.1
  have f3 := fun Q => c_faultPlace_6 (xl := xl) (J := J) (Q := Q) t3.2.1 t3.1
  rw [t1.2.2.1] at f1
  rw [t2.2.2.1] at f2
  rw [t3.2.2.1] at f3
  have hw : w = 0 ∨ w = 1 ∨ w = 2 := by omega
  rcases hw with rfl | rfl | rfl
  · simp (disch := first | assumption | omega | (simp (disch := omega) only [zr_n, zr_s]; assumption)) only [x40_0, x40_1, x40_2, x40_5, x40_8, x40_9_0, x40_12, x40_13, x40_14, x40_17, x40_20, x40_22, br_1, aa_1_0, aa_1_1, aa_1_2, gc_2, ↓reduceIte, zkl_i, zkl_r, zkl_n, zkl_z, zkl_l, Option.toList_some, Option.toList_none, List.cons_append, List.nil_append, zcs_0, zcs_i, zcs_l, zcs_r, zle8, true_and, and_true, true_or, or_true, c_below, h2, if_false, i1_0, ixN_nI, nI_clamp, f1]
    rfl
  · simp (disch := first | assumption | omega | (simp (disch := omega) only [zr_n, zr_s]; assumption)) only [x40_0, x40_1, x40_2, x40_5, x40_8, x40_9_0, x40_12, x40_13, x40_14, x40_17, x40_20, x40_22, br_1, aa_1_0, aa_1_1, aa_1_2, gc_4, ↓reduceIte, zkl_i, zkl_r, zkl_n, zkl_z, zkl_l, Option.toList_some, Option.toList_none, List.cons_append, List.nil_append, zcs_0, zcs_i, zcs_l, zcs_r, zle8, true_and, and_true, true_or, or_true, c_below, h2, if_false, i1_0, ixN_nI, nI_clamp, f2]
    rfl
  · simp (disch := first | assumption | omega | (simp (disch := omega) only [zr_n, zr_s]; assumption)) only [x40_0, x40_1, x40_2, x40_5, x40_8, x40_9_0, x40_12, x40_13, x40_14, x40_17, x40_20, x40_22, br_1, aa_1_0, aa_1_1, aa_1_2, gc_6, ↓reduceIte, zkl_i, zkl_r, zkl_n, zkl_z, zkl_l, Option.toList_some, Option.toList_none, List.cons_append, List.nil_append, zcs_0, zcs_i, zcs_l, zcs_r, zle8, true_and, and_true, true_or, or_true, c_below, h2, if_false, i1_0, ixN_nI, nI_clamp, f3]
    rfl
theorem q_count (hw : w < 9) : Rn (zG xl) 73 0 [.ref 0, .int (nI w)] [] I J Q = Q (some (.int (cnD I w))) I J := by
  have t : ztb 109 (nI 0) [52, 60, 68, 76, 76, 76, 88, 96, 104] 0 = 52 ∧ ztb 109 (nI 1) [52, 60, 68, 76, 76, 76, 88, 96, 104] 0 = 60 ∧ ztb 109 (nI 2) [52, 60, 68, 76, 76, 76, 88, 96, 104] 0 = 68 ∧ ztb 109 (nI 3) [52, 60, 68, 76, 76, 76, 88, 96, 104] 0 = 76 ∧ ztb 109 (nI 4) [52, 60, 68, 76, 76, 76, 88, 96, 104] 0 = 76 ∧ ztb 109 (nI 5) [52, 60, 68, 76, 76, 76, 88, 96, 104] 0 = 76 ∧ ztb 109 (nI 6) [52, 60, 68, 76, 76, 76, 88, 96, 104] 0 = 88 ∧ ztb 109 (nI 7) [52, 60, 68, 76, 76, 76, 88, 96, 104] 0 = 96 ∧ ztb 109 (nI 8) [52, 60, 68, 76, 76, 76, 88, 96, 104] 0 = 104 := by decide
  have s3 : nI 3 - 3 = 0 ∧ nI 4 - 3 = 1 ∧ nI 5 - 3 = 2 := by decide
  have hw : w = 0 ∨ w = 1 ∨ w = 2 ∨ w = 3 ∨ w = 4 ∨ w = 5 ∨ w = 6 ∨ w = 7 ∨ w = 8 := by omega
  rcases hw with rfl | rfl | rfl | rfl | rfl | rfl | rfl | rfl | rfl <;> (simp (disch := first | assumption | omega | (simp (disch := omega) only [zr_n, zr_s]; assumption)) only [x73_0, x73_1, x73_52, x73_53_0, x73_56_8, x73_56_28, x73_59, x73_60, x73_61_0, x73_64_8, x73_64_28, x73_67, x73_68, x73_69_0, x73_72_8, x73_72_28, x73_75, x73_76, x73_77_0, x73_80, x73_81, x73_82, x73_83, x73_84_2, x73_84_4, x73_84_6, x73_87, x73_88, x73_89_0, x73_92_8, x73_92_28, x73_95, x73_96, x73_97_0, x73_100_48, x73_103, x73_104, x73_105_0, x73_108, x73_109, x73_111, br_1, aa_1_0, aa_1_1, aa_1_2, ↓reduceIte, zkl_i, zkl_r, zkl_n, zkl_z, zkl_l, Option.toList_some, Option.toList_none, List.cons_append, List.nil_append, zcs_0, zcs_i, zcs_l, zcs_r, zle8, true_and, and_true, true_or, or_true, t, s3, ix3, t0, t12]) <;> rfl
theorem q_more (h : RC I) (hw : w < 3) : ∃ X : zI, (∀ Q : zQ, Rn (zG xl) 55 0 [.ref 0, .int (nI w)] [] I J Q = Q (some (.int (moA 10 (moS (pD I)) (nI w)))) X J) ∧ Tr I X := by
  have h2 : (if nI w < 0 then (0 : Int32) else if nI w < 3 then 1 else 0) = 1 := bl1 (n := 3) hw (by decide)
  obtain ⟨X, g1, g2, g3⟩ := c_findMore (xl := xl) (J := J) (RP_CD h.1) (RP_16 h.1)
  refine ⟨X, fun Q => ?_, g3⟩
  rw [mo_eq (RP_CD h.1).2.1 (RP_gv h.1) hw (f := I 61)]
  simp (disch := first | assumption | omega | (simp (disch := omega) only [zr_n, zr_s]; assumption)) only [x55_0, x55_1, x55_2, x55_5, x55_8, x55_10, x55_11, x55_12, x55_15, x55_16_0, x55_19, x55_20, x55_21, gc_0, bi_61, bs_61, ↓reduceIte, zkl_i, zkl_r, zkl_n, zkl_z, zkl_l, Option.toList_some, Option.toList_none, List.cons_append, List.nil_append, zcs_0, zcs_i, zcs_l, zcs_r, zle8, true_and, and_true, true_or, or_true, c_below, h2, if_false, i1_0, g1, ixN_nI, nI_clamp, g2]
theorem q_turn (h : RC I) (hw : w < 3) : ∃ X : zI, (∀ Q : zQ, Rn (zG xl) 57 0 [.ref 0, .int (nI w)] [] I J Q = Q (some (.int (moA 16 (tuS (pD I)) (nI w)))) X J) ∧ Tr I X := by
  have h2 : (if nI w < 0 then (0 : Int32) else if nI w < 3 then 1 else 0) = 1 := bl1 (n := 3) hw (by decide)
  obtain ⟨X, g1, g2, g3⟩ := c_findTurn (xl := xl) (J := J) (RP_CD h.1)
  refine ⟨X, fun Q => ?_, g3⟩
  rw [tu_eq (RP_CD h.1).2.1 (RP_gv h.1) (RP_16 h.1) hw (f := I 61)]
  simp (disch := first | assumption | omega | (simp (disch := omega) only [zr_n, zr_s]; assumption)) only [x57_0, x57_1, x57_2, x57_5, x57_8, x57_10, x57_11, x57_12, x57_15, x57_16_0, x57_19, x57_20, x57_21, gc_0, bi_61, bs_61, ↓reduceIte, zkl_i, zkl_r, zkl_n, zkl_z, zkl_l, Option.toList_some, Option.toList_none, List.cons_append, List.nil_append, zcs_0, zcs_i, zcs_l, zcs_r, zle8, true_and, and_true, true_or, or_true, c_below, h2, if_false, i1_0, g1, ixN_nI, nI_clamp, g2]
theorem q_hush {i : Int32} (h : RC I) (hi : i = -1 ∨ i = 0 ∨ i = 1) : ∃ X : zI, (∀ Q : zQ, Rn (zG xl) 58 0 [.ref 0, .int i] [] I J Q = Q (some (.int (hsA (tn (pD I 28 9)) (hsH (pD I)) i))) X J) ∧ Tr I X := by
  obtain ⟨X, g1, g2, g3⟩ := c_findHush (xl := xl) (J := J) (RP_CD h.1)
  obtain ⟨a0, a1, a2⟩ := hs_eq (tn (pD I 28 9)) (hsH (pD I)) (I 62)
  rw [← g2] at a0 a1 a2
  refine ⟨X, fun Q => ?_, g3⟩
  have s : (-1 : Int32) + 1 = 0 ∧ (0 : Int32) + 1 = 1 ∧ (1 : Int32) + 1 = 2 := by decide
  have l : ((-1 : Int32) < -1) = False ∧ ((0 : Int32) < -1) = False ∧ ((1 : Int32) < -1) = False ∧ ((1 : Int32) < -1) = False ∧ ((1 : Int32) < 0) = False ∧ ((1 : Int32) < 1) = False := by decide
  rcases hi with rfl | rfl | rfl
  · rw [← a0]
    simp (disch := first | assumption | omega | (simp (disch := omega) only [zr_n, zr_s]; assumption)) only [x58_0, x58_1, x58_2, x58_5, x58_6, x58_7, x58_10, x58_12, x58_13, x58_14, x58_17, x58_18_0, x58_21, x58_22, x58_23, x58_24, x58_25, gc_0, bi_62, bs_62, ↓reduceIte, zkl_i, zkl_r, zkl_n, zkl_z, zkl_l, Option.toList_some, Option.toList_none, List.cons_append, List.nil_append, zcs_0, zcs_i, zcs_l, zcs_r, zle8, true_and, and_true, true_or, or_true, l, if_false, g1, s, ix3, t0]
  · rw [← a1]
    simp (disch := first | assumption | omega | (simp (disch := omega) only [zr_n, zr_s]; assumption)) only [x58_0, x58_1, x58_2, x58_5, x58_6, x58_7, x58_10, x58_12, x58_13, x58_14, x58_17, x58_18_0, x58_21, x58_22, x58_23, x58_24, x58_25, gc_0, bi_62, bs_62, ↓reduceIte, zkl_i, zkl_r, zkl_n, zkl_z, zkl_l, Option.toList_some, Option.toList_none, List.cons_append, List.nil_append, zcs_0, zcs_i, zcs_l, zcs_r, zle8, true_and, and_true, true_or, or_true, l, if_false, g1, s, ix3, t12]
  · rw [← a2]
    simp (disch := first | assumption | omega | (simp (disch := omega) only [zr_n, zr_s]; assumption)) only [x58_0, x58_1, x58_2, x58_5, x58_6, x58_7, x58_10, x58_12, x58_13, x58_14, x58_17, x58_18_0, x58_21, x58_22, x58_23, x58_24, x58_25, gc_0, bi_62, bs_62, ↓reduceIte, zkl_i, zkl_r, zkl_n, zkl_z, zkl_l, Option.toList_some, Option.toList_none, List.cons_append, List.nil_append, zcs_0, zcs_i, zcs_l, zcs_r, zle8, true_and, and_true, true_or, or_true, l, if_false, g1, s, ix3, t12]
theorem q_keens (h : RC I) (hk : k < tn (pD I 28 3)) : ∃ X : zI, (∀ Q : zQ, Rn (zG xl) 62 0 [.ref 0, .int (nI k)] [] I J Q = Q (some (.int (kpF I (pD I) k))) X J) ∧ Tr I X := by
  obtain ⟨e0, e3, e6, e9⟩ := RC_8 h
  obtain ⟨b0, b3, b6, b9⟩ := RC_l h
  have h1 := bl1 hk (by omega)
  obtain ⟨X, g1, g2, g3⟩ := c_tryKeens (xl := xl) (J := J) (RP_CD h.1) h.2.1 hk
  refine ⟨X, fun Q => ?_, g3⟩
  simp (disch := first | assumption | omega | (simp (disch := omega) only [zr_n, zr_s]; assumption)) only [x62_0, x62_1, x62_2_0, x62_5_8, x62_5_28, x62_8, x62_11, x62_14, x62_15, x62_16, x62_19, x62_22, x62_24, gc_0, ↓reduceIte, zkl_i, zkl_r, zkl_n, zkl_z, zkl_l, Option.toList_some, Option.toList_none, List.cons_append, List.nil_append, zcs_0, zcs_i, zcs_l, zcs_r, zle8, true_and, and_true, true_or, or_true, c_below, e3, h1, if_false, i1_0, g1]
theorem q_ask (h : RC I) (hk : k < tn (pD I 28 3)) : ∃ X : zI, (∀ Q : zQ, Rn (zG xl) 64 0 [.ref 0, .int (nI k), .null, .null, .null, .null, .null] [] I J Q = Q (some (.int (asB (fun m => gaF (kpF I (pD I) k) (fun a => mkD (dk (pD I) k (nI a)) (nI m)))))) X J) ∧ Tr I X := by
  obtain ⟨j, hj, ej⟩ := ga_b (kpF I (pD I) k) (fun a => mkD (dk (pD I) k (nI a)) (nI 0))
  rw [← as_eq (by show gaF (kpF I (pD I) k) (fun a => mkD (dk (pD I) k (nI a)) (nI 0)) < 10; rw [ej]; exact (nI_ltI (b := 10) (by omega) (by decide)).mpr (by omega))]
  exact c_ask (RP_CD h.1) h.2.1 hk
theorem q_chance {c : Nat} (h : RC I) (hc : c ≤ 16) (hk : k < tn (pD I 28 0)) (hw : w < 2) : ∃ (X : zI) (J' : zJ), (∀ Q : zQ, Rn (zG xl) 65 0 [.ref 0, .int (nI c), .int (nI k), .int (nI w)] [] I J Q = Q (some (.long (chA (pD I) (nI c) k (nI w)))) X J') ∧ Tr I X := by
  obtain ⟨e0, e3, e6, e9⟩ := RC_8 h
  obtain ⟨b0, b3, b6, b9⟩ := RC_l h
  have h1 := bl1 hk (by omega)
  have h2 : (if nI w < 0 then (0 : Int32) else if nI w < 2 then 1 else 0) = 1 := bl1 (n := 2) hw (by decide)
  have h3 : (if nI c < 0 then (0 : Int32) else if nI c < 17 then 1 else 0) = 1 := bl1 (n := 17) (by omega) (by decide)
  obtain ⟨X, J', g1, g2, g3⟩ := c_weigh (xl := xl) (J := J) (c := nI c) (RP_CD h.1)
  have e9' : X 8 9 = nI (tn (pD I 28 9)) := by rw [g2 8 (by omega)]; exact e9
  have hl := fun Q => c_lowest (xl := xl) (J := J') (I := X) (Q := Q) (q := k) (w := nI w) e9' b9 (by omega)
  rw [g3 k hk] at hl
  refine ⟨X, J', fun Q => ?_, g2⟩
  simp (disch := first | assumption | omega | (simp (disch := omega) only [zr_n, zr_s]; assumption)) only [x65_0, x65_1, x65_3, x65_6, x65_9, x65_10, x65_11_0, x65_14_8, x65_14_28, x65_17, x65_20, x65_23, x65_24, x65_25, x65_28, x65_31, x65_34, x65_35, x65_36, x65_37, x65_40, x65_41, x65_42, x65_43, x65_46, gc_0, ↓reduceIte, zkl_i, zkl_r, zkl_n, zkl_z, zkl_l, Option.toList_some, Option.toList_none, List.cons_append, List.nil_append, zcs_0, zcs_i, zcs_l, zcs_r, zle8, true_and, and_true, true_or, or_true, c_below, e0, h1, h2, h3, if_false, i1_0, g1, hl]
  rfl
end
