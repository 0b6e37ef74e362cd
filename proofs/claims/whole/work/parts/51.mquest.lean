/-! ===== the reference's answers to the same questions ===== -/
section
variable {xl : Nat} {J : zJ} {I M : zI} {k w : Nat}
theorem MN_l {D : zI} (h : MN D M) : M 65 7 = nI (tn (D 28 0)) ∧ M 65 9 = nI (tn (D 28 3)) ∧ M 65 11 = nI (tn (D 28 6)) ∧ M 65 14 = nI (tn (D 28 9)) := MD_l h.1
theorem m_lineByG {Q : zQ} {f g : Nat → Int32} (hk : k < 10) (hw : w < 3) (h1 : M 72 (2 * k) = f k) (h2 : M 72 (2 * k + 1) = g k) : Rn (zG xl) 129 0 [.ref 65, .int (nI k), .int (nI w)] [] M J Q = Q (some (.int (if nI w = 0 then f k else if nI w = 1 then g k else 1 + 2 * f k))) M J := by
  have hw : w = 0 ∨ w = 1 ∨ w = 2 := by omega
  have l : (nI 0 < 2) = True ∧ (nI 1 < 2) = True ∧ (nI 2 < 2) = False := by decide
  have z : (nI 0 = 0) = True ∧ (nI 1 = 0) = False ∧ (nI 1 = 1) = True ∧ (nI 2 = 0) = False ∧ (nI 2 = 1) = False := by decide
  rcases hw with rfl | rfl | rfl
  · simp (disch := first | assumption | omega | (simp (disch := omega) only [zr_n, zr_s]; assumption)) only [x129_0, x129_1, x129_2, x129_5, x129_6_65, x129_9, x129_10, x129_11, x129_12, x129_13, x129_14, x129_15, x129_18, x129_19, x129_20, x129_21_65, x129_24, x129_25, x129_26, x129_27, x129_28, x129_29, x129_30, bi_72, bs_72, ↓reduceIte, zkl_i, zkl_r, zkl_n, zkl_z, zkl_l, Option.toList_some, Option.toList_none, List.cons_append, List.nil_append, zcs_0, zcs_i, zcs_l, zcs_r, zle8, true_and, and_true, true_or, or_true, l, z, if_true, nm_2, nI_add, Nat.add_zero, ixN_nI, nI_clamp, h1]
  · simp (disch := first | assumption | omega | (simp (disch := omega) only [zr_n, zr_s]; assumption)) only [x129_0, x129_1, x129_2, x129_5, x129_6_65, x129_9, x129_10, x129_11, x129_12, x129_13, x129_14, x129_15, x129_18, x129_19, x129_20, x129_21_65, x129_24, x129_25, x129_26, x129_27, x129_28, x129_29, x129_30, bi_72, bs_72, ↓reduceIte, zkl_i, zkl_r, zkl_n, zkl_z, zkl_l, Option.toList_some, Option.toList_none, List.cons_append, List.nil_append, zcs_0, zcs_i, zcs_l, zcs_r, zle8, true_and, and_true, true_or, or_true, l, z, if_true, if_false, nm_2, nI_add, ixN_nI, nI_clamp, h2]
  · simp (disch := first | assumption | omega | (simp (disch := omega) only [zr_n, zr_s]; assumption)) only [x129_0, x129_1, x129_2, x129_5, x129_6_65, x129_9, x129_10, x129_11, x129_12, x129_13, x129_14, x129_15, x129_18, x129_19, x129_20, x129_21_65, x129_24, x129_25, x129_26, x129_27, x129_28, x129_29, x129_30, bi_72, bs_72, ↓reduceIte, zkl_i, zkl_r, zkl_n, zkl_z, zkl_l, Option.toList_some, Option.toList_none, List.cons_append, List.nil_append, zcs_0, zcs_i, zcs_l, zcs_r, zle8, true_and, and_true, true_or, or_true, l, z, if_false, nm_2, ixN_nI, nI_clamp, h1]
theorem m_shiftByG {Q : zQ} {f g : Nat → Int32} {n : Nat} (hn : n ≤ 16) (hk : k < 16) (hw : w < 2) (e : M 65 11 = nI n) (h : ∀ i, i < n → M 74 (2 * i) = f i ∧ M 74 (2 * i + 1) = g i) : Rn (zG xl) 132 0 [.ref 65, .int (nI k), .int (nI w)] [] M J Q = Q (some (.int (if k < n then (if w = 0 then f k else g k) else -1))) M J := by
  by_cases hkn : k < n
  · obtain ⟨h1, h2⟩ := h k hkn
    have hw : w = 0 ∨ w = 1 := by omega
    rcases hw with rfl | rfl
    · simp (disch := first | assumption | omega | (simp (disch := omega) only [zr_n, zr_s]; assumption)) only [x132_0, x132_1, x132_2_65, x132_5, x132_8, x132_9_65, x132_12, x132_13, x132_14, x132_15, x132_16, x132_17, x132_18, x132_21, x132_22, bi_74, bs_74, ↓reduceIte, zkl_i, zkl_r, zkl_n, zkl_z, zkl_l, Option.toList_some, Option.toList_none, List.cons_append, List.nil_append, zcs_0, zcs_i, zcs_l, zcs_r, zle8, true_and, and_true, true_or, or_true, e, nI_ltI, hkn, if_true, nm_2, nI_add, Nat.add_zero, ixN_nI, nI_clamp, h1]
    · simp (disch := first | assumption | omega | (simp (disch := omega) only [zr_n, zr_s]; assumption)) only [x132_0, x132_1, x132_2_65, x132_5, x132_8, x132_9_65, x132_12, x132_13, x132_14, x132_15, x132_16, x132_17, x132_18, x132_21, x132_22, bi_74, bs_74, ↓reduceIte, zkl_i, zkl_r, zkl_n, zkl_z, zkl_l, Option.toList_some, Option.toList_none, List.cons_append, List.nil_append, zcs_0, zcs_i, zcs_l, zcs_r, zle8, true_and, and_true, true_or, or_true, e, nI_ltI, hkn, if_true, nm_2, nI_add, ixN_nI, nI_clamp, h2]
      rfl
  · simp (disch := first | assumption | omega | (simp (disch := omega) only [zr_n, zr_s]; assumption)) only [x132_0, x132_1, x132_2_65, x132_5, x132_8, x132_9_65, x132_12, x132_13, x132_14, x132_15, x132_16, x132_17, x132_18, x132_21, x132_22, ↓reduceIte, zkl_i, zkl_r, zkl_n, zkl_z, zkl_l, Option.toList_some, Option.toList_none, List.cons_append, List.nil_append, zcs_0, zcs_i, zcs_l, zcs_r, zle8, true_and, and_true, true_or, or_true, e, nI_ltI, hkn, if_false]
theorem RM_reads {n C : Nat} {M' : zI} (hn : n = 7 ∨ n = 9 ∨ n = 11) (hC : C = 72 ∨ C = 73 ∨ C = 74) (a3 : ∀ j, j ≠ n → M' 65 j = M 65 j) (a5 : ∀ c, c ≠ 65 → c ≠ C → M' c = M c) (hM : RM I M) : RM I M' ∧ Fr M M' := by
  have hF : Fr M M' := ⟨fun c hc => a5 c (by omega) (by omega), a3 4 (by omega), a3 28 (by omega)⟩
  exact ⟨Fr_RM hF (a3 13 (by omega)) (a3 14 (by omega)) (a3 16 (by omega)) hM, hF⟩
theorem rq_fault (hC : RC I) (hM : RM I M) (hw : w < 3) : ∃ M' : zI, (∀ Q : zQ, Rn (zG xl) 124 0 [.ref 65, .int (nI w)] [] M J Q = Q (some (.int (flD I w))) M' J) ∧ RM I M' ∧ Fr M M' ∧ (MD (pD I) M → MD (pD I) M') := by
  have z : (nI 0 = 0) = True ∧ (nI 1 = 0) = False ∧ (nI 1 = 1) = True ∧ (nI 2 = 0) = False ∧ (nI 2 = 1) = False := by decide
  have hw : w = 0 ∨ w = 1 ∨ w = 2 := by omega
  rcases hw with rfl | rfl | rfl
  · obtain ⟨M', a1, a2, a3, a4, a5⟩ := r_readsLines (xl := xl) (J := J) hC.1.1 hM.1
    obtain ⟨r1, r2⟩ := RM_reads (n := 7) (C := 72) (by omega) (by omega) a3 a5 hM
    refine ⟨M', fun Q => ?_, r1, r2, fun h => ?_⟩
    · simp (disch := first | assumption | omega | (simp (disch := omega) only [zr_n, zr_s]; assumption)) only [x124_0, x124_1, x124_4, x124_5, x124_8, x124_11, x124_12, x124_13, x124_16, x124_17, x124_20, x124_23, x124_24, x124_27, gc_65, ↓reduceIte, zkl_i, zkl_r, zkl_n, zkl_z, zkl_l, Option.toList_some, Option.toList_none, List.cons_append, List.nil_append, zcs_0, zcs_i, zcs_l, zcs_r, zle8, true_and, and_true, true_or, or_true, z, if_true, a1]
      rfl
    · obtain ⟨hp, hh, ⟨⟨h0, h3, h6, h14, h9, h13⟩, hL, hR, hS, hE⟩⟩ := h
      refine ⟨hp, hh, ⟨a2, ?_, ?_, ?_, ?_, ?_⟩, a4, ?_, ?_, ?_⟩
      · rw [a3 9 (by decide)]; exact h3
      · rw [a3 11 (by decide)]; exact h6
      · rw [a3 13 (by decide)]; exact h14
      · rw [a3 14 (by decide)]; exact h9
      · rw [a3 16 (by decide)]; exact h13
      · rw [a5 73 (by decide) (by decide)]; exact hR
      · rw [a5 74 (by decide) (by decide)]; exact hS
      · rw [a5 75 (by decide) (by decide)]; exact hE
  · obtain ⟨M', a1, a2, a3, a4, a5⟩ := r_readsReaders (xl := xl) (J := J) hC.1.2.1 hM.2.1
    obtain ⟨r1, r2⟩ := RM_reads (n := 9) (C := 73) (by omega) (by omega) a3 a5 hM
    refine ⟨M', fun Q => ?_, r1, r2, fun h => ?_⟩
    · simp (disch := first | assumption | omega | (simp (disch := omega) only [zr_n, zr_s]; assumption)) only [x124_0, x124_1, x124_4, x124_5, x124_8, x124_11, x124_12, x124_13, x124_16, x124_17, x124_20, x124_23, x124_24, x124_27, gc_65, ↓reduceIte, zkl_i, zkl_r, zkl_n, zkl_z, zkl_l, Option.toList_some, Option.toList_none, List.cons_append, List.nil_append, zcs_0, zcs_i, zcs_l, zcs_r, zle8, true_and, and_true, true_or, or_true, z, if_true, if_false, a1]
      rfl
    · obtain ⟨hp, hh, ⟨⟨h0, h3, h6, h14, h9, h13⟩, hL, hR, hS, hE⟩⟩ := h
      refine ⟨hp, hh, ⟨?_, a2, ?_, ?_, ?_, ?_⟩, ?_, a4, ?_, ?_⟩
      · rw [a3 7 (by decide)]; exact h0
      · rw [a3 11 (by decide)]; exact h6
      · rw [a3 13 (by decide)]; exact h14
      · rw [a3 14 (by decide)]; exact h9
      · rw [a3 16 (by decide)]; exact h13
      · rw [a5 72 (by decide) (by decide)]; exact hL
      · rw [a5 74 (by decide) (by decide)]; exact hS
      · rw [a5 75 (by decide) (by decide)]; exact hE
  · obtain ⟨M', a1, a2, a3, a4, a5⟩ := r_readsShifts (xl := xl) (J := J) hC.1.2.2.1 hM.2.2.1
    obtain ⟨r1, r2⟩ := RM_reads (n := 11) (C := 74) (by omega) (by omega) a3 a5 hM
    refine ⟨M', fun Q => ?_, r1, r2, fun h => ?_⟩
    · simp (disch := first | assumption | omega | (simp (disch := omega) only [zr_n, zr_s]; assumption)) only [x124_0, x124_1, x124_4, x124_5, x124_8, x124_11, x124_12, x124_13, x124_16, x124_17, x124_20, x124_23, x124_24, x124_27, gc_65, ↓reduceIte, zkl_i, zkl_r, zkl_n, zkl_z, zkl_l, Option.toList_some, Option.toList_none, List.cons_append, List.nil_append, zcs_0, zcs_i, zcs_l, zcs_r, zle8, true_and, and_true, true_or, or_true, z, if_false, a1]
      rfl
    · obtain ⟨hp, hh, ⟨⟨h0, h3, h6, h14, h9, h13⟩, hL, hR, hS, hE⟩⟩ := h
      refine ⟨hp, hh, ⟨?_, ?_, a2, ?_, ?_, ?_⟩, ?_, ?_, a4, ?_⟩
      · rw [a3 7 (by decide)]; exact h0
      · rw [a3 9 (by decide)]; exact h3
      · rw [a3 13 (by decide)]; exact h14
      · rw [a3 14 (by decide)]; exact h9
      · rw [a3 16 (by decide)]; exact h13
      · rw [a5 72 (by decide) (by decide)]; exact hL
      · rw [a5 73 (by decide) (by decide)]; exact hR
      · rw [a5 75 (by decide) (by decide)]; exact hE
/-- find(), as it stands before every question -/
theorem rq_find (hC : RC I) (hM : RM I M) : ∃ M' : zI, (∀ Q : zQ, Rn (zG xl) 141 0 [.ref 65] [] M J Q = Q none M' J) ∧ MN (pD I) M' ∧ RM I M' ∧ Fr M M' := by
  obtain ⟨M1, f1, f2, f3⟩ := m_find (xl := xl) (J := J) hC.1 hM
  exact ⟨M1, f1, f2, RM_Fr f3 f2.1 hC.1.2.2.2.2.1 hM, f3⟩
end
/-! whole calls: the class's and the reference's, for all arguments -/
def Inv (I : zI) : Prop := RC I ∧ RM I I
def KI (xl y z : Nat) (L1 L2 : List Value) (I : zI) (J : zJ) : Prop := ∃ (v : Int32) (I1 I2 : zI) (J1 : zJ), (∀ Q : zQ, Rn (zG xl) y 0 L1 [] I J Q = Q (some (.int v)) I1 J1) ∧ (∀ Q : zQ, Rn (zG xl) z 0 L2 [] I1 J1 Q = Q (some (.int v)) I2 J1) ∧ Inv I2 ∧ I2 1004 = I 1004 ∧ I2 1000 = I 1000 ∧ I1 1004 = I 1004
def KL (xl y z : Nat) (L1 L2 : List Value) (I : zI) (J : zJ) : Prop := ∃ (v : Int64) (I1 I2 : zI) (J1 : zJ), (∀ Q : zQ, Rn (zG xl) y 0 L1 [] I J Q = Q (some (.long v)) I1 J1) ∧ (∀ Q : zQ, Rn (zG xl) z 0 L2 [] I1 J1 Q = Q (some (.long v)) I2 J1) ∧ Inv I2 ∧ I2 1004 = I 1004 ∧ I2 1000 = I 1000 ∧ I1 1004 = I 1004
theorem RC_f {I I' : zI} (h : ∀ c, c < 65 → I' c = I c) (h2 : I' 1000 = I 1000) (g : RC I) : RC I' := by
  obtain ⟨g1, g2, g3, g4⟩ := g
  refine ⟨RP_f (fun c hc => h c (by omega)) h2 g1, ?_, fun s hs => ?_, ?_⟩
  · unfold SG; rw [h 48 (by omega), h 50 (by omega)]; exact g2
  · rw [h (53 + 2 * s) (by omega)]; exact g3 s hs
  · rw [pD_f (fun c c1 c2 => h c (by omega)) h2]
    exact CN_8 (fun c c1 c2 => h c (by omega)) h2 g4
theorem RM_c {I I' M : zI} (h : ∀ c, c < 28 ∨ (47 < c ∧ c < 61) → I' c = I c) (g : RM I M) : RM I' M := by
  unfold RM TXM EVm SM SHm at g ⊢
  rw [h 2 (by omega), h (2 + 1) (by omega), h 4 (by omega), h (4 + 1) (by omega), h 6 (by omega), h (6 + 1) (by omega), h 8 (by omega), h 15 (by omega), h 16 (by omega), h 17 (by omega), h 48 (by omega), h 49 (by omega), h 50 (by omega), h 51 (by omega), h 0 (by omega)]
  obtain ⟨g1, g2, g3, g4, g5, g6, g7⟩ := g
  refine ⟨g1, g2, g3, g4, g5, fun s hs => ?_, g7⟩
  rw [h (53 + 2 * s) (by omega), h (54 + 2 * s) (by omega)]
  exact g6 s hs
theorem mkI {xl y z : Nat} {L1 L2 : List Value} {I I1 : zI} {J J1 : zJ} {v : Int32} (hI : Inv I) (hc : ∀ Q : zQ, Rn (zG xl) y 0 L1 [] I J Q = Q (some (.int v)) I1 J1) (hT : Tr I I1) (hm : ∀ (M : zI) (J : zJ), RM I M → ∃ M' : zI, (∀ Q : zQ, Rn (zG xl) z 0 L2 [] M J Q = Q (some (.int v)) M' J) ∧ RM I M' ∧ Fr M M') : KI xl y z L1 L2 I J := by
  obtain ⟨M', m1, m2, m3⟩ := hm I1 J1 (RM_65 (fun c c1 c2 => hT c (by omega)) hI.2)
  refine ⟨v, I1, M', J1, hc, m1, ⟨RC_f (fun c hc => m3.1 c (by omega)) (m3.1 1000 (by omega)) (RC_Tr hT hI.1), RM_c (fun c hc => (m3.1 c (by omega)).trans (hT c (by omega))) m2⟩, (m3.1 1004 (by omega)).trans (hT 1004 (by omega)), (m3.1 1000 (by omega)).trans (hT 1000 (by omega)), hT 1004 (by omega)⟩
theorem mkL {xl y z : Nat} {L1 L2 : List Value} {I I1 : zI} {J J1 : zJ} {v : Int64} (hI : Inv I) (hc : ∀ Q : zQ, Rn (zG xl) y 0 L1 [] I J Q = Q (some (.long v)) I1 J1) (hT : Tr I I1) (hm : ∀ (M : zI) (J : zJ), RM I M → ∃ M' : zI, (∀ Q : zQ, Rn (zG xl) z 0 L2 [] M J Q = Q (some (.long v)) M' J) ∧ RM I M' ∧ Fr M M') : KL xl y z L1 L2 I J := by
  obtain ⟨M', m1, m2, m3⟩ := hm I1 J1 (RM_65 (fun c c1 c2 => hT c (by omega)) hI.2)
  refine ⟨v, I1, M', J1, hc, m1, ⟨RC_f (fun c hc => m3.1 c (by omega)) (m3.1 1000 (by omega)) (RC_Tr hT hI.1), RM_c (fun c hc => (m3.1 c (by omega)).trans (hT c (by omega))) m2⟩, (m3.1 1004 (by omega)).trans (hT 1004 (by omega)), (m3.1 1000 (by omega)).trans (hT 1000 (by omega)), hT 1004 (by omega)⟩
section
variable {xl : Nat} {J : zJ} {I : zI} {a b c : Int32}
theorem k_fault (h : Inv I) : KI xl 40 125 [.ref 0, .int a] [.ref 65, .int a] I J := by
  by_cases ha : IN a 3
  · obtain ⟨k, hk, rfl⟩ := ha
    refine mkI h (fun Q => q_fault h.1 hk) (Tr_refl I) (fun M J hM => ?_)
    obtain ⟨M', f1, f2, f3, -⟩ := rq_fault (xl := xl) (J := J) h.1 hM hk
    have hb : bt (nI k) 0 2 = 1 := in1 (m := 2) (by omega) (by decide)
    refine ⟨M', fun Q => ?_, f2, f3⟩
    simp (disch := first | assumption | omega | (simp (disch := omega) only [zr_n, zr_s]; assumption)) only [x125_0, x125_1, x125_4, x125_7, x125_8, x125_9, x125_12, x125_15, x125_17, gc_65, ↓reduceIte, zkl_i, zkl_r, zkl_n, zkl_z, zkl_l, Option.toList_some, Option.toList_none, List.cons_append, List.nil_append, zcs_0, zcs_i, zcs_l, zcs_r, zle8, true_and, and_true, true_or, or_true, m_isText, hb, i1_0, if_false, f1]
  · have h0 : (if a < 0 then (0 : Int32) else if a < 3 then 1 else 0) = 0 := bl0 (n := 3) (by decide) ha
    refine mkI (v := -2) h (fun Q => by simp (disch := first | assumption | omega | (simp (disch := omega) only [zr_n, zr_s]; assumption)) only [x40_0, x40_1, x40_2, x40_5, x40_8, x40_9_0, x40_12, x40_13, x40_14, x40_17, x40_20, x40_22, ↓reduceIte, zkl_i, zkl_r, zkl_n, zkl_z, zkl_l, Option.toList_some, Option.toList_none, List.cons_append, List.nil_append, zcs_0, zcs_i, zcs_l, zcs_r, zle8, true_and, and_true, true_or, or_true, c_below, h0, if_true]; rfl) (Tr_refl I) (fun M J hM => ⟨M, fun Q => ?_, hM, Fr_refl M⟩)
    have hb : bt a 0 2 = 0 := in0 (m := 2) (by decide) ha
    simp (disch := first | assumption | omega | (simp (disch := omega) only [zr_n, zr_s]; assumption)) only [x125_0, x125_1, x125_4, x125_7, x125_8, x125_9, x125_12, x125_15, x125_17, ↓reduceIte, zkl_i, zkl_r, zkl_n, zkl_z, zkl_l, Option.toList_some, Option.toList_none, List.cons_append, List.nil_append, zcs_0, zcs_i, zcs_l, zcs_r, zle8, true_and, and_true, true_or, or_true, m_isText, hb, if_true]
theorem k_line (h : Inv I) : KI xl 41 130 [.ref 0, .int a, .int b, .null] [.ref 65, .int a, .int b] I J := by
  obtain ⟨e0, e3, e6, e9⟩ := RC_8 h.1
  obtain ⟨b0, b3, b6, b9⟩ := RC_l h.1
  have hf := fun (M : zI) (J : zJ) (hM : RM I M) => r_readsLines (xl := xl) (J := J) h.1.1.1 hM.1
  by_cases ha : IN a (tn (pD I 28 0))
  · obtain ⟨k, hk, rfl⟩ := ha
    have hb1 := bm1 hk (by omega)
    have hc1 := bl1 hk (by omega)
    by_cases hb : IN b 3
    · obtain ⟨w, hw, rfl⟩ := hb
      refine mkI h (fun Q => q_line h.1 hk hw) (Tr_refl I) (fun M J hM => ?_)
      obtain ⟨M', a1, a2, a3, a4, a5⟩ := hf M J hM
      obtain ⟨r1, r2⟩ := RM_reads (n := 7) (C := 72) (by omega) (by omega) a3 a5 hM
      obtain ⟨u1, u2⟩ := a4 k hk
      have hl := fun Q => m_lineByG (xl := xl) (J := J) (Q := Q) (k := k) (w := w) (M := M') (f := I 9) (g := I 10) (by omega) hw u1 u2
      have hi : (if nI w < 0 then (0 : Int32) else if 2 < nI w then 0 else 1) = 1 := in1 (m := 2) (by omega) (by decide)
      refine ⟨M', fun Q => ?_, r1, r2⟩
      simp (disch := first | assumption | omega | (simp (disch := omega) only [zr_n, zr_s]; assumption)) only [x130_0, x130_1, x130_4i, x130_4r, x130_5, x130_6, x130_7, x130_10, x130_13, x130_14, x130_15, x130_16, x130_19, x130_22, x130_25, x130_26, x130_27, x130_28, x130_31, x130_34, x130_36, gc_65, ↓reduceIte, zkl_i, zkl_r, zkl_n, zkl_z, zkl_l, Option.toList_some, Option.toList_none, List.cons_append, List.nil_append, zcs_0, zcs_i, zcs_l, zcs_r, zle8, true_and, and_true, true_or, or_true, a1, m_isLine, a2, e0, hb1, i1_0, if_false, m_in, k64_0, k64_2, i64_lt, hi, hl]
      rfl
    · have h0 : (if b < 0 then (0 : Int32) else if b < 3 then 1 else 0) = 0 := bl0 (n := 3) (by decide) hb
      refine mkI (v := -2) h (fun Q => by simp (disch := first | assumption | omega | (simp (disch := omega) only [zr_n, zr_s]; assumption)) only [x41_0, x41_1, x41_2_0, x41_5_8, x41_5_28, x41_8, x41_11, x41_14, x41_15, x41_16, x41_19, x41_22, x41_24, x41_25, x41_26_0, x41_29_8, x41_29_28, x41_32, x41_33, x41_34, x41_35, x41_36, x41_39, x41_40, x41_41, x41_42, x41_43, x41_46, x41_47_0, x41_50_8, x41_50_28, x41_53, x41_54, x41_55, x41_58, x41_61, x41_62, x41_63, ↓reduceIte, zkl_i, zkl_r, zkl_n, zkl_z, zkl_l, Option.toList_some, Option.toList_none, List.cons_append, List.nil_append, zcs_0, zcs_i, zcs_l, zcs_r, zle8, true_and, and_true, true_or, or_true, c_below, e0, hc1, i1_0, if_false, h0, if_true]; rfl) (Tr_refl I) (fun M J hM => ?_)
      obtain ⟨M', a1, a2, a3, a4, a5⟩ := hf M J hM
      obtain ⟨r1, r2⟩ := RM_reads (n := 7) (C := 72) (by omega) (by omega) a3 a5 hM
      have hi : (if b < 0 then (0 : Int32) else if 2 < b then 0 else 1) = 0 := in0 (m := 2) (by decide) hb
      refine ⟨M', fun Q => ?_, r1, r2⟩
      simp (disch := first | assumption | omega | (simp (disch := omega) only [zr_n, zr_s]; assumption)) only [x130_0, x130_1, x130_4i, x130_4r, x130_5, x130_6, x130_7, x130_10, x130_13, x130_14, x130_15, x130_16, x130_19, x130_22, x130_25, x130_26, x130_27, x130_28, x130_31, x130_34, x130_36, gc_65, ↓reduceIte, zkl_i, zkl_r, zkl_n, zkl_z, zkl_l, Option.toList_some, Option.toList_none, List.cons_append, List.nil_append, zcs_0, zcs_i, zcs_l, zcs_r, zle8, true_and, and_true, true_or, or_true, a1, m_isLine, a2, e0, hb1, i1_0, if_false, m_in, k64_0, k64_2, i64_lt, hi, if_true]
  · have hc0 := bl0 (by omega) ha
    have hb0 := bm0 (by omega) ha
    refine mkI (v := -2) h (fun Q => by simp (disch := first | assumption | omega | (simp (disch := omega) only [zr_n, zr_s]; assumption)) only [x41_0, x41_1, x41_2_0, x41_5_8, x41_5_28, x41_8, x41_11, x41_14, x41_15, x41_16, x41_19, x41_22, x41_24, x41_25, x41_26_0, x41_29_8, x41_29_28, x41_32, x41_33, x41_34, x41_35, x41_36, x41_39, x41_40, x41_41, x41_42, x41_43, x41_46, x41_47_0, x41_50_8, x41_50_28, x41_53, x41_54, x41_55, x41_58, x41_61, x41_62, x41_63, ↓reduceIte, zkl_i, zkl_r, zkl_n, zkl_z, zkl_l, Option.toList_some, Option.toList_none, List.cons_append, List.nil_append, zcs_0, zcs_i, zcs_l, zcs_r, zle8, true_and, and_true, true_or, or_true, c_below, e0, hc0, if_true]; rfl) (Tr_refl I) (fun M J hM => ?_)
    obtain ⟨M', a1, a2, a3, a4, a5⟩ := hf M J hM
    obtain ⟨r1, r2⟩ := RM_reads (n := 7) (C := 72) (by omega) (by omega) a3 a5 hM
    refine ⟨M', fun Q => ?_, r1, r2⟩
    simp (disch := first | assumption | omega | (simp (disch := omega) only [zr_n, zr_s]; assumption)) only [x130_0, x130_1, x130_4i, x130_4r, x130_5, x130_6, x130_7, x130_10, x130_13, x130_14, x130_15, x130_16, x130_19, x130_22, x130_25, x130_26, x130_27, x130_28, x130_31, x130_34, x130_36, gc_65, ↓reduceIte, zkl_i, zkl_r, zkl_n, zkl_z, zkl_l, Option.toList_some, Option.toList_none, List.cons_append, List.nil_append, zcs_0, zcs_i, zcs_l, zcs_r, zle8, true_and, and_true, true_or, or_true, a1, m_isLine, a2, e0, hb0, if_true]
end
