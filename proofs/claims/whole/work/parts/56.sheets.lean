/-! ===== sheets ===== -/
theorem RP_g {I X : zI} (h : ∀ c, 1 ≤ c → c < 18 → X c = I c) (h2 : X 1000 = I 1000) (g : RP I) : RP X := by
  unfold RP TXR HD
  rw [h 2 (by omega) (by omega), h (2 + 1) (by omega) (by omega), h 4 (by omega) (by omega), h (4 + 1) (by omega) (by omega), h 6 (by omega) (by omega), h (6 + 1) (by omega) (by omega), h 8 (by omega) (by omega), h 9 (by omega) (by omega), h (9 + 1) (by omega) (by omega), h 11 (by omega) (by omega), h (11 + 1) (by omega) (by omega), h 13 (by omega) (by omega), h (13 + 1) (by omega) (by omega), h2]
  exact g
theorem RC_sh {I X : zI} (h : RC I) (hk : ∀ c, 1 ≤ c → c < 53 → X c = I c) (h2 : X 1000 = I 1000) (hS : SHc X) : RC X := by
  obtain ⟨g1, g2, g3, g4⟩ := h
  refine ⟨RP_g (fun c c1 c2 => hk c c1 (by omega)) h2 g1, ?_, hS, ?_⟩
  · unfold SG; rw [hk 48 (by omega) (by omega), hk 50 (by omega) (by omega)]; exact g2
  · rw [pD_f (fun c c1 c2 => hk c (by omega) (by omega)) h2]
    exact CN_8 (fun c c1 c2 => hk c (by omega) (by omega)) h2 g4
theorem RM_sh {I X M M' : zI} (g : RM I M) (hk : ∀ c, 1 ≤ c → c < 53 → X c = I c) (h0 : M' 65 4 = X 0 11) (hs : SHm X M') (h70 : M' 70 = M 70) (h71 : M' 71 = M 71) (h75 : M' 75 = M 75) (h87 : M' 87 = M 87) (h65 : ∀ j, j = 13 ∨ j = 14 ∨ j = 16 ∨ j = 28 → M' 65 j = M 65 j) : RM X M' := by
  obtain ⟨g1, g2, g3, g4, g5, g6, g7⟩ := g
  refine ⟨?_, ?_, ?_, ?_, ?_, hs, h0⟩
  · unfold TXM; rw [hk 2 (by omega) (by omega), hk (2 + 1) (by omega) (by omega), h70, h71]; exact g1
  · unfold TXM; rw [hk 4 (by omega) (by omega), hk (4 + 1) (by omega) (by omega), h70, h71]; exact g2
  · unfold TXM; rw [hk 6 (by omega) (by omega), hk (6 + 1) (by omega) (by omega), h70, h71]; exact g3
  · unfold EVm; rw [hk 8 (by omega) (by omega), hk 15 (by omega) (by omega), hk 16 (by omega) (by omega), hk 17 (by omega) (by omega), h75, h65 13 (by omega), h65 14 (by omega), h65 16 (by omega)]; exact g4
  · unfold SM; rw [hk 48 (by omega) (by omega), hk 49 (by omega) (by omega), hk 50 (by omega) (by omega), hk 51 (by omega) (by omega), h87, h65 28 (by omega)]; exact g5
/-- a finding -/
theorem mkF {xl y z : Nat} {L1 L2 : List Value} {I : zI} {J : zJ} {v k : Int32} (hI : Inv I) (hc : ∀ Q : zQ, Rn (zG xl) y 0 L1 [] I J Q = Q (some (.int v)) (zr I 0 (upd (I 0) 11 k)) J) (hm : ∀ (M : zI) (J : zJ), RM I M → ∀ Q : zQ, Rn (zG xl) z 0 L2 [] M J Q = Q (some (.int v)) (zr M 65 (upd (M 65) 4 k)) J) : KI xl y z L1 L2 I J := by
  refine mkU hI hc (RC_sh hI.1 (fun c c1 c2 => zr_n (by omega)) (zr_n (by decide)) (fun s hs => ?_)) (fun c hc => zr_n (by omega)) (fun M J hM => ⟨_, hm M J hM, RM_sh hM (fun c c1 c2 => zr_n (by omega)) ?_ (fun s hs => ?_) (zr_n (by decide)) (zr_n (by decide)) (zr_n (by decide)) (zr_n (by decide)) (fun j hj => by rw [zr_s, upd_n (by omega)]), fun c hc => zr_n (by omega)⟩)
  · rw [zr_n (by omega)]; exact hI.1.2.2.1 s hs
  · rw [zr_s, upd_s, zr_s, upd_s]
  · simp (disch := omega) only [zr_n]
    exact hM.2.2.2.2.2.1 s hs
theorem SH_1 {I X M M' : zI} {S : Nat} (hc : SHc I) (old : SHm I M) (ho : ∀ s, s < 4 → s ≠ S → X (53 + 2 * s) = I (53 + 2 * s) ∧ X (54 + 2 * s) = I (54 + 2 * s) ∧ M' 66 s = M 66 s ∧ M' 67 s = M 67 s ∧ ∀ j, j < 60 → M' 68 (60 * s + j) = M 68 (60 * s + j)) (hn : M' 66 S = (if X (53 + 2 * S) 0 = 0 then X (53 + 2 * S) 1 else -1) ∧ M' 67 S = X (53 + 2 * S) 2 ∧ ∀ j, j < tn (X (53 + 2 * S) 2) → M' 68 (60 * S + j) = X (54 + 2 * S) j) : SHm X M' := by
  intro s hs
  by_cases e : s = S
  · subst e; exact hn
  · obtain ⟨h1, h2, h3, h4, h5⟩ := ho s hs e
    obtain ⟨-, -, hl⟩ := hc s hs
    have hb := ixN_tn hl (by decide)
    rw [h1, h2, h3, h4]
    obtain ⟨o1, o2, o3⟩ := old s hs
    exact ⟨o1, o2, fun j hj => (h5 j (by omega)).trans (o3 j hj)⟩
theorem SHc_1 {I X : zI} {S : Nat} (hc : SHc I) (ho : ∀ s, s < 4 → s ≠ S → X (53 + 2 * s) = I (53 + 2 * s)) (hn : (X (53 + 2 * S) 0 = 0 ∨ X (53 + 2 * S) 0 = 1) ∧ ixN (X (53 + 2 * S) 1) 3 ∧ ixN (X (53 + 2 * S) 2) 61) : SHc X := by
  intro s hs
  by_cases e : s = S
  · subst e; exact hn
  · rw [ho s hs e]; exact hc s hs
theorem nlt_4' {k : Nat} (h : k < 4) : k = 0 ∨ k = 1 ∨ k = 2 ∨ k = 3 := by omega
theorem m1_0 : ((-1 : Int32) < 0) = True := by decide
theorem m_fm {f lo : Int32} (hf : ixN f 3) : ((if lo = 0 then f else -1) < 0) = ¬ lo = 0 := by
  obtain ⟨k, hk, rfl⟩ := (ixN_iff (by decide)).mp hf
  by_cases h : lo = 0
  · rw [if_pos h]; simp [h, nI_pos (show k < 2 ^ 31 by omega)]
  · rw [if_neg h, m1_0]; simp [h]
theorem v11 : ((-10 : Int32) - 1 = -11) ∧ ((-10 : Int32) - 2 = -12) ∧ ((-10 : Int32) - 3 = -13) ∧ ((-10 : Int32) - 4 = -14) ∧ ((-10 : Int32) - 5 = -15) := by decide
theorem cut_eq (f v : Int32) : cutm f v = cutv f v := rfl
section
variable {xl : Nat} {J : zJ} {I M : zI} {a b c d : Int32}
theorem sh_0 (h : RC I) (hM : RM I M) : ((I 53 0 = 0 ∨ I 53 0 = 1) ∧ ixN (I 53 1) 3 ∧ I 53 2 = nI (tn (I 53 2)) ∧ tn (I 53 2) ≤ 60) ∧ M 67 0 = I 53 2 ∧ (∀ j, j < tn (I 53 2) → M 68 (60 * 0 + j) = I 54 j) ∧ (I 53 0 = 0 → M 66 0 = I 53 1 ∧ ¬ I 53 1 < 0) ∧ (¬ I 53 0 = 0 → M 66 0 = -1) := by
  obtain ⟨s1, s2, s3⟩ := h.2.2.1 0 (by decide)
  obtain ⟨o1, o2, o3⟩ := hM.2.2.2.2.2.1 0 (by decide)
  obtain ⟨n, hn, en⟩ := (ixN_iff (by decide)).mp s3
  have en' : I 53 2 = nI n := en
  have tn' : tn (nI n) = n := nI_clamp (by omega)
  refine ⟨⟨s1, s2, by rw [en', tn'], by rw [en', tn']; omega⟩, o2, o3, fun z => ?_, fun z => ?_⟩
  · have o1' : M 66 0 = (if I 53 0 = 0 then I 53 1 else -1) := o1
    rw [if_pos z] at o1'
    obtain ⟨k, hk, ek⟩ := (ixN_iff (by decide)).mp s2
    refine ⟨o1', ?_⟩
    rw [show I 53 1 = nI k from ek]
    exact nI_pos (by omega)
  · have o1' : M 66 0 = (if I 53 0 = 0 then I 53 1 else -1) := o1
    rw [if_neg z] at o1'
    exact o1'
theorem SHm_0 {X M' : zI} (h : RC I) (hM : RM I M) (ho : ∀ c, 53 ≤ c → c < 61 → c ≠ 53 → c ≠ 54 → X c = I c) (h66 : ∀ s, s ≠ 0 → M' 66 s = M 66 s) (h67 : ∀ s, s ≠ 0 → M' 67 s = M 67 s) (h68 : ∀ j, j < 60 * 0 ∨ 60 * 0 + 60 ≤ j → M' 68 j = M 68 j) (n1 : M' 66 0 = (if X 53 0 = 0 then X 53 1 else -1)) (n2 : M' 67 0 = X 53 2) (n3 : ∀ j, j < tn (X 53 2) → M' 68 (60 * 0 + j) = X 54 j) : SHm X M' :=
  SH_1 (S := 0) h.2.2.1 hM.2.2.2.2.2.1 (fun s hs e => ⟨ho _ (by omega) (by omega) (by omega) (by omega), ho _ (by omega) (by omega) (by omega) (by omega), h66 s e, h67 s e, fun j hj => h68 _ (by omega)⟩) ⟨n1, n2, n3⟩
theorem k_lose_0 (h : Inv I) : KI xl 68 107 [.ref 0, .int (nI 0)] [.ref 65, .int (nI 0)] I J := by
  have c1 : (if nI 0 < 0 then (0 : Int32) else if nI 0 < 4 then 1 else 0) = 1 := bl1 (n := 4) (by decide) (by decide)
  have r1 : bt (nI 0) 0 3 = 1 := in1 (m := 3) (by decide) (by decide)
  obtain ⟨⟨s1, s2, s3, s4⟩, -⟩ := sh_0 h.1 h.2
  by_cases hz : I 53 0 = 0
  · refine mkU (v := I 53 2) (I1 := zr I 53 (upd (I 53) 0 1)) h (fun Q => ?_) (RC_sh h.1 (fun c c1 c2 => zr_n (by omega)) (zr_n (by decide)) (SHc_1 (S := 0) h.1.2.2.1 (fun s hs e => zr_n (by omega)) ?_)) (fun c hc => zr_n (by omega)) (fun M J hM => ?_)
    · simp (disch := first | assumption | omega | (simp (disch := omega) only [zr_n, zr_s]; assumption)) only [x68_0, x68_1, x68_2, x68_5, x68_8, x68_10, x68_11, x68_12_0, x68_15, x68_16, x68_17_53, x68_17_55, x68_17_57, x68_17_59, x68_20, x68_23, x68_24, x68_25, x68_28, x68_29, x68_30_0, x68_33, x68_34, x68_35, x68_36_53, x68_36_55, x68_36_57, x68_36_59, x68_39, x68_40_0, x68_43, x68_44, x68_45_53, x68_45_55, x68_45_57, x68_45_59, x68_48, gc_0, br_52, aa_52_0, aa_52_1, aa_52_2, aa_52_3, gc_53, ↓reduceIte, zkl_i, zkl_r, zkl_n, zkl_z, zkl_l, Option.toList_some, Option.toList_none, List.cons_append, List.nil_append, zcs_0, zcs_i, zcs_l, zcs_r, zle8, true_and, and_true, true_or, or_true, c_below, c1, i1_0, if_false, ixN_nI, nI_clamp, hz, if_true, zr_s, upd_n, b1_1]
    · show (zr I 53 (upd (I 53) 0 1) 53 0 = 0 ∨ zr I 53 (upd (I 53) 0 1) 53 0 = 1) ∧ ixN (zr I 53 (upd (I 53) 0 1) 53 1) 3 ∧ ixN (zr I 53 (upd (I 53) 0 1) 53 2) 61
      rw [zr_s, upd_s, upd_n (by decide), upd_n (by decide)]
      exact ⟨Or.inr rfl, s2, by rw [s3, ixN_nI (by omega) (by decide)]; trivial⟩
    · obtain ⟨-, o2, o3, o4, -⟩ := sh_0 h.1 hM
      obtain ⟨o1, nf⟩ := o4 hz
      refine ⟨zr M 66 (upd (M 66) 0 (-1)), fun Q => ?_, RM_sh hM (fun c c1 c2 => zr_n (by omega)) (by rw [zr_n (by decide), zr_n (by decide)]; exact hM.2.2.2.2.2.2) (SHm_0 h.1 hM (fun c c1 c2 c3 c4 => zr_n c3) (fun s e => by rw [zr_s, upd_n e]) (fun s e => by rw [zr_n (by decide)]) (fun j e => by rw [zr_n (by decide)]) ?_ ?_ ?_) (zr_n (by decide)) (zr_n (by decide)) (zr_n (by decide)) (zr_n (by decide)) (fun j hj => by rw [zr_n (by decide)]), fun c hc => zr_n (by omega)⟩
      · simp (disch := first | assumption | omega | (simp (disch := omega) only [zr_n, zr_s]; assumption)) only [x107_0, x107_1, x107_4, x107_7, x107_9, x107_10, x107_11_65, x107_14, x107_15, x107_16, x107_19, x107_20, x107_21, x107_24, x107_25, x107_26_65, x107_29, x107_30, x107_31, x107_32, x107_33_65, x107_36, x107_37, x107_38, gc_65, bi_66, bs_66, bi_67, bs_67, ↓reduceIte, zkl_i, zkl_r, zkl_n, zkl_z, zkl_l, Option.toList_some, Option.toList_none, List.cons_append, List.nil_append, zcs_0, zcs_i, zcs_l, zcs_r, zle8, true_and, and_true, true_or, or_true, m_isSheet, r1, i1_0, if_false, ixN_nI, nI_clamp, o1, o2, nf, zr_n]
      · rw [zr_s, upd_s, zr_s, upd_s, if_neg (by decide)]
      · rw [zr_n (by decide), zr_s, upd_n (by decide)]; exact o2
      · simp (disch := omega) only [zr_n, zr_s, upd_n]
        exact o3
  · refine mkF (v := -11) (k := 1) h (fun Q => ?_) (fun M J hM Q => ?_)
    · simp (disch := first | assumption | omega | (simp (disch := omega) only [zr_n, zr_s]; assumption)) only [x68_0, x68_1, x68_2, x68_5, x68_8, x68_10, x68_11, x68_12_0, x68_15, x68_16, x68_17_53, x68_17_55, x68_17_57, x68_17_59, x68_20, x68_23, x68_24, x68_25, x68_28, x68_29, x68_30_0, x68_33, x68_34, x68_35, x68_36_53, x68_36_55, x68_36_57, x68_36_59, x68_39, x68_40_0, x68_43, x68_44, x68_45_53, x68_45_55, x68_45_57, x68_45_59, x68_48, gc_0, br_52, aa_52_0, aa_52_1, aa_52_2, aa_52_3, gc_53, ↓reduceIte, zkl_i, zkl_r, zkl_n, zkl_z, zkl_l, Option.toList_some, Option.toList_none, List.cons_append, List.nil_append, zcs_0, zcs_i, zcs_l, zcs_r, zle8, true_and, and_true, true_or, or_true, c_below, c1, i1_0, if_false, ixN_nI, nI_clamp, hz, c_found, v11]
    · have o1 := (sh_0 h.1 hM).2.2.2.2 hz
      simp (disch := first | assumption | omega | (simp (disch := omega) only [zr_n, zr_s]; assumption)) only [x107_0, x107_1, x107_4, x107_7, x107_9, x107_10, x107_11_65, x107_14, x107_15, x107_16, x107_19, x107_20, x107_21, x107_24, x107_25, x107_26_65, x107_29, x107_30, x107_31, x107_32, x107_33_65, x107_36, x107_37, x107_38, gc_65, bi_66, bs_66, bi_67, bs_67, ↓reduceIte, zkl_i, zkl_r, zkl_n, zkl_z, zkl_l, Option.toList_some, Option.toList_none, List.cons_append, List.nil_append, zcs_0, zcs_i, zcs_l, zcs_r, zle8, true_and, and_true, true_or, or_true, m_isSheet, r1, i1_0, if_false, ixN_nI, nI_clamp, o1, m1_0, if_true, m_finds, v11]
theorem lk0_0 {Q : zQ} (h : RC I) (hM : RM I M) (hz : ¬ I 53 0 = 0) : Rn (zG xl) 108 0 [.ref 65, .int (nI 0), .int b, .int c] [] M J Q = Q (some (.int (-11))) (zr M 65 (upd (M 65) 4 1)) J := by
  have o1 := (sh_0 h hM).2.2.2.2 hz
  simp (disch := first | assumption | omega | (simp (disch := omega) only [zr_n, zr_s]; assumption)) only [x108_0, x108_1_65, x108_4, x108_5, x108_6, x108_9, x108_10, x108_11, x108_14, x108_15, x108_16_65, x108_19, x108_20, x108_21, x108_22, x108_25, x108_26, x108_27, x108_30, x108_31, x108_32, x108_33, x108_34, x108_35_65, x108_38, x108_39, x108_40, x108_41, x108_42, x108_43, x108_46, x108_49, x108_50, x108_53, x108_54, x108_55, x108_58, gc_65, bi_66, bs_66, ↓reduceIte, zkl_i, zkl_r, zkl_n, zkl_z, zkl_l, Option.toList_some, Option.toList_none, List.cons_append, List.nil_append, zcs_0, zcs_i, zcs_l, zcs_r, zle8, true_and, and_true, true_or, or_true, ixN_nI, nI_clamp, o1, m1_0, if_true, m_finds, v11]
theorem lk1_0 {Q : zQ} (h : RC I) (hM : RM I M) (hz : I 53 0 = 0) (hb : ¬ I 53 1 = b) : Rn (zG xl) 108 0 [.ref 65, .int (nI 0), .int b, .int c] [] M J Q = Q (some (.int (-13))) (zr M 65 (upd (M 65) 4 3)) J := by
  obtain ⟨o1, nf⟩ := (sh_0 h hM).2.2.2.1 hz
  simp (disch := first | assumption | omega | (simp (disch := omega) only [zr_n, zr_s]; assumption)) only [x108_0, x108_1_65, x108_4, x108_5, x108_6, x108_9, x108_10, x108_11, x108_14, x108_15, x108_16_65, x108_19, x108_20, x108_21, x108_22, x108_25, x108_26, x108_27, x108_30, x108_31, x108_32, x108_33, x108_34, x108_35_65, x108_38, x108_39, x108_40, x108_41, x108_42, x108_43, x108_46, x108_49, x108_50, x108_53, x108_54, x108_55, x108_58, gc_65, bi_66, bs_66, ↓reduceIte, zkl_i, zkl_r, zkl_n, zkl_z, zkl_l, Option.toList_some, Option.toList_none, List.cons_append, List.nil_append, zcs_0, zcs_i, zcs_l, zcs_r, zle8, true_and, and_true, true_or, or_true, ixN_nI, nI_clamp, o1, nf, hb, if_false, m_finds, v11]
theorem lk2_0 {Q : zQ} (h : RC I) (hM : RM I M) (hz : I 53 0 = 0) (hb : I 53 1 = b) (hc : ¬ IN c (tn (I 53 2))) : Rn (zG xl) 108 0 [.ref 65, .int (nI 0), .int b, .int c] [] M J Q = Q (some (.int (-12))) (zr M 65 (upd (M 65) 4 2)) J := by
  obtain ⟨⟨-, -, l1, l2⟩, o2, -, o4, -⟩ := sh_0 h hM
  obtain ⟨o1, nf⟩ := o4 hz
  have r : (if c < 0 then (0 : Int32) else if nI (tn (I 53 2)) - 1 < c then 0 else 1) = 0 := bm0 (by omega) hc
  rw [← l1] at r
  simp (disch := first | assumption | omega | (simp (disch := omega) only [zr_n, zr_s]; assumption)) only [x108_0, x108_1_65, x108_4, x108_5, x108_6, x108_9, x108_10, x108_11, x108_14, x108_15, x108_16_65, x108_19, x108_20, x108_21, x108_22, x108_25, x108_26, x108_27, x108_30, x108_31, x108_32, x108_33, x108_34, x108_35_65, x108_38, x108_39, x108_40, x108_41, x108_42, x108_43, x108_46, x108_49, x108_50, x108_53, x108_54, x108_55, x108_58, gc_65, bi_66, bs_66, bi_67, bs_67, ↓reduceIte, zkl_i, zkl_r, zkl_n, zkl_z, zkl_l, Option.toList_some, Option.toList_none, List.cons_append, List.nil_append, zcs_0, zcs_i, zcs_l, zcs_r, zle8, true_and, and_true, true_or, or_true, ixN_nI, nI_clamp, o1, nf, hb, if_true, if_false, o2, m_in, k64_0, i64_lt, r, m_finds, v11]
  rw [hb] at nf
  simp only [nf, if_false]
theorem lk3_0 {Q : zQ} {k : Nat} (h : RC I) (hM : RM I M) (hz : I 53 0 = 0) (hb : I 53 1 = b) (hk : k < tn (I 53 2)) : Rn (zG xl) 108 0 [.ref 65, .int (nI 0), .int b, .int (nI k)] [] M J Q = Q (some (.int 0)) M J := by
  obtain ⟨⟨-, -, l1, l2⟩, o2, -, o4, -⟩ := sh_0 h hM
  obtain ⟨o1, nf⟩ := o4 hz
  have r : (if nI k < 0 then (0 : Int32) else if nI (tn (I 53 2)) - 1 < nI k then 0 else 1) = 1 := bm1 hk (by omega)
  rw [← l1] at r
  simp (disch := first | assumption | omega | (simp (disch := omega) only [zr_n, zr_s]; assumption)) only [x108_0, x108_1_65, x108_4, x108_5, x108_6, x108_9, x108_10, x108_11, x108_14, x108_15, x108_16_65, x108_19, x108_20, x108_21, x108_22, x108_25, x108_26, x108_27, x108_30, x108_31, x108_32, x108_33, x108_34, x108_35_65, x108_38, x108_39, x108_40, x108_41, x108_42, x108_43, x108_46, x108_49, x108_50, x108_53, x108_54, x108_55, x108_58, gc_65, bi_66, bs_66, bi_67, bs_67, ↓reduceIte, zkl_i, zkl_r, zkl_n, zkl_z, zkl_l, Option.toList_some, Option.toList_none, List.cons_append, List.nil_append, zcs_0, zcs_i, zcs_l, zcs_r, zle8, true_and, and_true, true_or, or_true, ixN_nI, nI_clamp, o1, nf, hb, if_true, if_false, o2, m_in, k64_0, i64_lt, r, i1_0]
  rw [hb] at nf
  simp only [nf, if_false]
theorem k_get_0 {f : Nat} (h : Inv I) (hf : f < 3) : KI xl 70 111 [.ref 0, .int (nI 0), .int (nI f), .int c, .null] [.ref 65, .int (nI 0), .int (nI f), .int c] I J := by
  have c1 : (if nI 0 < 0 then (0 : Int32) else if nI 0 < 4 then 1 else 0) = 1 := bl1 (n := 4) (by decide) (by decide)
  have r1 : bt (nI 0) 0 3 = 1 := in1 (m := 3) (by decide) (by decide)
  have c2 : (if nI f < 0 then (0 : Int32) else if nI f < 3 then 1 else 0) = 1 := bl1 (n := 3) hf (by decide)
  have r2 : (if nI f < 0 then (0 : Int32) else if 2 < nI f then 0 else 1) = 1 := in1 (m := 2) (by omega) (by decide)
  obtain ⟨⟨s1, s2, s3, s4⟩, -⟩ := sh_0 h.1 h.2
  have n11 : ((-11 : Int32) = 0) = False ∧ ((-12 : Int32) = 0) = False ∧ ((-13 : Int32) = 0) = False ∧ ((2 : Int32) = 0) = False ∧ ((3 : Int32) = 0) = False := by decide
  by_cases hz : I 53 0 = 0
  · by_cases hb : I 53 1 = nI f
    · by_cases hc : IN c (tn (I 53 2))
      · obtain ⟨k, hk, rfl⟩ := hc
        have q1 : ¬ nI k < 0 := nI_pos (by omega)
        have q2 : nI k < I 53 2 := by rw [s3]; exact (nI_ltI (by omega) (by omega)).mpr hk
        refine mkI (v := I 54 k) (I1 := I) (J1 := J) h (fun Q => ?_) (Tr_refl I) (fun M J hM => ⟨M, fun Q => ?_, hM, Fr_refl M⟩)
        · simp (disch := first | assumption | omega | (simp (disch := omega) only [zr_n, zr_s]; assumption)) only [x70_0, x70_1, x70_2, x70_5, x70_8, x70_9, x70_10, x70_13, x70_16, x70_18, x70_19, x70_20_0, x70_23, x70_24, x70_25, x70_26, x70_27, x70_30, x70_32, x70_34, x70_37, x70_38, x70_40_0, x70_43, x70_45, x70_46, x70_47_0, x70_50, x70_51, x70_52_53, x70_52_55, x70_52_57, x70_52_59, x70_55, x70_56, x70_57, gc_0, br_52, aa_52_0, aa_52_1, aa_52_2, aa_52_3, gc_53, bi_54, bs_54, ↓reduceIte, zkl_i, zkl_r, zkl_n, zkl_z, zkl_l, Option.toList_some, Option.toList_none, List.cons_append, List.nil_append, zcs_0, zcs_i, zcs_l, zcs_r, zle8, true_and, and_true, true_or, or_true, c_below, c1, c2, i1_0, if_false, ixN_nI, nI_clamp, c_findingAt_53, hz, hb, q1, q2, if_true]
        · have hl := fun Q => lk3_0 (xl := xl) (J := J) (Q := Q) h.1 hM hz hb hk
          have o3 := (sh_0 h.1 hM).2.2.1 k hk
          simp (disch := first | assumption | omega | (simp (disch := omega) only [zr_n, zr_s]; assumption)) only [x111_0, x111_1, x111_4, x111_7, x111_8, x111_9, x111_10, x111_13, x111_16, x111_19, x111_20, x111_21, x111_22, x111_23, x111_26, x111_29, x111_31, x111_32, x111_33_65, x111_36, x111_38, x111_39, x111_40, x111_41, x111_42, x111_43, gc_65, bi_68, bs_68, ↓reduceIte, zkl_i, zkl_r, zkl_n, zkl_z, zkl_l, Option.toList_some, Option.toList_none, List.cons_append, List.nil_append, zcs_0, zcs_i, zcs_l, zcs_r, zle8, true_and, and_true, true_or, or_true, m_isSheet, r1, m_in, k64_0, k64_2, i64_lt, r2, i1_0, if_false, hl, if_true, nm_60, nI_add, ixN_nI, nI_clamp, o3]
      · have q := IN_nlt (by omega) hc
        rw [← s3] at q
        refine mkF (v := -2147483648) (k := 2) h (fun Q => ?_) (fun M J hM Q => ?_)
        · rcases q with q | q
          · simp (disch := first | assumption | omega | (simp (disch := omega) only [zr_n, zr_s]; assumption)) only [x70_0, x70_1, x70_2, x70_5, x70_8, x70_9, x70_10, x70_13, x70_16, x70_18, x70_19, x70_20_0, x70_23, x70_24, x70_25, x70_26, x70_27, x70_30, x70_32, x70_34, x70_37, x70_38, x70_40_0, x70_43, x70_45, x70_46, x70_47_0, x70_50, x70_51, x70_52_53, x70_52_55, x70_52_57, x70_52_59, x70_55, x70_56, x70_57, gc_0, br_52, aa_52_0, aa_52_1, aa_52_2, aa_52_3, gc_53, bi_54, bs_54, ↓reduceIte, zkl_i, zkl_r, zkl_n, zkl_z, zkl_l, Option.toList_some, Option.toList_none, List.cons_append, List.nil_append, zcs_0, zcs_i, zcs_l, zcs_r, zle8, true_and, and_true, true_or, or_true, c_below, c1, c2, i1_0, if_false, ixN_nI, nI_clamp, c_findingAt_53, hz, hb, q, if_true, n11]
          · by_cases q1 : c < 0
            · simp (disch := first | assumption | omega | (simp (disch := omega) only [zr_n, zr_s]; assumption)) only [x70_0, x70_1, x70_2, x70_5, x70_8, x70_9, x70_10, x70_13, x70_16, x70_18, x70_19, x70_20_0, x70_23, x70_24, x70_25, x70_26, x70_27, x70_30, x70_32, x70_34, x70_37, x70_38, x70_40_0, x70_43, x70_45, x70_46, x70_47_0, x70_50, x70_51, x70_52_53, x70_52_55, x70_52_57, x70_52_59, x70_55, x70_56, x70_57, gc_0, br_52, aa_52_0, aa_52_1, aa_52_2, aa_52_3, gc_53, bi_54, bs_54, ↓reduceIte, zkl_i, zkl_r, zkl_n, zkl_z, zkl_l, Option.toList_some, Option.toList_none, List.cons_append, List.nil_append, zcs_0, zcs_i, zcs_l, zcs_r, zle8, true_and, and_true, true_or, or_true, c_below, c1, c2, i1_0, if_false, ixN_nI, nI_clamp, c_findingAt_53, hz, hb, q1, if_true, n11]
            · simp (disch := first | assumption | omega | (simp (disch := omega) only [zr_n, zr_s]; assumption)) only [x70_0, x70_1, x70_2, x70_5, x70_8, x70_9, x70_10, x70_13, x70_16, x70_18, x70_19, x70_20_0, x70_23, x70_24, x70_25, x70_26, x70_27, x70_30, x70_32, x70_34, x70_37, x70_38, x70_40_0, x70_43, x70_45, x70_46, x70_47_0, x70_50, x70_51, x70_52_53, x70_52_55, x70_52_57, x70_52_59, x70_55, x70_56, x70_57, gc_0, br_52, aa_52_0, aa_52_1, aa_52_2, aa_52_3, gc_53, bi_54, bs_54, ↓reduceIte, zkl_i, zkl_r, zkl_n, zkl_z, zkl_l, Option.toList_some, Option.toList_none, List.cons_append, List.nil_append, zcs_0, zcs_i, zcs_l, zcs_r, zle8, true_and, and_true, true_or, or_true, c_below, c1, c2, i1_0, if_false, ixN_nI, nI_clamp, c_findingAt_53, hz, hb, q1, q, if_true, n11]
        · have hl := fun Q => lk2_0 (xl := xl) (J := J) (Q := Q) h.1 hM hz hb hc
          simp (disch := first | assumption | omega | (simp (disch := omega) only [zr_n, zr_s]; assumption)) only [x111_0, x111_1, x111_4, x111_7, x111_8, x111_9, x111_10, x111_13, x111_16, x111_19, x111_20, x111_21, x111_22, x111_23, x111_26, x111_29, x111_31, x111_32, x111_33_65, x111_36, x111_38, x111_39, x111_40, x111_41, x111_42, x111_43, gc_65, ↓reduceIte, zkl_i, zkl_r, zkl_n, zkl_z, zkl_l, Option.toList_some, Option.toList_none, List.cons_append, List.nil_append, zcs_0, zcs_i, zcs_l, zcs_r, zle8, true_and, and_true, true_or, or_true, m_isSheet, r1, m_in, k64_0, k64_2, i64_lt, r2, i1_0, if_false, hl, n11]
    · refine mkF (v := -2147483648) (k := 3) h (fun Q => ?_) (fun M J hM Q => ?_)
      · simp (disch := first | assumption | omega | (simp (disch := omega) only [zr_n, zr_s]; assumption)) only [x70_0, x70_1, x70_2, x70_5, x70_8, x70_9, x70_10, x70_13, x70_16, x70_18, x70_19, x70_20_0, x70_23, x70_24, x70_25, x70_26, x70_27, x70_30, x70_32, x70_34, x70_37, x70_38, x70_40_0, x70_43, x70_45, x70_46, x70_47_0, x70_50, x70_51, x70_52_53, x70_52_55, x70_52_57, x70_52_59, x70_55, x70_56, x70_57, gc_0, br_52, aa_52_0, aa_52_1, aa_52_2, aa_52_3, gc_53, bi_54, bs_54, ↓reduceIte, zkl_i, zkl_r, zkl_n, zkl_z, zkl_l, Option.toList_some, Option.toList_none, List.cons_append, List.nil_append, zcs_0, zcs_i, zcs_l, zcs_r, zle8, true_and, and_true, true_or, or_true, c_below, c1, c2, i1_0, if_false, ixN_nI, nI_clamp, c_findingAt_53, hz, hb, if_true, n11]
      · have hl := fun Q => lk1_0 (xl := xl) (J := J) (Q := Q) (c := c) h.1 hM hz hb
        simp (disch := first | assumption | omega | (simp (disch := omega) only [zr_n, zr_s]; assumption)) only [x111_0, x111_1, x111_4, x111_7, x111_8, x111_9, x111_10, x111_13, x111_16, x111_19, x111_20, x111_21, x111_22, x111_23, x111_26, x111_29, x111_31, x111_32, x111_33_65, x111_36, x111_38, x111_39, x111_40, x111_41, x111_42, x111_43, gc_65, ↓reduceIte, zkl_i, zkl_r, zkl_n, zkl_z, zkl_l, Option.toList_some, Option.toList_none, List.cons_append, List.nil_append, zcs_0, zcs_i, zcs_l, zcs_r, zle8, true_and, and_true, true_or, or_true, m_isSheet, r1, m_in, k64_0, k64_2, i64_lt, r2, i1_0, if_false, hl, n11]
  · refine mkF (v := -2147483648) (k := 1) h (fun Q => ?_) (fun M J hM Q => ?_)
    · simp (disch := first | assumption | omega | (simp (disch := omega) only [zr_n, zr_s]; assumption)) only [x70_0, x70_1, x70_2, x70_5, x70_8, x70_9, x70_10, x70_13, x70_16, x70_18, x70_19, x70_20_0, x70_23, x70_24, x70_25, x70_26, x70_27, x70_30, x70_32, x70_34, x70_37, x70_38, x70_40_0, x70_43, x70_45, x70_46, x70_47_0, x70_50, x70_51, x70_52_53, x70_52_55, x70_52_57, x70_52_59, x70_55, x70_56, x70_57, gc_0, br_52, aa_52_0, aa_52_1, aa_52_2, aa_52_3, gc_53, bi_54, bs_54, ↓reduceIte, zkl_i, zkl_r, zkl_n, zkl_z, zkl_l, Option.toList_some, Option.toList_none, List.cons_append, List.nil_append, zcs_0, zcs_i, zcs_l, zcs_r, zle8, true_and, and_true, true_or, or_true, c_below, c1, c2, i1_0, if_false, ixN_nI, nI_clamp, c_findingAt_53, hz, n11]
    · have hl := fun Q => lk0_0 (xl := xl) (J := J) (Q := Q) (b := nI f) (c := c) h.1 hM hz
      simp (disch := first | assumption | omega | (simp (disch := omega) only [zr_n, zr_s]; assumption)) only [x111_0, x111_1, x111_4, x111_7, x111_8, x111_9, x111_10, x111_13, x111_16, x111_19, x111_20, x111_21, x111_22, x111_23, x111_26, x111_29, x111_31, x111_32, x111_33_65, x111_36, x111_38, x111_39, x111_40, x111_41, x111_42, x111_43, gc_65, ↓reduceIte, zkl_i, zkl_r, zkl_n, zkl_z, zkl_l, Option.toList_some, Option.toList_none, List.cons_append, List.nil_append, zcs_0, zcs_i, zcs_l, zcs_r, zle8, true_and, and_true, true_or, or_true, m_isSheet, r1, m_in, k64_0, k64_2, i64_lt, r2, i1_0, if_false, hl, n11]
theorem k_lay_0 {f : Nat} (h : Inv I) (hf : f < 3) : KI xl 69 110 [.ref 0, .int (nI 0), .int (nI f), .int c, .int d, .null] [.ref 65, .int (nI 0), .int (nI f), .int c, .int d, .null] I J := by
  have c1 : (if nI 0 < 0 then (0 : Int32) else if nI 0 < 4 then 1 else 0) = 1 := bl1 (n := 4) (by decide) (by decide)
  have r1 : bt (nI 0) 0 3 = 1 := in1 (m := 3) (by decide) (by decide)
  have c2 : (if nI f < 0 then (0 : Int32) else if nI f < 3 then 1 else 0) = 1 := bl1 (n := 3) hf (by decide)
  have r2 : (if nI f < 0 then (0 : Int32) else if 2 < nI f then 0 else 1) = 1 := in1 (m := 2) (by omega) (by decide)
  obtain ⟨⟨s1, s2, s3, s4⟩, -⟩ := sh_0 h.1 h.2
  have n11 : ((-11 : Int32) = 0) = False ∧ ((-12 : Int32) = 0) = False ∧ ((-13 : Int32) = 0) = False ∧ ((2 : Int32) = 0) = False ∧ ((3 : Int32) = 0) = False := by decide
  by_cases hz : I 53 0 = 0
  · by_cases hb : I 53 1 = nI f
    · by_cases hc : IN c (tn (I 53 2))
      · obtain ⟨k, hk, rfl⟩ := hc
        have q1 : ¬ nI k < 0 := nI_pos (by omega)
        have q2 : nI k < I 53 2 := by rw [s3]; exact (nI_ltI (by omega) (by omega)).mpr hk
        refine mkU (v := 1) (I1 := zr I 54 (upd (I 54) k (cutv (nI f) d))) h (fun Q => ?_) (RC_sh h.1 (fun c c1 c2 => zr_n (by omega)) (zr_n (by decide)) (fun s hs => by rw [zr_n (by omega)]; exact h.1.2.2.1 s hs)) (fun c hc => zr_n (by omega)) (fun M J hM => ?_)
        · simp (disch := first | assumption | omega | (simp (disch := omega) only [zr_n, zr_s]; assumption)) only [x69_0, x69_1, x69_2, x69_5, x69_8, x69_9, x69_10, x69_13, x69_16, x69_18, x69_19, x69_20_0, x69_23, x69_24, x69_25, x69_26, x69_27, x69_30, x69_32, x69_34, x69_37, x69_38, x69_40, x69_43, x69_44, x69_45_0, x69_48, x69_49, x69_50, x69_51, x69_53, x69_56, x69_57, gc_0, br_52, aa_52_0, aa_52_1, aa_52_2, aa_52_3, gc_53, bi_54, bs_54, ↓reduceIte, zkl_i, zkl_r, zkl_n, zkl_z, zkl_l, Option.toList_some, Option.toList_none, List.cons_append, List.nil_append, zcs_0, zcs_i, zcs_l, zcs_r, zle8, true_and, and_true, true_or, or_true, c_below, c1, c2, i1_0, if_false, ixN_nI, nI_clamp, c_findingAt_53, hz, hb, q1, q2, if_true, c_put_53]
        · have hl := fun Q => lk3_0 (xl := xl) (J := J) (Q := Q) h.1 hM hz hb hk
          obtain ⟨-, o2, o3, o4, -⟩ := sh_0 h.1 hM
          refine ⟨zr M 68 (upd (M 68) (60 * 0 + k) (cutv (nI f) d)), fun Q => ?_, RM_sh hM (fun c c1 c2 => zr_n (by omega)) (by rw [zr_n (by decide), zr_n (by decide)]; exact hM.2.2.2.2.2.2) (SHm_0 h.1 hM (fun c c1 c2 c3 c4 => zr_n c4) (fun s e => by rw [zr_n (by decide)]) (fun s e => by rw [zr_n (by decide)]) (fun j e => by rw [zr_s, upd_n (by omega)]) ?_ ?_ ?_) (zr_n (by decide)) (zr_n (by decide)) (zr_n (by decide)) (zr_n (by decide)) (fun j hj => by rw [zr_n (by decide)]), fun c hc => zr_n (by omega)⟩
          · simp (disch := first | assumption | omega | (simp (disch := omega) only [zr_n, zr_s]; assumption)) only [x110_0, x110_1, x110_4, x110_7, x110_8, x110_9, x110_10, x110_13, x110_16, x110_19, x110_21, x110_22, x110_23, x110_24, x110_25, x110_26, x110_29, x110_31, x110_33, x110_36, x110_38, x110_39, x110_40_65, x110_43, x110_45, x110_46, x110_47, x110_48, x110_49, x110_50, x110_52, x110_55, x110_56, x110_57, gc_65, bi_68, bs_68, ↓reduceIte, zkl_i, zkl_r, zkl_n, zkl_z, zkl_l, Option.toList_some, Option.toList_none, List.cons_append, List.nil_append, zcs_0, zcs_i, zcs_l, zcs_r, zle8, true_and, and_true, true_or, or_true, m_isSheet, r1, m_in, k64_0, k64_2, i64_lt, r2, i1_0, if_false, hl, if_true, nm_60, nI_add, ixN_nI, nI_clamp, m_cut, cut_eq]
          · rw [zr_n (by decide), zr_n (by decide), if_pos hz]; exact (o4 hz).1
          · rw [zr_n (by decide), zr_n (by decide)]; exact o2
          · rw [zr_n (show 53 ≠ 54 by decide), zr_s, zr_s]
            intro j hj
            by_cases e : j = k
            · subst e; rw [upd_s, upd_s]
            · rw [upd_n (by omega), upd_n e]; exact o3 j hj
      · have q := IN_nlt (by omega) hc
        rw [← s3] at q
        refine mkF (v := -12) (k := 2) h (fun Q => ?_) (fun M J hM Q => ?_)
        · rcases q with q | q
          · simp (disch := first | assumption | omega | (simp (disch := omega) only [zr_n, zr_s]; assumption)) only [x69_0, x69_1, x69_2, x69_5, x69_8, x69_9, x69_10, x69_13, x69_16, x69_18, x69_19, x69_20_0, x69_23, x69_24, x69_25, x69_26, x69_27, x69_30, x69_32, x69_34, x69_37, x69_38, x69_40, x69_43, x69_44, x69_45_0, x69_48, x69_49, x69_50, x69_51, x69_53, x69_56, x69_57, gc_0, br_52, aa_52_0, aa_52_1, aa_52_2, aa_52_3, gc_53, bi_54, bs_54, ↓reduceIte, zkl_i, zkl_r, zkl_n, zkl_z, zkl_l, Option.toList_some, Option.toList_none, List.cons_append, List.nil_append, zcs_0, zcs_i, zcs_l, zcs_r, zle8, true_and, and_true, true_or, or_true, c_below, c1, c2, i1_0, if_false, ixN_nI, nI_clamp, c_findingAt_53, hz, hb, q, if_true, n11, c_found, v11]
          · by_cases q1 : c < 0
            · simp (disch := first | assumption | omega | (simp (disch := omega) only [zr_n, zr_s]; assumption)) only [x69_0, x69_1, x69_2, x69_5, x69_8, x69_9, x69_10, x69_13, x69_16, x69_18, x69_19, x69_20_0, x69_23, x69_24, x69_25, x69_26, x69_27, x69_30, x69_32, x69_34, x69_37, x69_38, x69_40, x69_43, x69_44, x69_45_0, x69_48, x69_49, x69_50, x69_51, x69_53, x69_56, x69_57, gc_0, br_52, aa_52_0, aa_52_1, aa_52_2, aa_52_3, gc_53, bi_54, bs_54, ↓reduceIte, zkl_i, zkl_r, zkl_n, zkl_z, zkl_l, Option.toList_some, Option.toList_none, List.cons_append, List.nil_append, zcs_0, zcs_i, zcs_l, zcs_r, zle8, true_and, and_true, true_or, or_true, c_below, c1, c2, i1_0, if_false, ixN_nI, nI_clamp, c_findingAt_53, hz, hb, q1, if_true, n11, c_found, v11]
            · simp (disch := first | assumption | omega | (simp (disch := omega) only [zr_n, zr_s]; assumption)) only [x69_0, x69_1, x69_2, x69_5, x69_8, x69_9, x69_10, x69_13, x69_16, x69_18, x69_19, x69_20_0, x69_23, x69_24, x69_25, x69_26, x69_27, x69_30, x69_32, x69_34, x69_37, x69_38, x69_40, x69_43, x69_44, x69_45_0, x69_48, x69_49, x69_50, x69_51, x69_53, x69_56, x69_57, gc_0, br_52, aa_52_0, aa_52_1, aa_52_2, aa_52_3, gc_53, bi_54, bs_54, ↓reduceIte, zkl_i, zkl_r, zkl_n, zkl_z, zkl_l, Option.toList_some, Option.toList_none, List.cons_append, List.nil_append, zcs_0, zcs_i, zcs_l, zcs_r, zle8, true_and, and_true, true_or, or_true, c_below, c1, c2, i1_0, if_false, ixN_nI, nI_clamp, c_findingAt_53, hz, hb, q1, q, if_true, n11, c_found, v11]
        · have hl := fun Q => lk2_0 (xl := xl) (J := J) (Q := Q) h.1 hM hz hb hc
          simp (disch := first | assumption | omega | (simp (disch := omega) only [zr_n, zr_s]; assumption)) only [x110_0, x110_1, x110_4, x110_7, x110_8, x110_9, x110_10, x110_13, x110_16, x110_19, x110_21, x110_22, x110_23, x110_24, x110_25, x110_26, x110_29, x110_31, x110_33, x110_36, x110_38, x110_39, x110_40_65, x110_43, x110_45, x110_46, x110_47, x110_48, x110_49, x110_50, x110_52, x110_55, x110_56, x110_57, gc_65, ↓reduceIte, zkl_i, zkl_r, zkl_n, zkl_z, zkl_l, Option.toList_some, Option.toList_none, List.cons_append, List.nil_append, zcs_0, zcs_i, zcs_l, zcs_r, zle8, true_and, and_true, true_or, or_true, m_isSheet, r1, m_in, k64_0, k64_2, i64_lt, r2, i1_0, if_false, hl, n11]
    · refine mkF (v := -13) (k := 3) h (fun Q => ?_) (fun M J hM Q => ?_)
      · simp (disch := first | assumption | omega | (simp (disch := omega) only [zr_n, zr_s]; assumption)) only [x69_0, x69_1, x69_2, x69_5, x69_8, x69_9, x69_10, x69_13, x69_16, x69_18, x69_19, x69_20_0, x69_23, x69_24, x69_25, x69_26, x69_27, x69_30, x69_32, x69_34, x69_37, x69_38, x69_40, x69_43, x69_44, x69_45_0, x69_48, x69_49, x69_50, x69_51, x69_53, x69_56, x69_57, gc_0, br_52, aa_52_0, aa_52_1, aa_52_2, aa_52_3, gc_53, bi_54, bs_54, ↓reduceIte, zkl_i, zkl_r, zkl_n, zkl_z, zkl_l, Option.toList_some, Option.toList_none, List.cons_append, List.nil_append, zcs_0, zcs_i, zcs_l, zcs_r, zle8, true_and, and_true, true_or, or_true, c_below, c1, c2, i1_0, if_false, ixN_nI, nI_clamp, c_findingAt_53, hz, hb, if_true, n11, c_found, v11]
      · have hl := fun Q => lk1_0 (xl := xl) (J := J) (Q := Q) (c := c) h.1 hM hz hb
        simp (disch := first | assumption | omega | (simp (disch := omega) only [zr_n, zr_s]; assumption)) only [x110_0, x110_1, x110_4, x110_7, x110_8, x110_9, x110_10, x110_13, x110_16, x110_19, x110_21, x110_22, x110_23, x110_24, x110_25, x110_26, x110_29, x110_31, x110_33, x110_36, x110_38, x110_39, x110_40_65, x110_43, x110_45, x110_46, x110_47, x110_48, x110_49, x110_50, x110_52, x110_55, x110_56, x110_57, gc_65, ↓reduceIte, zkl_i, zkl_r, zkl_n, zkl_z, zkl_l, Option.toList_some, Option.toList_none, List.cons_append, List.nil_append, zcs_0, zcs_i, zcs_l, zcs_r, zle8, true_and, and_true, true_or, or_true, m_isSheet, r1, m_in, k64_0, k64_2, i64_lt, r2, i1_0, if_false, hl, n11]
  · refine mkF (v := -11) (k := 1) h (fun Q => ?_) (fun M J hM Q => ?_)
    · simp (disch := first | assumption | omega | (simp (disch := omega) only [zr_n, zr_s]; assumption)) only [x69_0, x69_1, x69_2, x69_5, x69_8, x69_9, x69_10, x69_13, x69_16, x69_18, x69_19, x69_20_0, x69_23, x69_24, x69_25, x69_26, x69_27, x69_30, x69_32, x69_34, x69_37, x69_38, x69_40, x69_43, x69_44, x69_45_0, x69_48, x69_49, x69_50, x69_51, x69_53, x69_56, x69_57, gc_0, br_52, aa_52_0, aa_52_1, aa_52_2, aa_52_3, gc_53, bi_54, bs_54, ↓reduceIte, zkl_i, zkl_r, zkl_n, zkl_z, zkl_l, Option.toList_some, Option.toList_none, List.cons_append, List.nil_append, zcs_0, zcs_i, zcs_l, zcs_r, zle8, true_and, and_true, true_or, or_true, c_below, c1, c2, i1_0, if_false, ixN_nI, nI_clamp, c_findingAt_53, hz, n11, c_found, v11]
    · have hl := fun Q => lk0_0 (xl := xl) (J := J) (Q := Q) (b := nI f) (c := c) h.1 hM hz
      simp (disch := first | assumption | omega | (simp (disch := omega) only [zr_n, zr_s]; assumption)) only [x110_0, x110_1, x110_4, x110_7, x110_8, x110_9, x110_10, x110_13, x110_16, x110_19, x110_21, x110_22, x110_23, x110_24, x110_25, x110_26, x110_29, x110_31, x110_33, x110_36, x110_38, x110_39, x110_40_65, x110_43, x110_45, x110_46, x110_47, x110_48, x110_49, x110_50, x110_52, x110_55, x110_56, x110_57, gc_65, ↓reduceIte, zkl_i, zkl_r, zkl_n, zkl_z, zkl_l, Option.toList_some, Option.toList_none, List.cons_append, List.nil_append, zcs_0, zcs_i, zcs_l, zcs_r, zle8, true_and, and_true, true_or, or_true, m_isSheet, r1, m_in, k64_0, k64_2, i64_lt, r2, i1_0, if_false, hl, n11]
theorem k_sheet_0 {f n : Nat} (h : Inv I) (hf : f < 3) (hn : n ≤ 60) : KI xl 67 106 [.ref 0, .int (nI 0), .int (nI f), .int (nI n)] [.ref 65, .int (nI 0), .int (nI f), .int (nI n), .null] I J := by
  have c1 : (if nI 0 < 0 then (0 : Int32) else if nI 0 < 4 then 1 else 0) = 1 := bl1 (n := 4) (by decide) (by decide)
  have r1 : bt (nI 0) 0 3 = 1 := in1 (m := 3) (by decide) (by decide)
  have c2 : (if nI f < 0 then (0 : Int32) else if nI f < 3 then 1 else 0) = 1 := bl1 (n := 3) hf (by decide)
  have r2 : (if nI f < 0 then (0 : Int32) else if 2 < nI f then 0 else 1) = 1 := in1 (m := 2) (by omega) (by decide)
  have n60 : ¬ (60 : Int32) < nI n := by
    rw [show (60 : Int32) = nI 60 from rfl, nI_ltI (by decide) (by omega)]
    omega
  have n0 : ¬ nI n < 0 := nI_pos (by omega)
  have tn' : tn (nI n) = n := nI_clamp (by omega)
  refine mkU (v := nI n) (I1 := zr (zr I 53 (upd (upd (upd (I 53) 0 0) 1 (nI f)) 2 (nI n))) 54 (zfil 60 0 (I 54))) h (fun Q => ?_) (RC_sh h.1 (fun c c1 c2 => by simp (disch := omega) only [zr_n]) (by simp (disch := omega) only [zr_n]) (SHc_1 (S := 0) h.1.2.2.1 (fun s hs e => by simp (disch := omega) only [zr_n]) ?_)) (fun c hc => by simp (disch := omega) only [zr_n]) (fun M J hM => ?_)
  · simp (disch := first | assumption | omega | (simp (disch := omega) only [zr_n, zr_s]; assumption)) only [x67_0, x67_1, x67_2, x67_5, x67_8, x67_9, x67_10, x67_13, x67_16, x67_17, x67_19, x67_22, x67_24, x67_25, x67_26, x67_29, x67_30, x67_31, x67_34, x67_35, x67_36_0, x67_39, x67_40, x67_41, x67_42, x67_43, x67_46, x67_47, gc_0, br_52, aa_52_0, aa_52_1, aa_52_2, aa_52_3, gc_53, ↓reduceIte, zkl_i, zkl_r, zkl_n, zkl_z, zkl_l, Option.toList_some, Option.toList_none, List.cons_append, List.nil_append, zcs_0, zcs_i, zcs_l, zcs_r, zle8, true_and, and_true, true_or, or_true, c_below, c1, c2, i1_0, if_false, n60, n0, ixN_nI, nI_clamp, c_renew_53]
  · show (zr (zr I 53 (upd (upd (upd (I 53) 0 0) 1 (nI f)) 2 (nI n))) 54 (zfil 60 0 (I 54)) 53 0 = 0 ∨ zr (zr I 53 (upd (upd (upd (I 53) 0 0) 1 (nI f)) 2 (nI n))) 54 (zfil 60 0 (I 54)) 53 0 = 1) ∧ ixN (zr (zr I 53 (upd (upd (upd (I 53) 0 0) 1 (nI f)) 2 (nI n))) 54 (zfil 60 0 (I 54)) 53 1) 3 ∧ ixN (zr (zr I 53 (upd (upd (upd (I 53) 0 0) 1 (nI f)) 2 (nI n))) 54 (zfil 60 0 (I 54)) 53 2) 61
    simp (disch := omega) only [zr_n, zr_s, upd_n, upd_s]
    rw [ixN_nI (by omega) (by decide), ixN_nI (by omega) (by decide)]
    exact ⟨Or.inl trivial, trivial, trivial⟩
  · have lp := lpE (R := fun k (u v : Unit) X Q => Rn (zG xl) 106 55 [.ref 65, .int (nI 0), .int (nI f), .int (nI n), .int (nI k)] [] X J Q) (E := fun (u : Unit) X' Q => Q (some (.int (nI n))) X' J) (f := fun _ u => u) (n := n) (P := fun k (u : Unit) X => (∀ c, c ≠ 68 → X c = zr (zr M 66 (upd (M 66) 0 (nI f))) 67 (upd (M 67) 0 (nI n)) c) ∧ (∀ j, j < 60 * 0 ∨ 60 * 0 + 60 ≤ j → X 68 j = M 68 j) ∧ ∀ j, j < k → X 68 (60 * 0 + j) = 0) (P' := fun u X => (∀ c, c ≠ 68 → X c = zr (zr M 66 (upd (M 66) 0 (nI f))) 67 (upd (M 67) 0 (nI n)) c) ∧ (∀ j, j < 60 * 0 ∨ 60 * 0 + 60 ≤ j → X 68 j = M 68 j) ∧ ∀ j, j < n → X 68 (60 * 0 + j) = 0) (fun k u v X hk hP => by
      obtain ⟨p1, p2, p3⟩ := hP
      refine ⟨(), zr X 68 (upd (X 68) (60 * 0 + k) 0), fun Q => ?_, fun c hc => by rw [zr_n hc]; exact p1 c hc, fun j hj => by rw [zr_s, upd_n (by omega)]; exact p2 j hj, fun j hj => ?_⟩
      · show Rn _ _ _ _ _ _ _ _ = Rn _ _ _ _ _ _ _ _
        rw [h106_55]
        simp (disch := first | assumption | omega | (simp (disch := omega) only [zr_n, zr_s]; assumption)) only [x106_57, x106_58, x106_61, x106_62_65, x106_65, x106_67, x106_68, x106_69, x106_71, x106_72, x106_73, x106_74, x106_77, bi_68, bs_68, ↓reduceIte, zkl_i, zkl_r, zkl_n, zkl_z, zkl_l, Option.toList_some, Option.toList_none, List.cons_append, List.nil_append, zcs_0, zcs_i, zcs_l, zcs_r, zle8, true_and, and_true, true_or, or_true, nI_ltI, hk, if_true, nm_60, nI_add, ixN_nI, nI_clamp, na_1]
      · rw [zr_s]
        by_cases e : j = k
        · subst e; rw [upd_s]
        · rw [upd_n (by omega)]; exact p3 j (by omega)) (fun u v X hP => by
      refine ⟨X, fun Q => ?_, hP⟩
      show Rn _ _ _ _ _ _ _ _ = _
      rw [h106_55]
      simp (disch := first | assumption | omega | (simp (disch := omega) only [zr_n, zr_s]; assumption)) only [x106_57, x106_58, x106_61, x106_62_65, x106_65, x106_67, x106_68, x106_69, x106_71, x106_72, x106_73, x106_74, x106_77, x106_80, x106_81, ↓reduceIte, zkl_i, zkl_r, zkl_n, zkl_z, zkl_l, Option.toList_some, Option.toList_none, List.cons_append, List.nil_append, zcs_0, zcs_i, zcs_l, zcs_r, zle8, true_and, and_true, true_or, or_true, nI_ltI, Nat.lt_irrefl, if_false]) n 0 () () (zr (zr M 66 (upd (M 66) 0 (nI f))) 67 (upd (M 67) 0 (nI n))) (Nat.zero_add _) ⟨fun c hc => rfl, fun j hj => by simp (disch := omega) only [zr_n], fun j hj => by omega⟩
    obtain ⟨M', l1, l2, l3, l4⟩ := lp
    have k1 : ∀ c, c ≠ 66 → c ≠ 67 → c ≠ 68 → M' c = M c := fun c a1 a2 a3 => by rw [l2 c a3, zr_n a2, zr_n a1]
    have k66 : M' 66 = upd (M 66) 0 (nI f) := by rw [l2 66 (by decide), zr_n (by decide), zr_s]
    have k67 : M' 67 = upd (M 67) 0 (nI n) := by rw [l2 67 (by decide), zr_s]
    refine ⟨M', fun Q => ?_, RM_sh hM (fun c c1 c2 => by simp (disch := omega) only [zr_n]) (by rw [k1 65 (by decide) (by decide) (by decide)]; simp (disch := omega) only [zr_n]; exact hM.2.2.2.2.2.2) (SHm_0 h.1 hM (fun c c1 c2 c3 c4 => by simp (disch := omega) only [zr_n]) (fun s e => by rw [k66, upd_n e]) (fun s e => by rw [k67, upd_n e]) l3 ?_ ?_ ?_) (k1 70 (by decide) (by decide) (by decide)) (k1 71 (by decide) (by decide) (by decide)) (k1 75 (by decide) (by decide) (by decide)) (k1 87 (by decide) (by decide) (by decide)) (fun j hj => by rw [k1 65 (by decide) (by decide) (by decide)]), fun c hc => k1 c (by omega) (by omega) (by omega)⟩
    · refine Eq.trans ?_ (l1 Q)
      simp (disch := first | assumption | omega | (simp (disch := omega) only [zr_n, zr_s]; assumption)) only [x106_0, x106_1, x106_4, x106_7, x106_8, x106_9, x106_10, x106_13, x106_16, x106_19, x106_20, x106_22, x106_25, x106_27, x106_28, x106_29, x106_32, x106_33, x106_34, x106_37, x106_38, x106_39_65, x106_42, x106_43, x106_44, x106_45, x106_46_65, x106_49, x106_50, x106_51, x106_52, x106_53, bi_66, bs_66, bi_67, bs_67, ↓reduceIte, zkl_i, zkl_r, zkl_n, zkl_z, zkl_l, Option.toList_some, Option.toList_none, List.cons_append, List.nil_append, zcs_0, zcs_i, zcs_l, zcs_r, zle8, true_and, and_true, true_or, or_true, m_isSheet, r1, m_in, k64_0, k64_2, i64_lt, r2, i1_0, if_false, n60, n0, ixN_nI, nI_clamp, zr_n]
      rfl
    · rw [k66, upd_s]
      simp (disch := omega) only [zr_n, zr_s, upd_n, upd_s]
      rw [if_pos trivial]
    · rw [k67, upd_s]
      simp (disch := omega) only [zr_n, zr_s, upd_n, upd_s]
    · simp (disch := omega) only [zr_n, zr_s, upd_n, upd_s]
      rw [tn']
      intro j hj
      rw [l4 j hj, zfil, if_pos (by omega)]
theorem sh_1 (h : RC I) (hM : RM I M) : ((I 55 0 = 0 ∨ I 55 0 = 1) ∧ ixN (I 55 1) 3 ∧ I 55 2 = nI (tn (I 55 2)) ∧ tn (I 55 2) ≤ 60) ∧ M 67 1 = I 55 2 ∧ (∀ j, j < tn (I 55 2) → M 68 (60 * 1 + j) = I 56 j) ∧ (I 55 0 = 0 → M 66 1 = I 55 1 ∧ ¬ I 55 1 < 0) ∧ (¬ I 55 0 = 0 → M 66 1 = -1) := by
  obtain ⟨s1, s2, s3⟩ := h.2.2.1 1 (by decide)
  obtain ⟨o1, o2, o3⟩ := hM.2.2.2.2.2.1 1 (by decide)
  obtain ⟨n, hn, en⟩ := (ixN_iff (by decide)).mp s3
  have en' : I 55 2 = nI n := en
  have tn' : tn (nI n) = n := nI_clamp (by omega)
  refine ⟨⟨s1, s2, by rw [en', tn'], by rw [en', tn']; omega⟩, o2, o3, fun z => ?_, fun z => ?_⟩
  · have o1' : M 66 1 = (if I 55 0 = 0 then I 55 1 else -1) := o1
    rw [if_pos z] at o1'
    obtain ⟨k, hk, ek⟩ := (ixN_iff (by decide)).mp s2
    refine ⟨o1', ?_⟩
    rw [show I 55 1 = nI k from ek]
    exact nI_pos (by omega)
  · have o1' : M 66 1 = (if I 55 0 = 0 then I 55 1 else -1) := o1
    rw [if_neg z] at o1'
    exact o1'
theorem SHm_1 {X M' : zI} (h : RC I) (hM : RM I M) (ho : ∀ c, 53 ≤ c → c < 61 → c ≠ 55 → c ≠ 56 → X c = I c) (h66 : ∀ s, s ≠ 1 → M' 66 s = M 66 s) (h67 : ∀ s, s ≠ 1 → M' 67 s = M 67 s) (h68 : ∀ j, j < 60 * 1 ∨ 60 * 1 + 60 ≤ j → M' 68 j = M 68 j) (n1 : M' 66 1 = (if X 55 0 = 0 then X 55 1 else -1)) (n2 : M' 67 1 = X 55 2) (n3 : ∀ j, j < tn (X 55 2) → M' 68 (60 * 1 + j) = X 56 j) : SHm X M' :=
  SH_1 (S := 1) h.2.2.1 hM.2.2.2.2.2.1 (fun s hs e => ⟨ho _ (by omega) (by omega) (by omega) (by omega), ho _ (by omega) (by omega) (by omega) (by omega), h66 s e, h67 s e, fun j hj => h68 _ (by omega)⟩) ⟨n1, n2, n3⟩
theorem k_lose_1 (h : Inv I) : KI xl 68 107 [.ref 0, .int (nI 1)] [.ref 65, .int (nI 1)] I J := by
  have c1 : (if nI 1 < 0 then (0 : Int32) else if nI 1 < 4 then 1 else 0) = 1 := bl1 (n := 4) (by decide) (by decide)
  have r1 : bt (nI 1) 0 3 = 1 := in1 (m := 3) (by decide) (by decide)
  obtain ⟨⟨s1, s2, s3, s4⟩, -⟩ := sh_1 h.1 h.2
  by_cases hz : I 55 0 = 0
  · refine mkU (v := I 55 2) (I1 := zr I 55 (upd (I 55) 0 1)) h (fun Q => ?_) (RC_sh h.1 (fun c c1 c2 => zr_n (by omega)) (zr_n (by decide)) (SHc_1 (S := 1) h.1.2.2.1 (fun s hs e => zr_n (by omega)) ?_)) (fun c hc => zr_n (by omega)) (fun M J hM => ?_)
    · simp (disch := first | assumption | omega | (simp (disch := omega) only [zr_n, zr_s]; assumption)) only [x68_0, x68_1, x68_2, x68_5, x68_8, x68_10, x68_11, x68_12_0, x68_15, x68_16, x68_17_53, x68_17_55, x68_17_57, x68_17_59, x68_20, x68_23, x68_24, x68_25, x68_28, x68_29, x68_30_0, x68_33, x68_34, x68_35, x68_36_53, x68_36_55, x68_36_57, x68_36_59, x68_39, x68_40_0, x68_43, x68_44, x68_45_53, x68_45_55, x68_45_57, x68_45_59, x68_48, gc_0, br_52, aa_52_0, aa_52_1, aa_52_2, aa_52_3, gc_55, ↓reduceIte, zkl_i, zkl_r, zkl_n, zkl_z, zkl_l, Option.toList_some, Option.toList_none, List.cons_append, List.nil_append, zcs_0, zcs_i, zcs_l, zcs_r, zle8, true_and, and_true, true_or, or_true, c_below, c1, i1_0, if_false, ixN_nI, nI_clamp, hz, if_true, zr_s, upd_n, b1_1]
    · show (zr I 55 (upd (I 55) 0 1) 55 0 = 0 ∨ zr I 55 (upd (I 55) 0 1) 55 0 = 1) ∧ ixN (zr I 55 (upd (I 55) 0 1) 55 1) 3 ∧ ixN (zr I 55 (upd (I 55) 0 1) 55 2) 61
      rw [zr_s, upd_s, upd_n (by decide), upd_n (by decide)]
      exact ⟨Or.inr rfl, s2, by rw [s3, ixN_nI (by omega) (by decide)]; trivial⟩
    · obtain ⟨-, o2, o3, o4, -⟩ := sh_1 h.1 hM
      obtain ⟨o1, nf⟩ := o4 hz
      refine ⟨zr M 66 (upd (M 66) 1 (-1)), fun Q => ?_, RM_sh hM (fun c c1 c2 => zr_n (by omega)) (by rw [zr_n (by decide), zr_n (by decide)]; exact hM.2.2.2.2.2.2) (SHm_1 h.1 hM (fun c c1 c2 c3 c4 => zr_n c3) (fun s e => by rw [zr_s, upd_n e]) (fun s e => by rw [zr_n (by decide)]) (fun j e => by rw [zr_n (by decide)]) ?_ ?_ ?_) (zr_n (by decide)) (zr_n (by decide)) (zr_n (by decide)) (zr_n (by decide)) (fun j hj => by rw [zr_n (by decide)]), fun c hc => zr_n (by omega)⟩
      · simp (disch := first | assumption | omega | (simp (disch := omega) only [zr_n, zr_s]; assumption)) only [x107_0, x107_1, x107_4, x107_7, x107_9, x107_10, x107_11_65, x107_14, x107_15, x107_16, x107_19, x107_20, x107_21, x107_24, x107_25, x107_26_65, x107_29, x107_30, x107_31, x107_32, x107_33_65, x107_36, x107_37, x107_38, gc_65, bi_66, bs_66, bi_67, bs_67, ↓reduceIte, zkl_i, zkl_r, zkl_n, zkl_z, zkl_l, Option.toList_some, Option.toList_none, List.cons_append, List.nil_append, zcs_0, zcs_i, zcs_l, zcs_r, zle8, true_and, and_true, true_or, or_true, m_isSheet, r1, i1_0, if_false, ixN_nI, nI_clamp, o1, o2, nf, zr_n]
      · rw [zr_s, upd_s, zr_s, upd_s, if_neg (by decide)]
      · rw [zr_n (by decide), zr_s, upd_n (by decide)]; exact o2
      · simp (disch := omega) only [zr_n, zr_s, upd_n]
        exact o3
  · refine mkF (v := -11) (k := 1) h (fun Q => ?_) (fun M J hM Q => ?_)
    · simp (disch := first | assumption | omega | (simp (disch := omega) only [zr_n, zr_s]; assumption)) only [x68_0, x68_1, x68_2, x68_5, x68_8, x68_10, x68_11, x68_12_0, x68_15, x68_16, x68_17_53, x68_17_55, x68_17_57, x68_17_59, x68_20, x68_23, x68_24, x68_25, x68_28, x68_29, x68_30_0, x68_33, x68_34, x68_35, x68_36_53, x68_36_55, x68_36_57, x68_36_59, x68_39, x68_40_0, x68_43, x68_44, x68_45_53, x68_45_55, x68_45_57, x68_45_59, x68_48, gc_0, br_52, aa_52_0, aa_52_1, aa_52_2, aa_52_3, gc_55, ↓reduceIte, zkl_i, zkl_r, zkl_n, zkl_z, zkl_l, Option.toList_some, Option.toList_none, List.cons_append, List.nil_append, zcs_0, zcs_i, zcs_l, zcs_r, zle8, true_and, and_true, true_or, or_true, c_below, c1, i1_0, if_false, ixN_nI, nI_clamp, hz, c_found, v11]
    · have o1 := (sh_1 h.1 hM).2.2.2.2 hz
      simp (disch := first | assumption | omega | (simp (disch := omega) only [zr_n, zr_s]; assumption)) only [x107_0, x107_1, x107_4, x107_7, x107_9, x107_10, x107_11_65, x107_14, x107_15, x107_16, x107_19, x107_20, x107_21, x107_24, x107_25, x107_26_65, x107_29, x107_30, x107_31, x107_32, x107_33_65, x107_36, x107_37, x107_38, gc_65, bi_66, bs_66, bi_67, bs_67, ↓reduceIte, zkl_i, zkl_r, zkl_n, zkl_z, zkl_l, Option.toList_some, Option.toList_none, List.cons_append, List.nil_append, zcs_0, zcs_i, zcs_l, zcs_r, zle8, true_and, and_true, true_or, or_true, m_isSheet, r1, i1_0, if_false, ixN_nI, nI_clamp, o1, m1_0, if_true, m_finds, v11]
theorem lk0_1 {Q : zQ} (h : RC I) (hM : RM I M) (hz : ¬ I 55 0 = 0) : Rn (zG xl) 108 0 [.ref 65, .int (nI 1), .int b, .int c] [] M J Q = Q (some (.int (-11))) (zr M 65 (upd (M 65) 4 1)) J := by
  have o1 := (sh_1 h hM).2.2.2.2 hz
  simp (disch := first | assumption | omega | (simp (disch := omega) only [zr_n, zr_s]; assumption)) only [x108_0, x108_1_65, x108_4, x108_5, x108_6, x108_9, x108_10, x108_11, x108_14, x108_15, x108_16_65, x108_19, x108_20, x108_21, x108_22, x108_25, x108_26, x108_27, x108_30, x108_31, x108_32, x108_33, x108_34, x108_35_65, x108_38, x108_39, x108_40, x108_41, x108_42, x108_43, x108_46, x108_49, x108_50, x108_53, x108_54, x108_55, x108_58, gc_65, bi_66, bs_66, ↓reduceIte, zkl_i, zkl_r, zkl_n, zkl_z, zkl_l, Option.toList_some, Option.toList_none, List.cons_append, List.nil_append, zcs_0, zcs_i, zcs_l, zcs_r, zle8, true_and, and_true, true_or, or_true, ixN_nI, nI_clamp, o1, m1_0, if_true, m_finds, v11]
theorem lk1_1 {Q : zQ} (h : RC I) (hM : RM I M) (hz : I 55 0 = 0) (hb : ¬ I 55 1 = b) : Rn (zG xl) 108 0 [.ref 65, .int (nI 1), .int b, .int c] [] M J Q = Q (some (.int (-13))) (zr M 65 (upd (M 65) 4 3)) J := by
  obtain ⟨o1, nf⟩ := (sh_1 h hM).2.2.2.1 hz
  simp (disch := first | assumption | omega | (simp (disch := omega) only [zr_n, zr_s]; assumption)) only [x108_0, x108_1_65, x108_4, x108_5, x108_6, x108_9, x108_10, x108_11, x108_14, x108_15, x108_16_65, x108_19, x108_20, x108_21, x108_22, x108_25, x108_26, x108_27, x108_30, x108_31, x108_32, x108_33, x108_34, x108_35_65, x108_38, x108_39, x108_40, x108_41, x108_42, x108_43, x108_46, x108_49, x108_50, x108_53, x108_54, x108_55, x108_58, gc_65, bi_66, bs_66, ↓reduceIte, zkl_i, zkl_r, zkl_n, zkl_z, zkl_l, Option.toList_some, Option.toList_none, List.cons_append, List.nil_append, zcs_0, zcs_i, zcs_l, zcs_r, zle8, true_and, and_true, true_or, or_true, ixN_nI, nI_clamp, o1, nf, hb, if_false, m_finds, v11]
theorem lk2_1 {Q : zQ} (h : RC I) (hM : RM I M) (hz : I 55 0 = 0) (hb : I 55 1 = b) (hc : ¬ IN c (tn (I 55 2))) : Rn (zG xl) 108 0 [.ref 65, .int (nI 1), .int b, .int c] [] M J Q = Q (some (.int (-12))) (zr M 65 (upd (M 65) 4 2)) J := by
  obtain ⟨⟨-, -, l1, l2⟩, o2, -, o4, -⟩ := sh_1 h hM
  obtain ⟨o1, nf⟩ := o4 hz
  have r : (if c < 0 then (0 : Int32) else if nI (tn (I 55 2)) - 1 < c then 0 else 1) = 0 := bm0 (by omega) hc
  rw [← l1] at r
  simp (disch := first | assumption | omega | (simp (disch := omega) only [zr_n, zr_s]; assumption)) only [x108_0, x108_1_65, x108_4, x108_5, x108_6, x108_9, x108_10, x108_11, x108_14, x108_15, x108_16_65, x108_19, x108_20, x108_21, x108_22, x108_25, x108_26, x108_27, x108_30, x108_31, x108_32, x108_33, x108_34, x108_35_65, x108_38, x108_39, x108_40, x108_41, x108_42, x108_43, x108_46, x108_49, x108_50, x108_53, x108_54, x108_55, x108_58, gc_65, bi_66, bs_66, bi_67, bs_67, ↓reduceIte, zkl_i, zkl_r, zkl_n, zkl_z, zkl_l, Option.toList_some, Option.toList_none, List.cons_append, List.nil_append, zcs_0, zcs_i, zcs_l, zcs_r, zle8, true_and, and_true, true_or, or_true, ixN_nI, nI_clamp, o1, nf, hb, if_true, if_false, o2, m_in, k64_0, i64_lt, r, m_finds, v11]
  rw [hb] at nf
  simp only [nf, if_false]
theorem lk3_1 {Q : zQ} {k : Nat} (h : RC I) (hM : RM I M) (hz : I 55 0 = 0) (hb : I 55 1 = b) (hk : k < tn (I 55 2)) : Rn (zG xl) 108 0 [.ref 65, .int (nI 1), .int b, .int (nI k)] [] M J Q = Q (some (.int 0)) M J := by
  obtain ⟨⟨-, -, l1, l2⟩, o2, -, o4, -⟩ := sh_1 h hM
  obtain ⟨o1, nf⟩ := o4 hz
  have r : (if nI k < 0 then (0 : Int32) else if nI (tn (I 55 2)) - 1 < nI k then 0 else 1) = 1 := bm1 hk (by omega)
  rw [← l1] at r
  simp (disch := first | assumption | omega | (simp (disch := omega) only [zr_n, zr_s]; assumption)) only [x108_0, x108_1_65, x108_4, x108_5, x108_6, x108_9, x108_10, x108_11, x108_14, x108_15, x108_16_65, x108_19, x108_20, x108_21, x108_22, x108_25, x108_26, x108_27, x108_30, x108_31, x108_32, x108_33, x108_34, x108_35_65, x108_38, x108_39, x108_40, x108_41, x108_42, x108_43, x108_46, x108_49, x108_50, x108_53, x108_54, x108_55, x108_58, gc_65, bi_66, bs_66, bi_67, bs_67, ↓reduceIte, zkl_i, zkl_r, zkl_n, zkl_z, zkl_l, Option.toList_some, Option.toList_none, List.cons_append, List.nil_append, zcs_0, zcs_i, zcs_l, zcs_r, zle8, true_and, and_true, true_or, or_true, ixN_nI, nI_clamp, o1, nf, hb, if_true, if_false, o2, m_in, k64_0, i64_lt, r, i1_0]
  rw [hb] at nf
  simp only [nf, if_false]
theorem k_get_1 {f : Nat} (h : Inv I) (hf : f < 3) : KI xl 70 111 [.ref 0, .int (nI 1), .int (nI f), .int c, .null] [.ref 65, .int (nI 1), .int (nI f), .int c] I J := by
  have c1 : (if nI 1 < 0 then (0 : Int32) else if nI 1 < 4 then 1 else 0) = 1 := bl1 (n := 4) (by decide) (by decide)
  have r1 : bt (nI 1) 0 3 = 1 := in1 (m := 3) (by decide) (by decide)
  have c2 : (if nI f < 0 then (0 : Int32) else if nI f < 3 then 1 else 0) = 1 := bl1 (n := 3) hf (by decide)
  have r2 : (if nI f < 0 then (0 : Int32) else if 2 < nI f then 0 else 1) = 1 := in1 (m := 2) (by omega) (by decide)
  obtain ⟨⟨s1, s2, s3, s4⟩, -⟩ := sh_1 h.1 h.2
  have n11 : ((-11 : Int32) = 0) = False ∧ ((-12 : Int32) = 0) = False ∧ ((-13 : Int32) = 0) = False ∧ ((2 : Int32) = 0) = False ∧ ((3 : Int32) = 0) = False := by decide
  by_cases hz : I 55 0 = 0
  · by_cases hb : I 55 1 = nI f
    · by_cases hc : IN c (tn (I 55 2))
      · obtain ⟨k, hk, rfl⟩ := hc
        have q1 : ¬ nI k < 0 := nI_pos (by omega)
        have q2 : nI k < I 55 2 := by rw [s3]; exact (nI_ltI (by omega) (by omega)).mpr hk
        refine mkI (v := I 56 k) (I1 := I) (J1 := J) h (fun Q => ?_) (Tr_refl I) (fun M J hM => ⟨M, fun Q => ?_, hM, Fr_refl M⟩)
        · simp (disch := first | assumption | omega | (simp (disch := omega) only [zr_n, zr_s]; assumption)) only [x70_0, x70_1, x70_2, x70_5, x70_8, x70_9, x70_10, x70_13, x70_16, x70_18, x70_19, x70_20_0, x70_23, x70_24, x70_25, x70_26, x70_27, x70_30, x70_32, x70_34, x70_37, x70_38, x70_40_0, x70_43, x70_45, x70_46, x70_47_0, x70_50, x70_51, x70_52_53, x70_52_55, x70_52_57, x70_52_59, x70_55, x70_56, x70_57, gc_0, br_52, aa_52_0, aa_52_1, aa_52_2, aa_52_3, gc_55, bi_56, bs_56, ↓reduceIte, zkl_i, zkl_r, zkl_n, zkl_z, zkl_l, Option.toList_some, Option.toList_none, List.cons_append, List.nil_append, zcs_0, zcs_i, zcs_l, zcs_r, zle8, true_and, and_true, true_or, or_true, c_below, c1, c2, i1_0, if_false, ixN_nI, nI_clamp, c_findingAt_55, hz, hb, q1, q2, if_true]
        · have hl := fun Q => lk3_1 (xl := xl) (J := J) (Q := Q) h.1 hM hz hb hk
          have o3 := (sh_1 h.1 hM).2.2.1 k hk
          simp (disch := first | assumption | omega | (simp (disch := omega) only [zr_n, zr_s]; assumption)) only [x111_0, x111_1, x111_4, x111_7, x111_8, x111_9, x111_10, x111_13, x111_16, x111_19, x111_20, x111_21, x111_22, x111_23, x111_26, x111_29, x111_31, x111_32, x111_33_65, x111_36, x111_38, x111_39, x111_40, x111_41, x111_42, x111_43, gc_65, bi_68, bs_68, ↓reduceIte, zkl_i, zkl_r, zkl_n, zkl_z, zkl_l, Option.toList_some, Option.toList_none, List.cons_append, List.nil_append, zcs_0, zcs_i, zcs_l, zcs_r, zle8, true_and, and_true, true_or, or_true, m_isSheet, r1, m_in, k64_0, k64_2, i64_lt, r2, i1_0, if_false, hl, if_true, nm_60, nI_add, ixN_nI, nI_clamp, o3]
      · have q := IN_nlt (by omega) hc
        rw [← s3] at q
        refine mkF (v := -2147483648) (k := 2) h (fun Q => ?_) (fun M J hM Q => ?_)
        · rcases q with q | q
          · simp (disch := first | assumption | omega | (simp (disch := omega) only [zr_n, zr_s]; assumption)) only [x70_0, x70_1, x70_2, x70_5, x70_8, x70_9, x70_10, x70_13, x70_16, x70_18, x70_19, x70_20_0, x70_23, x70_24, x70_25, x70_26, x70_27, x70_30, x70_32, x70_34, x70_37, x70_38, x70_40_0, x70_43, x70_45, x70_46, x70_47_0, x70_50, x70_51, x70_52_53, x70_52_55, x70_52_57, x70_52_59, x70_55, x70_56, x70_57, gc_0, br_52, aa_52_0, aa_52_1, aa_52_2, aa_52_3, gc_55, bi_56, bs_56, ↓reduceIte, zkl_i, zkl_r, zkl_n, zkl_z, zkl_l, Option.toList_some, Option.toList_none, List.cons_append, List.nil_append, zcs_0, zcs_i, zcs_l, zcs_r, zle8, true_and, and_true, true_or, or_true, c_below, c1, c2, i1_0, if_false, ixN_nI, nI_clamp, c_findingAt_55, hz, hb, q, if_true, n11]
          · by_cases q1 : c < 0
            · simp (disch := first | assumption | omega | (simp (disch := omega) only [zr_n, zr_s]; assumption)) only [x70_0, x70_1, x70_2, x70_5, x70_8, x70_9, x70_10, x70_13, x70_16, x70_18, x70_19, x70_20_0, x70_23, x70_24, x70_25, x70_26, x70_27, x70_30, x70_32, x70_34, x70_37, x70_38, x70_40_0, x70_43, x70_45, x70_46, x70_47_0, x70_50, x70_51, x70_52_53, x70_52_55, x70_52_57, x70_52_59, x70_55, x70_56, x70_57, gc_0, br_52, aa_52_0, aa_52_1, aa_52_2, aa_52_3, gc_55, bi_56, bs_56, ↓reduceIte, zkl_i, zkl_r, zkl_n, zkl_z, zkl_l, Option.toList_some, Option.toList_none, List.cons_append, List.nil_append, zcs_0, zcs_i, zcs_l, zcs_r, zle8, true_and, and_true, true_or, or_true, c_below, c1, c2, i1_0, if_false, ixN_nI, nI_clamp, c_findingAt_55, hz, hb, q1, if_true, n11]
            · simp (disch := first | assumption | omega | (simp (disch := omega) only [zr_n, zr_s]; assumption)) only [x70_0, x70_1, x70_2, x70_5, x70_8, x70_9, x70_10, x70_13, x70_16, x70_18, x70_19, x70_20_0, x70_23, x70_24, x70_25, x70_26, x70_27, x70_30, x70_32, x70_34, x70_37, x70_38, x70_40_0, x70_43, x70_45, x70_46, x70_47_0, x70_50, x70_51, x70_52_53, x70_52_55, x70_52_57, x70_52_59, x70_55, x70_56, x70_57, gc_0, br_52, aa_52_0, aa_52_1, aa_52_2, aa_52_3, gc_55, bi_56, bs_56, ↓reduceIte, zkl_i, zkl_r, zkl_n, zkl_z, zkl_l, Option.toList_some, Option.toList_none, List.cons_append, List.nil_append, zcs_0, zcs_i, zcs_l, zcs_r, zle8, true_and, and_true, true_or, or_true, c_below, c1, c2, i1_0, if_false, ixN_nI, nI_clamp, c_findingAt_55, hz, hb, q1, q, if_true, n11]
        · have hl := fun Q => lk2_1 (xl := xl) (J := J) (Q := Q) h.1 hM hz hb hc
          simp (disch := first | assumption | omega | (simp (disch := omega) only [zr_n, zr_s]; assumption)) only [x111_0, x111_1, x111_4, x111_7, x111_8, x111_9, x111_10, x111_13, x111_16, x111_19, x111_20, x111_21, x111_22, x111_23, x111_26, x111_29, x111_31, x111_32, x111_33_65, x111_36, x111_38, x111_39, x111_40, x111_41, x111_42, x111_43, gc_65, ↓reduceIte, zkl_i, zkl_r, zkl_n, zkl_z, zkl_l, Option.toList_some, Option.toList_none, List.cons_append, List.nil_append, zcs_0, zcs_i, zcs_l, zcs_r, zle8, true_and, and_true, true_or, or_true, m_isSheet, r1, m_in, k64_0, k64_2, i64_lt, r2, i1_0, if_false, hl, n11]
    · refine mkF (v := -2147483648) (k := 3) h (fun Q => ?_) (fun M J hM Q => ?_)
      · simp (disch := first | assumption | omega | (simp (disch := omega) only [zr_n, zr_s]; assumption)) only [x70_0, x70_1, x70_2, x70_5, x70_8, x70_9, x70_10, x70_13, x70_16, x70_18, x70_19, x70_20_0, x70_23, x70_24, x70_25, x70_26, x70_27, x70_30, x70_32, x70_34, x70_37, x70_38, x70_40_0, x70_43, x70_45, x70_46, x70_47_0, x70_50, x70_51, x70_52_53, x70_52_55, x70_52_57, x70_52_59, x70_55, x70_56, x70_57, gc_0, br_52, aa_52_0, aa_52_1, aa_52_2, aa_52_3, gc_55, bi_56, bs_56, ↓reduceIte, zkl_i, zkl_r, zkl_n, zkl_z, zkl_l, Option.toList_some, Option.toList_none, List.cons_append, List.nil_append, zcs_0, zcs_i, zcs_l, zcs_r, zle8, true_and, and_true, true_or, or_true, c_below, c1, c2, i1_0, if_false, ixN_nI, nI_clamp, c_findingAt_55, hz, hb, if_true, n11]
      · have hl := fun Q => lk1_1 (xl := xl) (J := J) (Q := Q) (c := c) h.1 hM hz hb
        simp (disch := first | assumption | omega | (simp (disch := omega) only [zr_n, zr_s]; assumption)) only [x111_0, x111_1, x111_4, x111_7, x111_8, x111_9, x111_10, x111_13, x111_16, x111_19, x111_20, x111_21, x111_22, x111_23, x111_26, x111_29, x111_31, x111_32, x111_33_65, x111_36, x111_38, x111_39, x111_40, x111_41, x111_42, x111_43, gc_65, ↓reduceIte, zkl_i, zkl_r, zkl_n, zkl_z, zkl_l, Option.toList_some, Option.toList_none, List.cons_append, List.nil_append, zcs_0, zcs_i, zcs_l, zcs_r, zle8, true_and, and_true, true_or, or_true, m_isSheet, r1, m_in, k64_0, k64_2, i64_lt, r2, i1_0, if_false, hl, n11]
  · refine mkF (v := -2147483648) (k := 1) h (fun Q => ?_) (fun M J hM Q => ?_)
    · simp (disch := first | assumption | omega | (simp (disch := omega) only [zr_n, zr_s]; assumption)) only [x70_0, x70_1, x70_2, x70_5, x70_8, x70_9, x70_10, x70_13, x70_16, x70_18, x70_19, x70_20_0, x70_23, x70_24, x70_25, x70_26, x70_27, x70_30, x70_32, x70_34, x70_37, x70_38, x70_40_0, x70_43, x70_45, x70_46, x70_47_0, x70_50, x70_51, x70_52_53, x70_52_55, x70_52_57, x70_52_59, x70_55, x70_56, x70_57, gc_0, br_52, aa_52_0, aa_52_1, aa_52_2, aa_52_3, gc_55, bi_56, bs_56, ↓reduceIte, zkl_i, zkl_r, zkl_n, zkl_z, zkl_l, Option.toList_some, Option.toList_none, List.cons_append, List.nil_append, zcs_0, zcs_i, zcs_l, zcs_r, zle8, true_and, and_true, true_or, or_true, c_below, c1, c2, i1_0, if_false, ixN_nI, nI_clamp, c_findingAt_55, hz, n11]
    · have hl := fun Q => lk0_1 (xl := xl) (J := J) (Q := Q) (b := nI f) (c := c) h.1 hM hz
      simp (disch := first | assumption | omega | (simp (disch := omega) only [zr_n, zr_s]; assumption)) only [x111_0, x111_1, x111_4, x111_7, x111_8, x111_9, x111_10, x111_13, x111_16, x111_19, x111_20, x111_21, x111_22, x111_23, x111_26, x111_29, x111_31, x111_32, x111_33_65, x111_36, x111_38, x111_39, x111_40, x111_41, x111_42, x111_43, gc_65, ↓reduceIte, zkl_i, zkl_r, zkl_n, zkl_z, zkl_l, Option.toList_some, Option.toList_none, List.cons_append, List.nil_append, zcs_0, zcs_i, zcs_l, zcs_r, zle8, true_and, and_true, true_or, or_true, m_isSheet, r1, m_in, k64_0, k64_2, i64_lt, r2, i1_0, if_false, hl, n11]
theorem k_lay_1 {f : Nat} (h : Inv I) (hf : f < 3) : KI xl 69 110 [.ref 0, .int (nI 1), .int (nI f), .int c, .int d, .null] [.ref 65, .int (nI 1), .int (nI f), .int c, .int d, .null] I J := by
  have c1 : (if nI 1 < 0 then (0 : Int32) else if nI 1 < 4 then 1 else 0) = 1 := bl1 (n := 4) (by decide) (by decide)
  have r1 : bt (nI 1) 0 3 = 1 := in1 (m := 3) (by decide) (by decide)
  have c2 : (if nI f < 0 then (0 : Int32) else if nI f < 3 then 1 else 0) = 1 := bl1 (n := 3) hf (by decide)
  have r2 : (if nI f < 0 then (0 : Int32) else if 2 < nI f then 0 else 1) = 1 := in1 (m := 2) (by omega) (by decide)
  obtain ⟨⟨s1, s2, s3, s4⟩, -⟩ := sh_1 h.1 h.2
  have n11 : ((-11 : Int32) = 0) = False ∧ ((-12 : Int32) = 0) = False ∧ ((-13 : Int32) = 0) = False ∧ ((2 : Int32) = 0) = False ∧ ((3 : Int32) = 0) = False := by decide
  by_cases hz : I 55 0 = 0
  · by_cases hb : I 55 1 = nI f
    · by_cases hc : IN c (tn (I 55 2))
      · obtain ⟨k, hk, rfl⟩ := hc
        have q1 : ¬ nI k < 0 := nI_pos (by omega)
        have q2 : nI k < I 55 2 := by rw [s3]; exact (nI_ltI (by omega) (by omega)).mpr hk
        refine mkU (v := 1) (I1 := zr I 56 (upd (I 56) k (cutv (nI f) d))) h (fun Q => ?_) (RC_sh h.1 (fun c c1 c2 => zr_n (by omega)) (zr_n (by decide)) (fun s hs => by rw [zr_n (by omega)]; exact h.1.2.2.1 s hs)) (fun c hc => zr_n (by omega)) (fun M J hM => ?_)
        · simp (disch := first | assumption | omega | (simp (disch := omega) only [zr_n, zr_s]; assumption)) only [x69_0, x69_1, x69_2, x69_5, x69_8, x69_9, x69_10, x69_13, x69_16, x69_18, x69_19, x69_20_0, x69_23, x69_24, x69_25, x69_26, x69_27, x69_30, x69_32, x69_34, x69_37, x69_38, x69_40, x69_43, x69_44, x69_45_0, x69_48, x69_49, x69_50, x69_51, x69_53, x69_56, x69_57, gc_0, br_52, aa_52_0, aa_52_1, aa_52_2, aa_52_3, gc_55, bi_56, bs_56, ↓reduceIte, zkl_i, zkl_r, zkl_n, zkl_z, zkl_l, Option.toList_some, Option.toList_none, List.cons_append, List.nil_append, zcs_0, zcs_i, zcs_l, zcs_r, zle8, true_and, and_true, true_or, or_true, c_below, c1, c2, i1_0, if_false, ixN_nI, nI_clamp, c_findingAt_55, hz, hb, q1, q2, if_true, c_put_55]
        · have hl := fun Q => lk3_1 (xl := xl) (J := J) (Q := Q) h.1 hM hz hb hk
          obtain ⟨-, o2, o3, o4, -⟩ := sh_1 h.1 hM
          refine ⟨zr M 68 (upd (M 68) (60 * 1 + k) (cutv (nI f) d)), fun Q => ?_, RM_sh hM (fun c c1 c2 => zr_n (by omega)) (by rw [zr_n (by decide), zr_n (by decide)]; exact hM.2.2.2.2.2.2) (SHm_1 h.1 hM (fun c c1 c2 c3 c4 => zr_n c4) (fun s e => by rw [zr_n (by decide)]) (fun s e => by rw [zr_n (by decide)]) (fun j e => by rw [zr_s, upd_n (by omega)]) ?_ ?_ ?_) (zr_n (by decide)) (zr_n (by decide)) (zr_n (by decide)) (zr_n (by decide)) (fun j hj => by rw [zr_n (by decide)]), fun c hc => zr_n (by omega)⟩
          · simp (disch := first | assumption | omega | (simp (disch := omega) only [zr_n, zr_s]; assumption)) only [x110_0, x110_1, x110_4, x110_7, x110_8, x110_9, x110_10, x110_13, x110_16, x110_19, x110_21, x110_22, x110_23, x110_24, x110_25, x110_26, x110_29, x110_31, x110_33, x110_36, x110_38, x110_39, x110_40_65, x110_43, x110_45, x110_46, x110_47, x110_48, x110_49, x110_50, x110_52, x110_55, x110_56, x110_57, gc_65, bi_68, bs_68, ↓reduceIte, zkl_i, zkl_r, zkl_n, zkl_z, zkl_l, Option.toList_some, Option.toList_none, List.cons_append, List.nil_append, zcs_0, zcs_i, zcs_l, zcs_r, zle8, true_and, and_true, true_or, or_true, m_isSheet, r1, m_in, k64_0, k64_2, i64_lt, r2, i1_0, if_false, hl, if_true, nm_60, nI_add, ixN_nI, nI_clamp, m_cut, cut_eq]
          · rw [zr_n (by decide), zr_n (by decide), if_pos hz]; exact (o4 hz).1
          · rw [zr_n (by decide), zr_n (by decide)]; exact o2
          · rw [zr_n (show 55 ≠ 56 by decide), zr_s, zr_s]
            intro j hj
            by_cases e : j = k
            · subst e; rw [upd_s, upd_s]
            · rw [upd_n (by omega), upd_n e]; exact o3 j hj
      · have q := IN_nlt (by omega) hc
        rw [← s3] at q
        refine mkF (v := -12) (k := 2) h (fun Q => ?_) (fun M J hM Q => ?_)
        · rcases q with q | q
          · simp (disch := first | assumption | omega | (simp (disch := omega) only [zr_n, zr_s]; assumption)) only [x69_0, x69_1, x69_2, x69_5, x69_8, x69_9, x69_10, x69_13, x69_16, x69_18, x69_19, x69_20_0, x69_23, x69_24, x69_25, x69_26, x69_27, x69_30, x69_32, x69_34, x69_37, x69_38, x69_40, x69_43, x69_44, x69_45_0, x69_48, x69_49, x69_50, x69_51, x69_53, x69_56, x69_57, gc_0, br_52, aa_52_0, aa_52_1, aa_52_2, aa_52_3, gc_55, bi_56, bs_56, ↓reduceIte, zkl_i, zkl_r, zkl_n, zkl_z, zkl_l, Option.toList_some, Option.toList_none, List.cons_append, List.nil_append, zcs_0, zcs_i, zcs_l, zcs_r, zle8, true_and, and_true, true_or, or_true, c_below, c1, c2, i1_0, if_false, ixN_nI, nI_clamp, c_findingAt_55, hz, hb, q, if_true, n11, c_found, v11]
          · by_cases q1 : c < 0
            · simp (disch := first | assumption | omega | (simp (disch := omega) only [zr_n, zr_s]; assumption)) only [x69_0, x69_1, x69_2, x69_5, x69_8, x69_9, x69_10, x69_13, x69_16, x69_18, x69_19, x69_20_0, x69_23, x69_24, x69_25, x69_26, x69_27, x69_30, x69_32, x69_34, x69_37, x69_38, x69_40, x69_43, x69_44, x69_45_0, x69_48, x69_49, x69_50, x69_51, x69_53, x69_56, x69_57, gc_0, br_52, aa_52_0, aa_52_1, aa_52_2, aa_52_3, gc_55, bi_56, bs_56, ↓reduceIte, zkl_i, zkl_r, zkl_n, zkl_z, zkl_l, Option.toList_some, Option.toList_none, List.cons_append, List.nil_append, zcs_0, zcs_i, zcs_l, zcs_r, zle8, true_and, and_true, true_or, or_true, c_below, c1, c2, i1_0, if_false, ixN_nI, nI_clamp, c_findingAt_55, hz, hb, q1, if_true, n11, c_found, v11]
            · simp (disch := first | assumption | omega | (simp (disch := omega) only [zr_n, zr_s]; assumption)) only [x69_0, x69_1, x69_2, x69_5, x69_8, x69_9, x69_10, x69_13, x69_16, x69_18, x69_19, x69_20_0, x69_23, x69_24, x69_25, x69_26, x69_27, x69_30, x69_32, x69_34, x69_37, x69_38, x69_40, x69_43, x69_44, x69_45_0, x69_48, x69_49, x69_50, x69_51, x69_53, x69_56, x69_57, gc_0, br_52, aa_52_0, aa_52_1, aa_52_2, aa_52_3, gc_55, bi_56, bs_56, ↓reduceIte, zkl_i, zkl_r, zkl_n, zkl_z, zkl_l, Option.toList_some, Option.toList_none, List.cons_append, List.nil_append, zcs_0, zcs_i, zcs_l, zcs_r, zle8, true_and, and_true, true_or, or_true, c_below, c1, c2, i1_0, if_false, ixN_nI, nI_clamp, c_findingAt_55, hz, hb, q1, q, if_true, n11, c_found, v11]
        · have hl := fun Q => lk2_1 (xl := xl) (J := J) (Q := Q) h.1 hM hz hb hc
          simp (disch := first | assumption | omega | (simp (disch := omega) only [zr_n, zr_s]; assumption)) only [x110_0, x110_1, x110_4, x110_7, x110_8, x110_9, x110_10, x110_13, x110_16, x110_19, x110_21, x110_22, x110_23, x110_24, x110_25, x110_26, x110_29, x110_31, x110_33, x110_36, x110_38, x110_39, x110_40_65, x110_43, x110_45, x110_46, x110_47, x110_48, x110_49, x110_50, x110_52, x110_55, x110_56, x110_57, gc_65, ↓reduceIte, zkl_i, zkl_r, zkl_n, zkl_z, zkl_l, Option.toList_some, Option.toList_none, List.cons_append, List.nil_append, zcs_0, zcs_i, zcs_l, zcs_r, zle8, true_and, and_true, true_or, or_true, m_isSheet, r1, m_in, k64_0, k64_2, i64_lt, r2, i1_0, if_false, hl, n11]
    · refine mkF (v := -13) (k := 3) h (fun Q => ?_) (fun M J hM Q => ?_)
      · simp (disch := first | assumption | omega | (simp (disch := omega) only [zr_n, zr_s]; assumption)) only [x69_0, x69_1, x69_2, x69_5, x69_8, x69_9, x69_10, x69_13, x69_16, x69_18, x69_19, x69_20_0, x69_23, x69_24, x69_25, x69_26, x69_27, x69_30, x69_32, x69_34, x69_37, x69_38, x69_40, x69_43, x69_44, x69_45_0, x69_48, x69_49, x69_50, x69_51, x69_53, x69_56, x69_57, gc_0, br_52, aa_52_0, aa_52_1, aa_52_2, aa_52_3, gc_55, bi_56, bs_56, ↓reduceIte, zkl_i, zkl_r, zkl_n, zkl_z, zkl_l, Option.toList_some, Option.toList_none, List.cons_append, List.nil_append, zcs_0, zcs_i, zcs_l, zcs_r, zle8, true_and, and_true, true_or, or_true, c_below, c1, c2, i1_0, if_false, ixN_nI, nI_clamp, c_findingAt_55, hz, hb, if_true, n11, c_found, v11]
      · have hl := fun Q => lk1_1 (xl := xl) (J := J) (Q := Q) (c := c) h.1 hM hz hb
        simp (disch := first | assumption | omega | (simp (disch := omega) only [zr_n, zr_s]; assumption)) only [x110_0, x110_1, x110_4, x110_7, x110_8, x110_9, x110_10, x110_13, x110_16, x110_19, x110_21, x110_22, x110_23, x110_24, x110_25, x110_26, x110_29, x110_31, x110_33, x110_36, x110_38, x110_39, x110_40_65, x110_43, x110_45, x110_46, x110_47, x110_48, x110_49, x110_50, x110_52, x110_55, x110_56, x110_57, gc_65, ↓reduceIte, zkl_i, zkl_r, zkl_n, zkl_z, zkl_l, Option.toList_some, Option.toList_none, List.cons_append, List.nil_append, zcs_0, zcs_i, zcs_l, zcs_r, zle8, true_and, and_true, true_or, or_true, m_isSheet, r1, m_in, k64_0, k64_2, i64_lt, r2, i1_0, if_false, hl, n11]
  · refine mkF (v := -11) (k := 1) h (fun Q => ?_) (fun M J hM Q => ?_)
    · simp (disch := first | assumption | omega | (simp (disch := omega) only [zr_n, zr_s]; assumption)) only [x69_0, x69_1, x69_2, x69_5, x69_8, x69_9, x69_10, x69_13, x69_16, x69_18, x69_19, x69_20_0, x69_23, x69_24, x69_25, x69_26, x69_27, x69_30, x69_32, x69_34, x69_37, x69_38, x69_40, x69_43, x69_44, x69_45_0, x69_48, x69_49, x69_50, x69_51, x69_53, x69_56, x69_57, gc_0, br_52, aa_52_0, aa_52_1, aa_52_2, aa_52_3, gc_55, bi_56, bs_56, ↓reduceIte, zkl_i, zkl_r, zkl_n, zkl_z, zkl_l, Option.toList_some, Option.toList_none, List.cons_append, List.nil_append, zcs_0, zcs_i, zcs_l, zcs_r, zle8, true_and, and_true, true_or, or_true, c_below, c1, c2, i1_0, if_false, ixN_nI, nI_clamp, c_findingAt_55, hz, n11, c_found, v11]
    · have hl := fun Q => lk0_1 (xl := xl) (J := J) (Q := Q) (b := nI f) (c := c) h.1 hM hz
      simp (disch := first | assumption | omega | (simp (disch := omega) only [zr_n, zr_s]; assumption)) only [x110_0, x110_1, x110_4, x110_7, x110_8, x110_9, x110_10, x110_13, x110_16, x110_19, x110_21, x110_22, x110_23, x110_24, x110_25, x110_26, x110_29, x110_31, x110_33, x110_36, x110_38, x110_39, x110_40_65, x110_43, x110_45, x110_46, x110_47, x110_48, x110_49, x110_50, x110_52, x110_55, x110_56, x110_57, gc_65, ↓reduceIte, zkl_i, zkl_r, zkl_n, zkl_z, zkl_l, Option.toList_some, Option.toList_none, List.cons_append, List.nil_append, zcs_0, zcs_i, zcs_l, zcs_r, zle8, true_and, and_true, true_or, or_true, m_isSheet, r1, m_in, k64_0, k64_2, i64_lt, r2, i1_0, if_false, hl, n11]
theorem k_sheet_1 {f n : Nat} (h : Inv I) (hf : f < 3) (hn : n ≤ 60) : KI xl 67 106 [.ref 0, .int (nI 1), .int (nI f), .int (nI n)] [.ref 65, .int (nI 1), .int (nI f), .int (nI n), .null] I J := by
  have c1 : (if nI 1 < 0 then (0 : Int32) else if nI 1 < 4 then 1 else 0) = 1 := bl1 (n := 4) (by decide) (by decide)
  have r1 : bt (nI 1) 0 3 = 1 := in1 (m := 3) (by decide) (by decide)
  have c2 : (if nI f < 0 then (0 : Int32) else if nI f < 3 then 1 else 0) = 1 := bl1 (n := 3) hf (by decide)
  have r2 : (if nI f < 0 then (0 : Int32) else if 2 < nI f then 0 else 1) = 1 := in1 (m := 2) (by omega) (by decide)
  have n60 : ¬ (60 : Int32) < nI n := by
    rw [show (60 : Int32) = nI 60 from rfl, nI_ltI (by decide) (by omega)]
    omega
  have n0 : ¬ nI n < 0 := nI_pos (by omega)
  have tn' : tn (nI n) = n := nI_clamp (by omega)
  refine mkU (v := nI n) (I1 := zr (zr I 55 (upd (upd (upd (I 55) 0 0) 1 (nI f)) 2 (nI n))) 56 (zfil 60 0 (I 56))) h (fun Q => ?_) (RC_sh h.1 (fun c c1 c2 => by simp (disch := omega) only [zr_n]) (by simp (disch := omega) only [zr_n]) (SHc_1 (S := 1) h.1.2.2.1 (fun s hs e => by simp (disch := omega) only [zr_n]) ?_)) (fun c hc => by simp (disch := omega) only [zr_n]) (fun M J hM => ?_)
  · simp (disch := first | assumption | omega | (simp (disch := omega) only [zr_n, zr_s]; assumption)) only [x67_0, x67_1, x67_2, x67_5, x67_8, x67_9, x67_10, x67_13, x67_16, x67_17, x67_19, x67_22, x67_24, x67_25, x67_26, x67_29, x67_30, x67_31, x67_34, x67_35, x67_36_0, x67_39, x67_40, x67_41, x67_42, x67_43, x67_46, x67_47, gc_0, br_52, aa_52_0, aa_52_1, aa_52_2, aa_52_3, gc_55, ↓reduceIte, zkl_i, zkl_r, zkl_n, zkl_z, zkl_l, Option.toList_some, Option.toList_none, List.cons_append, List.nil_append, zcs_0, zcs_i, zcs_l, zcs_r, zle8, true_and, and_true, true_or, or_true, c_below, c1, c2, i1_0, if_false, n60, n0, ixN_nI, nI_clamp, c_renew_55]
  · show (zr (zr I 55 (upd (upd (upd (I 55) 0 0) 1 (nI f)) 2 (nI n))) 56 (zfil 60 0 (I 56)) 55 0 = 0 ∨ zr (zr I 55 (upd (upd (upd (I 55) 0 0) 1 (nI f)) 2 (nI n))) 56 (zfil 60 0 (I 56)) 55 0 = 1) ∧ ixN (zr (zr I 55 (upd (upd (upd (I 55) 0 0) 1 (nI f)) 2 (nI n))) 56 (zfil 60 0 (I 56)) 55 1) 3 ∧ ixN (zr (zr I 55 (upd (upd (upd (I 55) 0 0) 1 (nI f)) 2 (nI n))) 56 (zfil 60 0 (I 56)) 55 2) 61
    simp (disch := omega) only [zr_n, zr_s, upd_n, upd_s]
    rw [ixN_nI (by omega) (by decide), ixN_nI (by omega) (by decide)]
    exact ⟨Or.inl trivial, trivial, trivial⟩
  · have lp := lpE (R := fun k (u v : Unit) X Q => Rn (zG xl) 106 55 [.ref 65, .int (nI 1), .int (nI f), .int (nI n), .int (nI k)] [] X J Q) (E := fun (u : Unit) X' Q => Q (some (.int (nI n))) X' J) (f := fun _ u => u) (n := n) (P := fun k (u : Unit) X => (∀ c, c ≠ 68 → X c = zr (zr M 66 (upd (M 66) 1 (nI f))) 67 (upd (M 67) 1 (nI n)) c) ∧ (∀ j, j < 60 * 1 ∨ 60 * 1 + 60 ≤ j → X 68 j = M 68 j) ∧ ∀ j, j < k → X 68 (60 * 1 + j) = 0) (P' := fun u X => (∀ c, c ≠ 68 → X c = zr (zr M 66 (upd (M 66) 1 (nI f))) 67 (upd (M 67) 1 (nI n)) c) ∧ (∀ j, j < 60 * 1 ∨ 60 * 1 + 60 ≤ j → X 68 j = M 68 j) ∧ ∀ j, j < n → X 68 (60 * 1 + j) = 0) (fun k u v X hk hP => by
      obtain ⟨p1, p2, p3⟩ := hP
      refine ⟨(), zr X 68 (upd (X 68) (60 * 1 + k) 0), fun Q => ?_, fun c hc => by rw [zr_n hc]; exact p1 c hc, fun j hj => by rw [zr_s, upd_n (by omega)]; exact p2 j hj, fun j hj => ?_⟩
      · show Rn _ _ _ _ _ _ _ _ = Rn _ _ _ _ _ _ _ _
        rw [h106_55]
        simp (disch := first | assumption | omega | (simp (disch := omega) only [zr_n, zr_s]; assumption)) only [x106_57, x106_58, x106_61, x106_62_65, x106_65, x106_67, x106_68, x106_69, x106_71, x106_72, x106_73, x106_74, x106_77, bi_68, bs_68, ↓reduceIte, zkl_i, zkl_r, zkl_n, zkl_z, zkl_l, Option.toList_some, Option.toList_none, List.cons_append, List.nil_append, zcs_0, zcs_i, zcs_l, zcs_r, zle8, true_and, and_true, true_or, or_true, nI_ltI, hk, if_true, nm_60, nI_add, ixN_nI, nI_clamp, na_1]
      · rw [zr_s]
        by_cases e : j = k
        · subst e; rw [upd_s]
        · rw [upd_n (by omega)]; exact p3 j (by omega)) (fun u v X hP => by
      refine ⟨X, fun Q => ?_, hP⟩
      show Rn _ _ _ _ _ _ _ _ = _
      rw [h106_55]
      simp (disch := first | assumption | omega | (simp (disch := omega) only [zr_n, zr_s]; assumption)) only [x106_57, x106_58, x106_61, x106_62_65, x106_65, x106_67, x106_68, x106_69, x106_71, x106_72, x106_73, x106_74, x106_77, x106_80, x106_81, ↓reduceIte, zkl_i, zkl_r, zkl_n, zkl_z, zkl_l, Option.toList_some, Option.toList_none, List.cons_append, List.nil_append, zcs_0, zcs_i, zcs_l, zcs_r, zle8, true_and, and_true, true_or, or_true, nI_ltI, Nat.lt_irrefl, if_false]) n 0 () () (zr (zr M 66 (upd (M 66) 1 (nI f))) 67 (upd (M 67) 1 (nI n))) (Nat.zero_add _) ⟨fun c hc => rfl, fun j hj => by simp (disch := omega) only [zr_n], fun j hj => by omega⟩
    obtain ⟨M', l1, l2, l3, l4⟩ := lp
    have k1 : ∀ c, c ≠ 66 → c ≠ 67 → c ≠ 68 → M' c = M c := fun c a1 a2 a3 => by rw [l2 c a3, zr_n a2, zr_n a1]
    have k66 : M' 66 = upd (M 66) 1 (nI f) := by rw [l2 66 (by decide), zr_n (by decide), zr_s]
    have k67 : M' 67 = upd (M 67) 1 (nI n) := by rw [l2 67 (by decide), zr_s]
    refine ⟨M', fun Q => ?_, RM_sh hM (fun c c1 c2 => by simp (disch := omega) only [zr_n]) (by rw [k1 65 (by decide) (by decide) (by decide)]; simp (disch := omega) only [zr_n]; exact hM.2.2.2.2.2.2) (SHm_1 h.1 hM (fun c c1 c2 c3 c4 => by simp (disch := omega) only [zr_n]) (fun s e => by rw [k66, upd_n e]) (fun s e => by rw [k67, upd_n e]) l3 ?_ ?_ ?_) (k1 70 (by decide) (by decide) (by decide)) (k1 71 (by decide) (by decide) (by decide)) (k1 75 (by decide) (by decide) (by decide)) (k1 87 (by decide) (by decide) (by decide)) (fun j hj => by rw [k1 65 (by decide) (by decide) (by decide)]), fun c hc => k1 c (by omega) (by omega) (by omega)⟩
    · refine Eq.trans ?_ (l1 Q)
      simp (disch := first | assumption | omega | (simp (disch := omega) only [zr_n, zr_s]; assumption)) only [x106_0, x106_1, x106_4, x106_7, x106_8, x106_9, x106_10, x106_13, x106_16, x106_19, x106_20, x106_22, x106_25, x106_27, x106_28, x106_29, x106_32, x106_33, x106_34, x106_37, x106_38, x106_39_65, x106_42, x106_43, x106_44, x106_45, x106_46_65, x106_49, x106_50, x106_51, x106_52, x106_53, bi_66, bs_66, bi_67, bs_67, ↓reduceIte, zkl_i, zkl_r, zkl_n, zkl_z, zkl_l, Option.toList_some, Option.toList_none, List.cons_append, List.nil_append, zcs_0, zcs_i, zcs_l, zcs_r, zle8, true_and, and_true, true_or, or_true, m_isSheet, r1, m_in, k64_0, k64_2, i64_lt, r2, i1_0, if_false, n60, n0, ixN_nI, nI_clamp, zr_n]
      rfl
    · rw [k66, upd_s]
      simp (disch := omega) only [zr_n, zr_s, upd_n, upd_s]
      rw [if_pos trivial]
    · rw [k67, upd_s]
      simp (disch := omega) only [zr_n, zr_s, upd_n, upd_s]
    · simp (disch := omega) only [zr_n, zr_s, upd_n, upd_s]
      rw [tn']
      intro j hj
      rw [l4 j hj, zfil, if_pos (by omega)]
theorem sh_2 (h : RC I) (hM : RM I M) : ((I 57 0 = 0 ∨ I 57 0 = 1) ∧ ixN (I 57 1) 3 ∧ I 57 2 = nI (tn (I 57 2)) ∧ tn (I 57 2) ≤ 60) ∧ M 67 2 = I 57 2 ∧ (∀ j, j < tn (I 57 2) → M 68 (60 * 2 + j) = I 58 j) ∧ (I 57 0 = 0 → M 66 2 = I 57 1 ∧ ¬ I 57 1 < 0) ∧ (¬ I 57 0 = 0 → M 66 2 = -1) := by
  obtain ⟨s1, s2, s3⟩ := h.2.2.1 2 (by decide)
  obtain ⟨o1, o2, o3⟩ := hM.2.2.2.2.2.1 2 (by decide)
  obtain ⟨n, hn, en⟩ := (ixN_iff (by decide)).mp s3
  have en' : I 57 2 = nI n := en
  have tn' : tn (nI n) = n := nI_clamp (by omega)
  refine ⟨⟨s1, s2, by rw [en', tn'], by rw [en', tn']; omega⟩, o2, o3, fun z => ?_, fun z => ?_⟩
  · have o1' : M 66 2 = (if I 57 0 = 0 then I 57 1 else -1) := o1
    rw [if_pos z] at o1'
    obtain ⟨k, hk, ek⟩ := (ixN_iff (by decide)).mp s2
    refine ⟨o1', ?_⟩
    rw [show I 57 1 = nI k from ek]
    exact nI_pos (by omega)
  · have o1' : M 66 2 = (if I 57 0 = 0 then I 57 1 else -1) := o1
    rw [if_neg z] at o1'
    exact o1'
theorem SHm_2 {X M' : zI} (h : RC I) (hM : RM I M) (ho : ∀ c, 53 ≤ c → c < 61 → c ≠ 57 → c ≠ 58 → X c = I c) (h66 : ∀ s, s ≠ 2 → M' 66 s = M 66 s) (h67 : ∀ s, s ≠ 2 → M' 67 s = M 67 s) (h68 : ∀ j, j < 60 * 2 ∨ 60 * 2 + 60 ≤ j → M' 68 j = M 68 j) (n1 : M' 66 2 = (if X 57 0 = 0 then X 57 1 else -1)) (n2 : M' 67 2 = X 57 2) (n3 : ∀ j, j < tn (X 57 2) → M' 68 (60 * 2 + j) = X 58 j) : SHm X M' :=
  SH_1 (S := 2) h.2.2.1 hM.2.2.2.2.2.1 (fun s hs e => ⟨ho _ (by omega) (by omega) (by omega) (by omega), ho _ (by omega) (by omega) (by omega) (by omega), h66 s e, h67 s e, fun j hj => h68 _ (by omega)⟩) ⟨n1, n2, n3⟩
theorem k_lose_2 (h : Inv I) : KI xl 68 107 [.ref 0, .int (nI 2)] [.ref 65, .int (nI 2)] I J := by
  have c1 : (if nI 2 < 0 then (0 : Int32) else if nI 2 < 4 then 1 else 0) = 1 := bl1 (n := 4) (by decide) (by decide)
  have r1 : bt (nI 2) 0 3 = 1 := in1 (m := 3) (by decide) (by decide)
  obtain ⟨⟨s1, s2, s3, s4⟩, -⟩ := sh_2 h.1 h.2
  by_cases hz : I 57 0 = 0
  · refine mkU (v := I 57 2) (I1 := zr I 57 (upd (I 57) 0 1)) h (fun Q => ?_) (RC_sh h.1 (fun c c1 c2 => zr_n (by omega)) (zr_n (by decide)) (SHc_1 (S := 2) h.1.2.2.1 (fun s hs e => zr_n (by omega)) ?_)) (fun c hc => zr_n (by omega)) (fun M J hM => ?_)
    · simp (disch := first | assumption | omega | (simp (disch := omega) only [zr_n, zr_s]; assumption)) only [x68_0, x68_1, x68_2, x68_5, x68_8, x68_10, x68_11, x68_12_0, x68_15, x68_16, x68_17_53, x68_17_55, x68_17_57, x68_17_59, x68_20, x68_23, x68_24, x68_25, x68_28, x68_29, x68_30_0, x68_33, x68_34, x68_35, x68_36_53, x68_36_55, x68_36_57, x68_36_59, x68_39, x68_40_0, x68_43, x68_44, x68_45_53, x68_45_55, x68_45_57, x68_45_59, x68_48, gc_0, br_52, aa_52_0, aa_52_1, aa_52_2, aa_52_3, gc_57, ↓reduceIte, zkl_i, zkl_r, zkl_n, zkl_z, zkl_l, Option.toList_some, Option.toList_none, List.cons_append, List.nil_append, zcs_0, zcs_i, zcs_l, zcs_r, zle8, true_and, and_true, true_or, or_true, c_below, c1, i1_0, if_false, ixN_nI, nI_clamp, hz, if_true, zr_s, upd_n, b1_1]
    · show (zr I 57 (upd (I 57) 0 1) 57 0 = 0 ∨ zr I 57 (upd (I 57) 0 1) 57 0 = 1) ∧ ixN (zr I 57 (upd (I 57) 0 1) 57 1) 3 ∧ ixN (zr I 57 (upd (I 57) 0 1) 57 2) 61
      rw [zr_s, upd_s, upd_n (by decide), upd_n (by decide)]
      exact ⟨Or.inr rfl, s2, by rw [s3, ixN_nI (by omega) (by decide)]; trivial⟩
    · obtain ⟨-, o2, o3, o4, -⟩ := sh_2 h.1 hM
      obtain ⟨o1, nf⟩ := o4 hz
      refine ⟨zr M 66 (upd (M 66) 2 (-1)), fun Q => ?_, RM_sh hM (fun c c1 c2 => zr_n (by omega)) (by rw [zr_n (by decide), zr_n (by decide)]; exact hM.2.2.2.2.2.2) (SHm_2 h.1 hM (fun c c1 c2 c3 c4 => zr_n c3) (fun s e => by rw [zr_s, upd_n e]) (fun s e => by rw [zr_n (by decide)]) (fun j e => by rw [zr_n (by decide)]) ?_ ?_ ?_) (zr_n (by decide)) (zr_n (by decide)) (zr_n (by decide)) (zr_n (by decide)) (fun j hj => by rw [zr_n (by decide)]), fun c hc => zr_n (by omega)⟩
      · simp (disch := first | assumption | omega | (simp (disch := omega) only [zr_n, zr_s]; assumption)) only [x107_0, x107_1, x107_4, x107_7, x107_9, x107_10, x107_11_65, x107_14, x107_15, x107_16, x107_19, x107_20, x107_21, x107_24, x107_25, x107_26_65, x107_29, x107_30, x107_31, x107_32, x107_33_65, x107_36, x107_37, x107_38, gc_65, bi_66, bs_66, bi_67, bs_67, ↓reduceIte, zkl_i, zkl_r, zkl_n, zkl_z, zkl_l, Option.toList_some, Option.toList_none, List.cons_append, List.nil_append, zcs_0, zcs_i, zcs_l, zcs_r, zle8, true_and, and_true, true_or, or_true, m_isSheet, r1, i1_0, if_false, ixN_nI, nI_clamp, o1, o2, nf, zr_n]
      · rw [zr_s, upd_s, zr_s, upd_s, if_neg (by decide)]
      · rw [zr_n (by decide), zr_s, upd_n (by decide)]; exact o2
      · simp (disch := omega) only [zr_n, zr_s, upd_n]
        exact o3
  · refine mkF (v := -11) (k := 1) h (fun Q => ?_) (fun M J hM Q => ?_)
    · simp (disch := first | assumption | omega | (simp (disch := omega) only [zr_n, zr_s]; assumption)) only [x68_0, x68_1, x68_2, x68_5, x68_8, x68_10, x68_11, x68_12_0, x68_15, x68_16, x68_17_53, x68_17_55, x68_17_57, x68_17_59, x68_20, x68_23, x68_24, x68_25, x68_28, x68_29, x68_30_0, x68_33, x68_34, x68_35, x68_36_53, x68_36_55, x68_36_57, x68_36_59, x68_39, x68_40_0, x68_43, x68_44, x68_45_53, x68_45_55, x68_45_57, x68_45_59, x68_48, gc_0, br_52, aa_52_0, aa_52_1, aa_52_2, aa_52_3, gc_57, ↓reduceIte, zkl_i, zkl_r, zkl_n, zkl_z, zkl_l, Option.toList_some, Option.toList_none, List.cons_append, List.nil_append, zcs_0, zcs_i, zcs_l, zcs_r, zle8, true_and, and_true, true_or, or_true, c_below, c1, i1_0, if_false, ixN_nI, nI_clamp, hz, c_found, v11]
    · have o1 := (sh_2 h.1 hM).2.2.2.2 hz
      simp (disch := first | assumption | omega | (simp (disch := omega) only [zr_n, zr_s]; assumption)) only [x107_0, x107_1, x107_4, x107_7, x107_9, x107_10, x107_11_65, x107_14, x107_15, x107_16, x107_19, x107_20, x107_21, x107_24, x107_25, x107_26_65, x107_29, x107_30, x107_31, x107_32, x107_33_65, x107_36, x107_37, x107_38, gc_65, bi_66, bs_66, bi_67, bs_67, ↓reduceIte, zkl_i, zkl_r, zkl_n, zkl_z, zkl_l, Option.toList_some, Option.toList_none, List.cons_append, List.nil_append, zcs_0, zcs_i, zcs_l, zcs_r, zle8, true_and, and_true, true_or, or_true, m_isSheet, r1, i1_0, if_false, ixN_nI, nI_clamp, o1, m1_0, if_true, m_finds, v11]
theorem lk0_2 {Q : zQ} (h : RC I) (hM : RM I M) (hz : ¬ I 57 0 = 0) : Rn (zG xl) 108 0 [.ref 65, .int (nI 2), .int b, .int c] [] M J Q = Q (some (.int (-11))) (zr M 65 (upd (M 65) 4 1)) J := by
  have o1 := (sh_2 h hM).2.2.2.2 hz
  simp (disch := first | assumption | omega | (simp (disch := omega) only [zr_n, zr_s]; assumption)) only [x108_0, x108_1_65, x108_4, x108_5, x108_6, x108_9, x108_10, x108_11, x108_14, x108_15, x108_16_65, x108_19, x108_20, x108_21, x108_22, x108_25, x108_26, x108_27, x108_30, x108_31, x108_32, x108_33, x108_34, x108_35_65, x108_38, x108_39, x108_40, x108_41, x108_42, x108_43, x108_46, x108_49, x108_50, x108_53, x108_54, x108_55, x108_58, gc_65, bi_66, bs_66, ↓reduceIte, zkl_i, zkl_r, zkl_n, zkl_z, zkl_l, Option.toList_some, Option.toList_none, List.cons_append, List.nil_append, zcs_0, zcs_i, zcs_l, zcs_r, zle8, true_and, and_true, true_or, or_true, ixN_nI, nI_clamp, o1, m1_0, if_true, m_finds, v11]
theorem lk1_2 {Q : zQ} (h : RC I) (hM : RM I M) (hz : I 57 0 = 0) (hb : ¬ I 57 1 = b) : Rn (zG xl) 108 0 [.ref 65, .int (nI 2), .int b, .int c] [] M J Q = Q (some (.int (-13))) (zr M 65 (upd (M 65) 4 3)) J := by
  obtain ⟨o1, nf⟩ := (sh_2 h hM).2.2.2.1 hz
  simp (disch := first | assumption | omega | (simp (disch := omega) only [zr_n, zr_s]; assumption)) only [x108_0, x108_1_65, x108_4, x108_5, x108_6, x108_9, x108_10, x108_11, x108_14, x108_15, x108_16_65, x108_19, x108_20, x108_21, x108_22, x108_25, x108_26, x108_27, x108_30, x108_31, x108_32, x108_33, x108_34, x108_35_65, x108_38, x108_39, x108_40, x108_41, x108_42, x108_43, x108_46, x108_49, x108_50, x108_53, x108_54, x108_55, x108_58, gc_65, bi_66, bs_66, ↓reduceIte, zkl_i, zkl_r, zkl_n, zkl_z, zkl_l, Option.toList_some, Option.toList_none, List.cons_append, List.nil_append, zcs_0, zcs_i, zcs_l, zcs_r, zle8, true_and, and_true, true_or, or_true, ixN_nI, nI_clamp, o1, nf, hb, if_false, m_finds, v11]
theorem lk2_2 {Q : zQ} (h : RC I) (hM : RM I M) (hz : I 57 0 = 0) (hb : I 57 1 = b) (hc : ¬ IN c (tn (I 57 2))) : Rn (zG xl) 108 0 [.ref 65, .int (nI 2), .int b, .int c] [] M J Q = Q (some (.int (-12))) (zr M 65 (upd (M 65) 4 2)) J := by
  obtain ⟨⟨-, -, l1, l2⟩, o2, -, o4, -⟩ := sh_2 h hM
  obtain ⟨o1, nf⟩ := o4 hz
  have r : (if c < 0 then (0 : Int32) else if nI (tn (I 57 2)) - 1 < c then 0 else 1) = 0 := bm0 (by omega) hc
  rw [← l1] at r
  simp (disch := first | assumption | omega | (simp (disch := omega) only [zr_n, zr_s]; assumption)) only [x108_0, x108_1_65, x108_4, x108_5, x108_6, x108_9, x108_10, x108_11, x108_14, x108_15, x108_16_65, x108_19, x108_20, x108_21, x108_22, x108_25, x108_26, x108_27, x108_30, x108_31, x108_32, x108_33, x108_34, x108_35_65, x108_38, x108_39, x108_40, x108_41, x108_42, x108_43, x108_46, x108_49, x108_50, x108_53, x108_54, x108_55, x108_58, gc_65, bi_66, bs_66, bi_67, bs_67, ↓reduceIte, zkl_i, zkl_r, zkl_n, zkl_z, zkl_l, Option.toList_some, Option.toList_none, List.cons_append, List.nil_append, zcs_0, zcs_i, zcs_l, zcs_r, zle8, true_and, and_true, true_or, or_true, ixN_nI, nI_clamp, o1, nf, hb, if_true, if_false, o2, m_in, k64_0, i64_lt, r, m_finds, v11]
  rw [hb] at nf
  simp only [nf, if_false]
theorem lk3_2 {Q : zQ} {k : Nat} (h : RC I) (hM : RM I M) (hz : I 57 0 = 0) (hb : I 57 1 = b) (hk : k < tn (I 57 2)) : Rn (zG xl) 108 0 [.ref 65, .int (nI 2), .int b, .int (nI k)] [] M J Q = Q (some (.int 0)) M J := by
  obtain ⟨⟨-, -, l1, l2⟩, o2, -, o4, -⟩ := sh_2 h hM
  obtain ⟨o1, nf⟩ := o4 hz
  have r : (if nI k < 0 then (0 : Int32) else if nI (tn (I 57 2)) - 1 < nI k then 0 else 1) = 1 := bm1 hk (by omega)
  rw [← l1] at r
  simp (disch := first | assumption | omega | (simp (disch := omega) only [zr_n, zr_s]; assumption)) only [x108_0, x108_1_65, x108_4, x108_5, x108_6, x108_9, x108_10, x108_11, x108_14, x108_15, x108_16_65, x108_19, x108_20, x108_21, x108_22, x108_25, x108_26, x108_27, x108_30, x108_31, x108_32, x108_33, x108_34, x108_35_65, x108_38, x108_39, x108_40, x108_41, x108_42, x108_43, x108_46, x108_49, x108_50, x108_53, x108_54, x108_55, x108_58, gc_65, bi_66, bs_66, bi_67, bs_67, ↓reduceIte, zkl_i, zkl_r, zkl_n, zkl_z, zkl_l, Option.toList_some, Option.toList_none, List.cons_append, List.nil_append, zcs_0, zcs_i, zcs_l, zcs_r, zle8, true_and, and_true, true_or, or_true, ixN_nI, nI_clamp, o1, nf, hb, if_true, if_false, o2, m_in, k64_0, i64_lt, r, i1_0]
  rw [hb] at nf
  simp only [nf, if_false]
theorem k_get_2 {f : Nat} (h : Inv I) (hf : f < 3) : KI xl 70 111 [.ref 0, .int (nI 2), .int (nI f), .int c, .null] [.ref 65, .int (nI 2), .int (nI f), .int c] I J := by
  have c1 : (if nI 2 < 0 then (0 : Int32) else if nI 2 < 4 then 1 else 0) = 1 := bl1 (n := 4) (by decide) (by decide)
  have r1 : bt (nI 2) 0 3 = 1 := in1 (m := 3) (by decide) (by decide)
  have c2 : (if nI f < 0 then (0 : Int32) else if nI f < 3 then 1 else 0) = 1 := bl1 (n := 3) hf (by decide)
  have r2 : (if nI f < 0 then (0 : Int32) else if 2 < nI f then 0 else 1) = 1 := in1 (m := 2) (by omega) (by decide)
  obtain ⟨⟨s1, s2, s3, s4⟩, -⟩ := sh_2 h.1 h.2
  have n11 : ((-11 : Int32) = 0) = False ∧ ((-12 : Int32) = 0) = False ∧ ((-13 : Int32) = 0) = False ∧ ((2 : Int32) = 0) = False ∧ ((3 : Int32) = 0) = False := by decide
  by_cases hz : I 57 0 = 0
  · by_cases hb : I 57 1 = nI f
    · by_cases hc : IN c (tn (I 57 2))
      · obtain ⟨k, hk, rfl⟩ := hc
        have q1 : ¬ nI k < 0 := nI_pos (by omega)
        have q2 : nI k < I 57 2 := by rw [s3]; exact (nI_ltI (by omega) (by omega)).mpr hk
        refine mkI (v := I 58 k) (I1 := I) (J1 := J) h (fun Q => ?_) (Tr_refl I) (fun M J hM => ⟨M, fun Q => ?_, hM, Fr_refl M⟩)
        · simp (disch := first | assumption | omega | (simp (disch := omega) only [zr_n, zr_s]; assumption)) only [x70_0, x70_1, x70_2, x70_5, x70_8, x70_9, x70_10, x70_13, x70_16, x70_18, x70_19, x70_20_0, x70_23, x70_24, x70_25, x70_26, x70_27, x70_30, x70_32, x70_34, x70_37, x70_38, x70_40_0, x70_43, x70_45, x70_46, x70_47_0, x70_50, x70_51, x70_52_53, x70_52_55, x70_52_57, x70_52_59, x70_55, x70_56, x70_57, gc_0, br_52, aa_52_0, aa_52_1, aa_52_2, aa_52_3, gc_57, bi_58, bs_58, ↓reduceIte, zkl_i, zkl_r, zkl_n, zkl_z, zkl_l, Option.toList_some, Option.toList_none, List.cons_append, List.nil_append, zcs_0, zcs_i, zcs_l, zcs_r, zle8, true_and, and_true, true_or, or_true, c_below, c1, c2, i1_0, if_false, ixN_nI, nI_clamp, c_findingAt_57, hz, hb, q1, q2, if_true]
        · have hl := fun Q => lk3_2 (xl := xl) (J := J) (Q := Q) h.1 hM hz hb hk
          have o3 := (sh_2 h.1 hM).2.2.1 k hk
          simp (disch := first | assumption | omega | (simp (disch := omega) only [zr_n, zr_s]; assumption)) only [x111_0, x111_1, x111_4, x111_7, x111_8, x111_9, x111_10, x111_13, x111_16, x111_19, x111_20, x111_21, x111_22, x111_23, x111_26, x111_29, x111_31, x111_32, x111_33_65, x111_36, x111_38, x111_39, x111_40, x111_41, x111_42, x111_43, gc_65, bi_68, bs_68, ↓reduceIte, zkl_i, zkl_r, zkl_n, zkl_z, zkl_l, Option.toList_some, Option.toList_none, List.cons_append, List.nil_append, zcs_0, zcs_i, zcs_l, zcs_r, zle8, true_and, and_true, true_or, or_true, m_isSheet, r1, m_in, k64_0, k64_2, i64_lt, r2, i1_0, if_false, hl, if_true, nm_60, nI_add, ixN_nI, nI_clamp, o3]
      · have q := IN_nlt (by omega) hc
        rw [← s3] at q
        refine mkF (v := -2147483648) (k := 2) h (fun Q => ?_) (fun M J hM Q => ?_)
        · rcases q with q | q
          · simp (disch := first | assumption | omega | (simp (disch := omega) only [zr_n, zr_s]; assumption)) only [x70_0, x70_1, x70_2, x70_5, x70_8, x70_9, x70_10, x70_13, x70_16, x70_18, x70_19, x70_20_0, x70_23, x70_24, x70_25, x70_26, x70_27, x70_30, x70_32, x70_34, x70_37, x70_38, x70_40_0, x70_43, x70_45, x70_46, x70_47_0, x70_50, x70_51, x70_52_53, x70_52_55, x70_52_57, x70_52_59, x70_55, x70_56, x70_57, gc_0, br_52, aa_52_0, aa_52_1, aa_52_2, aa_52_3, gc_57, bi_58, bs_58, ↓reduceIte, zkl_i, zkl_r, zkl_n, zkl_z, zkl_l, Option.toList_some, Option.toList_none, List.cons_append, List.nil_append, zcs_0, zcs_i, zcs_l, zcs_r, zle8, true_and, and_true, true_or, or_true, c_below, c1, c2, i1_0, if_false, ixN_nI, nI_clamp, c_findingAt_57, hz, hb, q, if_true, n11]
          · by_cases q1 : c < 0
            · simp (disch := first | assumption | omega | (simp (disch := omega) only [zr_n, zr_s]; assumption)) only [x70_0, x70_1, x70_2, x70_5, x70_8, x70_9, x70_10, x70_13, x70_16, x70_18, x70_19, x70_20_0, x70_23, x70_24, x70_25, x70_26, x70_27, x70_30, x70_32, x70_34, x70_37, x70_38, x70_40_0, x70_43, x70_45, x70_46, x70_47_0, x70_50, x70_51, x70_52_53, x70_52_55, x70_52_57, x70_52_59, x70_55, x70_56, x70_57, gc_0, br_52, aa_52_0, aa_52_1, aa_52_2, aa_52_3, gc_57, bi_58, bs_58, ↓reduceIte, zkl_i, zkl_r, zkl_n, zkl_z, zkl_l, Option.toList_some, Option.toList_none, List.cons_append, List.nil_append, zcs_0, zcs_i, zcs_l, zcs_r, zle8, true_and, and_true, true_or, or_true, c_below, c1, c2, i1_0, if_false, ixN_nI, nI_clamp, c_findingAt_57, hz, hb, q1, if_true, n11]
            · simp (disch := first | assumption | omega | (simp (disch := omega) only [zr_n, zr_s]; assumption)) only [x70_0, x70_1, x70_2, x70_5, x70_8, x70_9, x70_10, x70_13, x70_16, x70_18, x70_19, x70_20_0, x70_23, x70_24, x70_25, x70_26, x70_27, x70_30, x70_32, x70_34, x70_37, x70_38, x70_40_0, x70_43, x70_45, x70_46, x70_47_0, x70_50, x70_51, x70_52_53, x70_52_55, x70_52_57, x70_52_59, x70_55, x70_56, x70_57, gc_0, br_52, aa_52_0, aa_52_1, aa_52_2, aa_52_3, gc_57, bi_58, bs_58, ↓reduceIte, zkl_i, zkl_r, zkl_n, zkl_z, zkl_l, Option.toList_some, Option.toList_none, List.cons_append, List.nil_append, zcs_0, zcs_i, zcs_l, zcs_r, zle8, true_and, and_true, true_or, or_true, c_below, c1, c2, i1_0, if_false, ixN_nI, nI_clamp, c_findingAt_57, hz, hb, q1, q, if_true, n11]
        · have hl := fun Q => lk2_2 (xl := xl) (J := J) (Q := Q) h.1 hM hz hb hc
          simp (disch := first | assumption | omega | (simp (disch := omega) only [zr_n, zr_s]; assumption)) only [x111_0, x111_1, x111_4, x111_7, x111_8, x111_9, x111_10, x111_13, x111_16, x111_19, x111_20, x111_21, x111_22, x111_23, x111_26, x111_29, x111_31, x111_32, x111_33_65, x111_36, x111_38, x111_39, x111_40, x111_41, x111_42, x111_43, gc_65, ↓reduceIte, zkl_i, zkl_r, zkl_n, zkl_z, zkl_l, Option.toList_some, Option.toList_none, List.cons_append, List.nil_append, zcs_0, zcs_i, zcs_l, zcs_r, zle8, true_and, and_true, true_or, or_true, m_isSheet, r1, m_in, k64_0, k64_2, i64_lt, r2, i1_0, if_false, hl, n11]
    · refine mkF (v := -2147483648) (k := 3) h (fun Q => ?_) (fun M J hM Q => ?_)
      · simp (disch := first | assumption | omega | (simp (disch := omega) only [zr_n, zr_s]; assumption)) only [x70_0, x70_1, x70_2, x70_5, x70_8, x70_9, x70_10, x70_13, x70_16, x70_18, x70_19, x70_20_0, x70_23, x70_24, x70_25, x70_26, x70_27, x70_30, x70_32, x70_34, x70_37, x70_38, x70_40_0, x70_43, x70_45, x70_46, x70_47_0, x70_50, x70_51, x70_52_53, x70_52_55, x70_52_57, x70_52_59, x70_55, x70_56, x70_57, gc_0, br_52, aa_52_0, aa_52_1, aa_52_2, aa_52_3, gc_57, bi_58, bs_58, ↓reduceIte, zkl_i, zkl_r, zkl_n, zkl_z, zkl_l, Option.toList_some, Option.toList_none, List.cons_append, List.nil_append, zcs_0, zcs_i, zcs_l, zcs_r, zle8, true_and, and_true, true_or, or_true, c_below, c1, c2, i1_0, if_false, ixN_nI, nI_clamp, c_findingAt_57, hz, hb, if_true, n11]
      · have hl := fun Q => lk1_2 (xl := xl) (J := J) (Q := Q) (c := c) h.1 hM hz hb
        simp (disch := first | assumption | omega | (simp (disch := omega) only [zr_n, zr_s]; assumption)) only [x111_0, x111_1, x111_4, x111_7, x111_8, x111_9, x111_10, x111_13, x111_16, x111_19, x111_20, x111_21, x111_22, x111_23, x111_26, x111_29, x111_31, x111_32, x111_33_65, x111_36, x111_38, x111_39, x111_40, x111_41, x111_42, x111_43, gc_65, ↓reduceIte, zkl_i, zkl_r, zkl_n, zkl_z, zkl_l, Option.toList_some, Option.toList_none, List.cons_append, List.nil_append, zcs_0, zcs_i, zcs_l, zcs_r, zle8, true_and, and_true, true_or, or_true, m_isSheet, r1, m_in, k64_0, k64_2, i64_lt, r2, i1_0, if_false, hl, n11]
  · refine mkF (v := -2147483648) (k := 1) h (fun Q => ?_) (fun M J hM Q => ?_)
    · simp (disch := first | assumption | omega | (simp (disch := omega) only [zr_n, zr_s]; assumption)) only [x70_0, x70_1, x70_2, x70_5, x70_8, x70_9, x70_10, x70_13, x70_16, x70_18, x70_19, x70_20_0, x70_23, x70_24, x70_25, x70_26, x70_27, x70_30, x70_32, x70_34, x70_37, x70_38, x70_40_0, x70_43, x70_45, x70_46, x70_47_0, x70_50, x70_51, x70_52_53, x70_52_55, x70_52_57, x70_52_59, x70_55, x70_56, x70_57, gc_0, br_52, aa_52_0, aa_52_1, aa_52_2, aa_52_3, gc_57, bi_58, bs_58, ↓reduceIte, zkl_i, zkl_r, zkl_n, zkl_z, zkl_l, Option.toList_some, Option.toList_none, List.cons_append, List.nil_append, zcs_0, zcs_i, zcs_l, zcs_r, zle8, true_and, and_true, true_or, or_true, c_below, c1, c2, i1_0, if_false, ixN_nI, nI_clamp, c_findingAt_57, hz, n11]
    · have hl := fun Q => lk0_2 (xl := xl) (J := J) (Q := Q) (b := nI f) (c := c) h.1 hM hz
      simp (disch := first | assumption | omega | (simp (disch := omega) only [zr_n, zr_s]; assumption)) only [x111_0, x111_1, x111_4, x111_7, x111_8, x111_9, x111_10, x111_13, x111_16, x111_19, x111_20, x111_21, x111_22, x111_23, x111_26, x111_29, x111_31, x111_32, x111_33_65, x111_36, x111_38, x111_39, x111_40, x111_41, x111_42, x111_43, gc_65, ↓reduceIte, zkl_i, zkl_r, zkl_n, zkl_z, zkl_l, Option.toList_some, Option.toList_none, List.cons_append, List.nil_append, zcs_0, zcs_i, zcs_l, zcs_r, zle8, true_and, and_true, true_or, or_true, m_isSheet, r1, m_in, k64_0, k64_2, i64_lt, r2, i1_0, if_false, hl, n11]
theorem k_lay_2 {f : Nat} (h : Inv I) (hf : f < 3) : KI xl 69 110 [.ref 0, .int (nI 2), .int (nI f), .int c, .int d, .null] [.ref 65, .int (nI 2), .int (nI f), .int c, .int d, .null] I J := by
  have c1 : (if nI 2 < 0 then (0 : Int32) else if nI 2 < 4 then 1 else 0) = 1 := bl1 (n := 4) (by decide) (by decide)
  have r1 : bt (nI 2) 0 3 = 1 := in1 (m := 3) (by decide) (by decide)
  have c2 : (if nI f < 0 then (0 : Int32) else if nI f < 3 then 1 else 0) = 1 := bl1 (n := 3) hf (by decide)
  have r2 : (if nI f < 0 then (0 : Int32) else if 2 < nI f then 0 else 1) = 1 := in1 (m := 2) (by omega) (by decide)
  obtain ⟨⟨s1, s2, s3, s4⟩, -⟩ := sh_2 h.1 h.2
  have n11 : ((-11 : Int32) = 0) = False ∧ ((-12 : Int32) = 0) = False ∧ ((-13 : Int32) = 0) = False ∧ ((2 : Int32) = 0) = False ∧ ((3 : Int32) = 0) = False := by decide
  by_cases hz : I 57 0 = 0
  · by_cases hb : I 57 1 = nI f
    · by_cases hc : IN c (tn (I 57 2))
      · obtain ⟨k, hk, rfl⟩ := hc
        have q1 : ¬ nI k < 0 := nI_pos (by omega)
        have q2 : nI k < I 57 2 := by rw [s3]; exact (nI_ltI (by omega) (by omega)).mpr hk
        refine mkU (v := 1) (I1 := zr I 58 (upd (I 58) k (cutv (nI f) d))) h (fun Q => ?_) (RC_sh h.1 (fun c c1 c2 => zr_n (by omega)) (zr_n (by decide)) (fun s hs => by rw [zr_n (by omega)]; exact h.1.2.2.1 s hs)) (fun c hc => zr_n (by omega)) (fun M J hM => ?_)
        · simp (disch := first | assumption | omega | (simp (disch := omega) only [zr_n, zr_s]; assumption)) only [x69_0, x69_1, x69_2, x69_5, x69_8, x69_9, x69_10, x69_13, x69_16, x69_18, x69_19, x69_20_0, x69_23, x69_24, x69_25, x69_26, x69_27, x69_30, x69_32, x69_34, x69_37, x69_38, x69_40, x69_43, x69_44, x69_45_0, x69_48, x69_49, x69_50, x69_51, x69_53, x69_56, x69_57, gc_0, br_52, aa_52_0, aa_52_1, aa_52_2, aa_52_3, gc_57, bi_58, bs_58, ↓reduceIte, zkl_i, zkl_r, zkl_n, zkl_z, zkl_l, Option.toList_some, Option.toList_none, List.cons_append, List.nil_append, zcs_0, zcs_i, zcs_l, zcs_r, zle8, true_and, and_true, true_or, or_true, c_below, c1, c2, i1_0, if_false, ixN_nI, nI_clamp, c_findingAt_57, hz, hb, q1, q2, if_true, c_put_57]
        · have hl := fun Q => lk3_2 (xl := xl) (J := J) (Q := Q) h.1 hM hz hb hk
          obtain ⟨-, o2, o3, o4, -⟩ := sh_2 h.1 hM
          refine ⟨zr M 68 (upd (M 68) (60 * 2 + k) (cutv (nI f) d)), fun Q => ?_, RM_sh hM (fun c c1 c2 => zr_n (by omega)) (by rw [zr_n (by decide), zr_n (by decide)]; exact hM.2.2.2.2.2.2) (SHm_2 h.1 hM (fun c c1 c2 c3 c4 => zr_n c4) (fun s e => by rw [zr_n (by decide)]) (fun s e => by rw [zr_n (by decide)]) (fun j e => by rw [zr_s, upd_n (by omega)]) ?_ ?_ ?_) (zr_n (by decide)) (zr_n (by decide)) (zr_n (by decide)) (zr_n (by decide)) (fun j hj => by rw [zr_n (by decide)]), fun c hc => zr_n (by omega)⟩
          · simp (disch := first | assumption | omega | (simp (disch := omega) only [zr_n, zr_s]; assumption)) only [x110_0, x110_1, x110_4, x110_7, x110_8, x110_9, x110_10, x110_13, x110_16, x110_19, x110_21, x110_22, x110_23, x110_24, x110_25, x110_26, x110_29, x110_31, x110_33, x110_36, x110_38, x110_39, x110_40_65, x110_43, x110_45, x110_46, x110_47, x110_48, x110_49, x110_50, x110_52, x110_55, x110_56, x110_57, gc_65, bi_68, bs_68, ↓reduceIte, zkl_i, zkl_r, zkl_n, zkl_z, zkl_l, Option.toList_some, Option.toList_none, List.cons_append, List.nil_append, zcs_0, zcs_i, zcs_l, zcs_r, zle8, true_and, and_true, true_or, or_true, m_isSheet, r1, m_in, k64_0, k64_2, i64_lt, r2, i1_0, if_false, hl, if_true, nm_60, nI_add, ixN_nI, nI_clamp, m_cut, cut_eq]
          · rw [zr_n (by decide), zr_n (by decide), if_pos hz]; exact (o4 hz).1
          · rw [zr_n (by decide), zr_n (by decide)]; exact o2
          · rw [zr_n (show 57 ≠ 58 by decide), zr_s, zr_s]
            intro j hj
            by_cases e : j = k
            · subst e; rw [upd_s, upd_s]
            · rw [upd_n (by omega), upd_n e]; exact o3 j hj
      · have q := IN_nlt (by omega) hc
        rw [← s3] at q
        refine mkF (v := -12) (k := 2) h (fun Q => ?_) (fun M J hM Q => ?_)
        · rcases q with q | q
          · simp (disch := first | assumption | omega | (simp (disch := omega) only [zr_n, zr_s]; assumption)) only [x69_0, x69_1, x69_2, x69_5, x69_8, x69_9, x69_10, x69_13, x69_16, x69_18, x69_19, x69_20_0, x69_23, x69_24, x69_25, x69_26, x69_27, x69_30, x69_32, x69_34, x69_37, x69_38, x69_40, x69_43, x69_44, x69_45_0, x69_48, x69_49, x69_50, x69_51, x69_53, x69_56, x69_57, gc_0, br_52, aa_52_0, aa_52_1, aa_52_2, aa_52_3, gc_57, bi_58, bs_58, ↓reduceIte, zkl_i, zkl_r, zkl_n, zkl_z, zkl_l, Option.toList_some, Option.toList_none, List.cons_append, List.nil_append, zcs_0, zcs_i, zcs_l, zcs_r, zle8, true_and, and_true, true_or, or_true, c_below, c1, c2, i1_0, if_false, ixN_nI, nI_clamp, c_findingAt_57, hz, hb, q, if_true, n11, c_found, v11]
          · by_cases q1 : c < 0
            · simp (disch := first | assumption | omega | (simp (disch := omega) only [zr_n, zr_s]; assumption)) only [x69_0, x69_1, x69_2, x69_5, x69_8, x69_9, x69_10, x69_13, x69_16, x69_18, x69_19, x69_20_0, x69_23, x69_24, x69_25, x69_26, x69_27, x69_30, x69_32, x69_34, x69_37, x69_38, x69_40, x69_43, x69_44, x69_45_0, x69_48, x69_49, x69_50, x69_51, x69_53, x69_56, x69_57, gc_0, br_52, aa_52_0, aa_52_1, aa_52_2, aa_52_3, gc_57, bi_58, bs_58, ↓reduceIte, zkl_i, zkl_r, zkl_n, zkl_z, zkl_l, Option.toList_some, Option.toList_none, List.cons_append, List.nil_append, zcs_0, zcs_i, zcs_l, zcs_r, zle8, true_and, and_true, true_or, or_true, c_below, c1, c2, i1_0, if_false, ixN_nI, nI_clamp, c_findingAt_57, hz, hb, q1, if_true, n11, c_found, v11]
            · simp (disch := first | assumption | omega | (simp (disch := omega) only [zr_n, zr_s]; assumption)) only [x69_0, x69_1, x69_2, x69_5, x69_8, x69_9, x69_10, x69_13, x69_16, x69_18, x69_19, x69_20_0, x69_23, x69_24, x69_25, x69_26, x69_27, x69_30, x69_32, x69_34, x69_37, x69_38, x69_40, x69_43, x69_44, x69_45_0, x69_48, x69_49, x69_50, x69_51, x69_53, x69_56, x69_57, gc_0, br_52, aa_52_0, aa_52_1, aa_52_2, aa_52_3, gc_57, bi_58, bs_58, ↓reduceIte, zkl_i, zkl_r, zkl_n, zkl_z, zkl_l, Option.toList_some, Option.toList_none, List.cons_append, List.nil_append, zcs_0, zcs_i, zcs_l, zcs_r, zle8, true_and, and_true, true_or, or_true, c_below, c1, c2, i1_0, if_false, ixN_nI, nI_clamp, c_findingAt_57, hz, hb, q1, q, if_true, n11, c_found, v11]
        · have hl := fun Q => lk2_2 (xl := xl) (J := J) (Q := Q) h.1 hM hz hb hc
          simp (disch := first | assumption | omega | (simp (disch := omega) only [zr_n, zr_s]; assumption)) only [x110_0, x110_1, x110_4, x110_7, x110_8, x110_9, x110_10, x110_13, x110_16, x110_19, x110_21, x110_22, x110_23, x110_24, x110_25, x110_26, x110_29, x110_31, x110_33, x110_36, x110_38, x110_39, x110_40_65, x110_43, x110_45, x110_46, x110_47, x110_48, x110_49, x110_50, x110_52, x110_55, x110_56, x110_57, gc_65, ↓reduceIte, zkl_i, zkl_r, zkl_n, zkl_z, zkl_l, Option.toList_some, Option.toList_none, List.cons_append, List.nil_append, zcs_0, zcs_i, zcs_l, zcs_r, zle8, true_and, and_true, true_or, or_true, m_isSheet, r1, m_in, k64_0, k64_2, i64_lt, r2, i1_0, if_false, hl, n11]
    · refine mkF (v := -13) (k := 3) h (fun Q => ?_) (fun M J hM Q => ?_)
      · simp (disch := first | assumption | omega | (simp (disch := omega) only [zr_n, zr_s]; assumption)) only [x69_0, x69_1, x69_2, x69_5, x69_8, x69_9, x69_10, x69_13, x69_16, x69_18, x69_19, x69_20_0, x69_23, x69_24, x69_25, x69_26, x69_27, x69_30, x69_32, x69_34, x69_37, x69_38, x69_40, x69_43, x69_44, x69_45_0, x69_48, x69_49, x69_50, x69_51, x69_53, x69_56, x69_57, gc_0, br_52, aa_52_0, aa_52_1, aa_52_2, aa_52_3, gc_57, bi_58, bs_58, ↓reduceIte, zkl_i, zkl_r, zkl_n, zkl_z, zkl_l, Option.toList_some, Option.toList_none, List.cons_append, List.nil_append, zcs_0, zcs_i, zcs_l, zcs_r, zle8, true_and, and_true, true_or, or_true, c_below, c1, c2, i1_0, if_false, ixN_nI, nI_clamp, c_findingAt_57, hz, hb, if_true, n11, c_found, v11]
      · have hl := fun Q => lk1_2 (xl := xl) (J := J) (Q := Q) (c := c) h.1 hM hz hb
        simp (disch := first | assumption | omega | (simp (disch := omega) only [zr_n, zr_s]; assumption)) only [x110_0, x110_1, x110_4, x110_7, x110_8, x110_9, x110_10, x110_13, x110_16, x110_19, x110_21, x110_22, x110_23, x110_24, x110_25, x110_26, x110_29, x110_31, x110_33, x110_36, x110_38, x110_39, x110_40_65, x110_43, x110_45, x110_46, x110_47, x110_48, x110_49, x110_50, x110_52, x110_55, x110_56, x110_57, gc_65, ↓reduceIte, zkl_i, zkl_r, zkl_n, zkl_z, zkl_l, Option.toList_some, Option.toList_none, List.cons_append, List.nil_append, zcs_0, zcs_i, zcs_l, zcs_r, zle8, true_and, and_true, true_or, or_true, m_isSheet, r1, m_in, k64_0, k64_2, i64_lt, r2, i1_0, if_false, hl, n11]
  · refine mkF (v := -11) (k := 1) h (fun Q => ?_) (fun M J hM Q => ?_)
    · simp (disch := first | assumption | omega | (simp (disch := omega) only [zr_n, zr_s]; assumption)) only [x69_0, x69_1, x69_2, x69_5, x69_8, x69_9, x69_10, x69_13, x69_16, x69_18, x69_19, x69_20_0, x69_23, x69_24, x69_25, x69_26, x69_27, x69_30, x69_32, x69_34, x69_37, x69_38, x69_40, x69_43, x69_44, x69_45_0, x69_48, x69_49, x69_50, x69_51, x69_53, x69_56, x69_57, gc_0, br_52, aa_52_0, aa_52_1, aa_52_2, aa_52_3, gc_57, bi_58, bs_58, ↓reduceIte, zkl_i, zkl_r, zkl_n, zkl_z, zkl_l, Option.toList_some, Option.toList_none, List.cons_append, List.nil_append, zcs_0, zcs_i, zcs_l, zcs_r, zle8, true_and, and_true, true_or, or_true, c_below, c1, c2, i1_0, if_false, ixN_nI, nI_clamp, c_findingAt_57, hz, n11, c_found, v11]
    · have hl := fun Q => lk0_2 (xl := xl) (J := J) (Q := Q) (b := nI f) (c := c) h.1 hM hz
      simp (disch := first | assumption | omega | (simp (disch := omega) only [zr_n, zr_s]; assumption)) only [x110_0, x110_1, x110_4, x110_7, x110_8, x110_9, x110_10, x110_13, x110_16, x110_19, x110_21, x110_22, x110_23, x110_24, x110_25, x110_26, x110_29, x110_31, x110_33, x110_36, x110_38, x110_39, x110_40_65, x110_43, x110_45, x110_46, x110_47, x110_48, x110_49, x110_50, x110_52, x110_55, x110_56, x110_57, gc_65, ↓reduceIte, zkl_i, zkl_r, zkl_n, zkl_z, zkl_l, Option.toList_some, Option.toList_none, List.cons_append, List.nil_append, zcs_0, zcs_i, zcs_l, zcs_r, zle8, true_and, and_true, true_or, or_true, m_isSheet, r1, m_in, k64_0, k64_2, i64_lt, r2, i1_0, if_false, hl, n11]
theorem k_sheet_2 {f n : Nat} (h : Inv I) (hf : f < 3) (hn : n ≤ 60) : KI xl 67 106 [.ref 0, .int (nI 2), .int (nI f), .int (nI n)] [.ref 65, .int (nI 2), .int (nI f), .int (nI n), .null] I J := by
  have c1 : (if nI 2 < 0 then (0 : Int32) else if nI 2 < 4 then 1 else 0) = 1 := bl1 (n := 4) (by decide) (by decide)
  have r1 : bt (nI 2) 0 3 = 1 := in1 (m := 3) (by decide) (by decide)
  have c2 : (if nI f < 0 then (0 : Int32) else if nI f < 3 then 1 else 0) = 1 := bl1 (n := 3) hf (by decide)
  have r2 : (if nI f < 0 then (0 : Int32) else if 2 < nI f then 0 else 1) = 1 := in1 (m := 2) (by omega) (by decide)
  have n60 : ¬ (60 : Int32) < nI n := by
    rw [show (60 : Int32) = nI 60 from rfl, nI_ltI (by decide) (by omega)]
    omega
  have n0 : ¬ nI n < 0 := nI_pos (by omega)
  have tn' : tn (nI n) = n := nI_clamp (by omega)
  refine mkU (v := nI n) (I1 := zr (zr I 57 (upd (upd (upd (I 57) 0 0) 1 (nI f)) 2 (nI n))) 58 (zfil 60 0 (I 58))) h (fun Q => ?_) (RC_sh h.1 (fun c c1 c2 => by simp (disch := omega) only [zr_n]) (by simp (disch := omega) only [zr_n]) (SHc_1 (S := 2) h.1.2.2.1 (fun s hs e => by simp (disch := omega) only [zr_n]) ?_)) (fun c hc => by simp (disch := omega) only [zr_n]) (fun M J hM => ?_)
  · simp (disch := first | assumption | omega | (simp (disch := omega) only [zr_n, zr_s]; assumption)) only [x67_0, x67_1, x67_2, x67_5, x67_8, x67_9, x67_10, x67_13, x67_16, x67_17, x67_19, x67_22, x67_24, x67_25, x67_26, x67_29, x67_30, x67_31, x67_34, x67_35, x67_36_0, x67_39, x67_40, x67_41, x67_42, x67_43, x67_46, x67_47, gc_0, br_52, aa_52_0, aa_52_1, aa_52_2, aa_52_3, gc_57, ↓reduceIte, zkl_i, zkl_r, zkl_n, zkl_z, zkl_l, Option.toList_some, Option.toList_none, List.cons_append, List.nil_append, zcs_0, zcs_i, zcs_l, zcs_r, zle8, true_and, and_true, true_or, or_true, c_below, c1, c2, i1_0, if_false, n60, n0, ixN_nI, nI_clamp, c_renew_57]
  · show (zr (zr I 57 (upd (upd (upd (I 57) 0 0) 1 (nI f)) 2 (nI n))) 58 (zfil 60 0 (I 58)) 57 0 = 0 ∨ zr (zr I 57 (upd (upd (upd (I 57) 0 0) 1 (nI f)) 2 (nI n))) 58 (zfil 60 0 (I 58)) 57 0 = 1) ∧ ixN (zr (zr I 57 (upd (upd (upd (I 57) 0 0) 1 (nI f)) 2 (nI n))) 58 (zfil 60 0 (I 58)) 57 1) 3 ∧ ixN (zr (zr I 57 (upd (upd (upd (I 57) 0 0) 1 (nI f)) 2 (nI n))) 58 (zfil 60 0 (I 58)) 57 2) 61
    simp (disch := omega) only [zr_n, zr_s, upd_n, upd_s]
    rw [ixN_nI (by omega) (by decide), ixN_nI (by omega) (by decide)]
    exact ⟨Or.inl trivial, trivial, trivial⟩
  · have lp := lpE (R := fun k (u v : Unit) X Q => Rn (zG xl) 106 55 [.ref 65, .int (nI 2), .int (nI f), .int (nI n), .int (nI k)] [] X J Q) (E := fun (u : Unit) X' Q => Q (some (.int (nI n))) X' J) (f := fun _ u => u) (n := n) (P := fun k (u : Unit) X => (∀ c, c ≠ 68 → X c = zr (zr M 66 (upd (M 66) 2 (nI f))) 67 (upd (M 67) 2 (nI n)) c) ∧ (∀ j, j < 60 * 2 ∨ 60 * 2 + 60 ≤ j → X 68 j = M 68 j) ∧ ∀ j, j < k → X 68 (60 * 2 + j) = 0) (P' := fun u X => (∀ c, c ≠ 68 → X c = zr (zr M 66 (upd (M 66) 2 (nI f))) 67 (upd (M 67) 2 (nI n)) c) ∧ (∀ j, j < 60 * 2 ∨ 60 * 2 + 60 ≤ j → X 68 j = M 68 j) ∧ ∀ j, j < n → X 68 (60 * 2 + j) = 0) (fun k u v X hk hP => by
      obtain ⟨p1, p2, p3⟩ := hP
      refine ⟨(), zr X 68 (upd (X 68) (60 * 2 + k) 0), fun Q => ?_, fun c hc => by rw [zr_n hc]; exact p1 c hc, fun j hj => by rw [zr_s, upd_n (by omega)]; exact p2 j hj, fun j hj => ?_⟩
      · show Rn _ _ _ _ _ _ _ _ = Rn _ _ _ _ _ _ _ _
        rw [h106_55]
        simp (disch := first | assumption | omega | (simp (disch := omega) only [zr_n, zr_s]; assumption)) only [x106_57, x106_58, x106_61, x106_62_65, x106_65, x106_67, x106_68, x106_69, x106_71, x106_72, x106_73, x106_74, x106_77, bi_68, bs_68, ↓reduceIte, zkl_i, zkl_r, zkl_n, zkl_z, zkl_l, Option.toList_some, Option.toList_none, List.cons_append, List.nil_append, zcs_0, zcs_i, zcs_l, zcs_r, zle8, true_and, and_true, true_or, or_true, nI_ltI, hk, if_true, nm_60, nI_add, ixN_nI, nI_clamp, na_1]
      · rw [zr_s]
        by_cases e : j = k
        · subst e; rw [upd_s]
        · rw [upd_n (by omega)]; exact p3 j (by omega)) (fun u v X hP => by
      refine ⟨X, fun Q => ?_, hP⟩
      show Rn _ _ _ _ _ _ _ _ = _
      rw [h106_55]
      simp (disch := first | assumption | omega | (simp (disch := omega) only [zr_n, zr_s]; assumption)) only [x106_57, x106_58, x106_61, x106_62_65, x106_65, x106_67, x106_68, x106_69, x106_71, x106_72, x106_73, x106_74, x106_77, x106_80, x106_81, ↓reduceIte, zkl_i, zkl_r, zkl_n, zkl_z, zkl_l, Option.toList_some, Option.toList_none, List.cons_append, List.nil_append, zcs_0, zcs_i, zcs_l, zcs_r, zle8, true_and, and_true, true_or, or_true, nI_ltI, Nat.lt_irrefl, if_false]) n 0 () () (zr (zr M 66 (upd (M 66) 2 (nI f))) 67 (upd (M 67) 2 (nI n))) (Nat.zero_add _) ⟨fun c hc => rfl, fun j hj => by simp (disch := omega) only [zr_n], fun j hj => by omega⟩
    obtain ⟨M', l1, l2, l3, l4⟩ := lp
    have k1 : ∀ c, c ≠ 66 → c ≠ 67 → c ≠ 68 → M' c = M c := fun c a1 a2 a3 => by rw [l2 c a3, zr_n a2, zr_n a1]
    have k66 : M' 66 = upd (M 66) 2 (nI f) := by rw [l2 66 (by decide), zr_n (by decide), zr_s]
    have k67 : M' 67 = upd (M 67) 2 (nI n) := by rw [l2 67 (by decide), zr_s]
    refine ⟨M', fun Q => ?_, RM_sh hM (fun c c1 c2 => by simp (disch := omega) only [zr_n]) (by rw [k1 65 (by decide) (by decide) (by decide)]; simp (disch := omega) only [zr_n]; exact hM.2.2.2.2.2.2) (SHm_2 h.1 hM (fun c c1 c2 c3 c4 => by simp (disch := omega) only [zr_n]) (fun s e => by rw [k66, upd_n e]) (fun s e => by rw [k67, upd_n e]) l3 ?_ ?_ ?_) (k1 70 (by decide) (by decide) (by decide)) (k1 71 (by decide) (by decide) (by decide)) (k1 75 (by decide) (by decide) (by decide)) (k1 87 (by decide) (by decide) (by decide)) (fun j hj => by rw [k1 65 (by decide) (by decide) (by decide)]), fun c hc => k1 c (by omega) (by omega) (by omega)⟩
    · refine Eq.trans ?_ (l1 Q)
      simp (disch := first | assumption | omega | (simp (disch := omega) only [zr_n, zr_s]; assumption)) only [x106_0, x106_1, x106_4, x106_7, x106_8, x106_9, x106_10, x106_13, x106_16, x106_19, x106_20, x106_22, x106_25, x106_27, x106_28, x106_29, x106_32, x106_33, x106_34, x106_37, x106_38, x106_39_65, x106_42, x106_43, x106_44, x106_45, x106_46_65, x106_49, x106_50, x106_51, x106_52, x106_53, bi_66, bs_66, bi_67, bs_67, ↓reduceIte, zkl_i, zkl_r, zkl_n, zkl_z, zkl_l, Option.toList_some, Option.toList_none, List.cons_append, List.nil_append, zcs_0, zcs_i, zcs_l, zcs_r, zle8, true_and, and_true, true_or, or_true, m_isSheet, r1, m_in, k64_0, k64_2, i64_lt, r2, i1_0, if_false, n60, n0, ixN_nI, nI_clamp, zr_n]
      rfl
    · rw [k66, upd_s]
      simp (disch := omega) only [zr_n, zr_s, upd_n, upd_s]
      rw [if_pos trivial]
    · rw [k67, upd_s]
      simp (disch := omega) only [zr_n, zr_s, upd_n, upd_s]
    · simp (disch := omega) only [zr_n, zr_s, upd_n, upd_s]
      rw [tn']
      intro j hj
      rw [l4 j hj, zfil, if_pos (by omega)]
theorem sh_3 (h : RC I) (hM : RM I M) : ((I 59 0 = 0 ∨ I 59 0 = 1) ∧ ixN (I 59 1) 3 ∧ I 59 2 = nI (tn (I 59 2)) ∧ tn (I 59 2) ≤ 60) ∧ M 67 3 = I 59 2 ∧ (∀ j, j < tn (I 59 2) → M 68 (60 * 3 + j) = I 60 j) ∧ (I 59 0 = 0 → M 66 3 = I 59 1 ∧ ¬ I 59 1 < 0) ∧ (¬ I 59 0 = 0 → M 66 3 = -1) := by
  obtain ⟨s1, s2, s3⟩ := h.2.2.1 3 (by decide)
  obtain ⟨o1, o2, o3⟩ := hM.2.2.2.2.2.1 3 (by decide)
  obtain ⟨n, hn, en⟩ := (ixN_iff (by decide)).mp s3
  have en' : I 59 2 = nI n := en
  have tn' : tn (nI n) = n := nI_clamp (by omega)
  refine ⟨⟨s1, s2, by rw [en', tn'], by rw [en', tn']; omega⟩, o2, o3, fun z => ?_, fun z => ?_⟩
  · have o1' : M 66 3 = (if I 59 0 = 0 then I 59 1 else -1) := o1
    rw [if_pos z] at o1'
    obtain ⟨k, hk, ek⟩ := (ixN_iff (by decide)).mp s2
    refine ⟨o1', ?_⟩
    rw [show I 59 1 = nI k from ek]
    exact nI_pos (by omega)
  · have o1' : M 66 3 = (if I 59 0 = 0 then I 59 1 else -1) := o1
    rw [if_neg z] at o1'
    exact o1'
theorem SHm_3 {X M' : zI} (h : RC I) (hM : RM I M) (ho : ∀ c, 53 ≤ c → c < 61 → c ≠ 59 → c ≠ 60 → X c = I c) (h66 : ∀ s, s ≠ 3 → M' 66 s = M 66 s) (h67 : ∀ s, s ≠ 3 → M' 67 s = M 67 s) (h68 : ∀ j, j < 60 * 3 ∨ 60 * 3 + 60 ≤ j → M' 68 j = M 68 j) (n1 : M' 66 3 = (if X 59 0 = 0 then X 59 1 else -1)) (n2 : M' 67 3 = X 59 2) (n3 : ∀ j, j < tn (X 59 2) → M' 68 (60 * 3 + j) = X 60 j) : SHm X M' :=
  SH_1 (S := 3) h.2.2.1 hM.2.2.2.2.2.1 (fun s hs e => ⟨ho _ (by omega) (by omega) (by omega) (by omega), ho _ (by omega) (by omega) (by omega) (by omega), h66 s e, h67 s e, fun j hj => h68 _ (by omega)⟩) ⟨n1, n2, n3⟩
theorem k_lose_3 (h : Inv I) : KI xl 68 107 [.ref 0, .int (nI 3)] [.ref 65, .int (nI 3)] I J := by
  have c1 : (if nI 3 < 0 then (0 : Int32) else if nI 3 < 4 then 1 else 0) = 1 := bl1 (n := 4) (by decide) (by decide)
  have r1 : bt (nI 3) 0 3 = 1 := in1 (m := 3) (by decide) (by decide)
  obtain ⟨⟨s1, s2, s3, s4⟩, -⟩ := sh_3 h.1 h.2
  by_cases hz : I 59 0 = 0
  · refine mkU (v := I 59 2) (I1 := zr I 59 (upd (I 59) 0 1)) h (fun Q => ?_) (RC_sh h.1 (fun c c1 c2 => zr_n (by omega)) (zr_n (by decide)) (SHc_1 (S := 3) h.1.2.2.1 (fun s hs e => zr_n (by omega)) ?_)) (fun c hc => zr_n (by omega)) (fun M J hM => ?_)
    · simp (disch := first | assumption | omega | (simp (disch := omega) only [zr_n, zr_s]; assumption)) only [x68_0, x68_1, x68_2, x68_5, x68_8, x68_10, x68_11, x68_12_0, x68_15, x68_16, x68_17_53, x68_17_55, x68_17_57, x68_17_59, x68_20, x68_23, x68_24, x68_25, x68_28, x68_29, x68_30_0, x68_33, x68_34, x68_35, x68_36_53, x68_36_55, x68_36_57, x68_36_59, x68_39, x68_40_0, x68_43, x68_44, x68_45_53, x68_45_55, x68_45_57, x68_45_59, x68_48, gc_0, br_52, aa_52_0, aa_52_1, aa_52_2, aa_52_3, gc_59, ↓reduceIte, zkl_i, zkl_r, zkl_n, zkl_z, zkl_l, Option.toList_some, Option.toList_none, List.cons_append, List.nil_append, zcs_0, zcs_i, zcs_l, zcs_r, zle8, true_and, and_true, true_or, or_true, c_below, c1, i1_0, if_false, ixN_nI, nI_clamp, hz, if_true, zr_s, upd_n, b1_1]
    · show (zr I 59 (upd (I 59) 0 1) 59 0 = 0 ∨ zr I 59 (upd (I 59) 0 1) 59 0 = 1) ∧ ixN (zr I 59 (upd (I 59) 0 1) 59 1) 3 ∧ ixN (zr I 59 (upd (I 59) 0 1) 59 2) 61
      rw [zr_s, upd_s, upd_n (by decide), upd_n (by decide)]
      exact ⟨Or.inr rfl, s2, by rw [s3, ixN_nI (by omega) (by decide)]; trivial⟩
    · obtain ⟨-, o2, o3, o4, -⟩ := sh_3 h.1 hM
      obtain ⟨o1, nf⟩ := o4 hz
      refine ⟨zr M 66 (upd (M 66) 3 (-1)), fun Q => ?_, RM_sh hM (fun c c1 c2 => zr_n (by omega)) (by rw [zr_n (by decide), zr_n (by decide)]; exact hM.2.2.2.2.2.2) (SHm_3 h.1 hM (fun c c1 c2 c3 c4 => zr_n c3) (fun s e => by rw [zr_s, upd_n e]) (fun s e => by rw [zr_n (by decide)]) (fun j e => by rw [zr_n (by decide)]) ?_ ?_ ?_) (zr_n (by decide)) (zr_n (by decide)) (zr_n (by decide)) (zr_n (by decide)) (fun j hj => by rw [zr_n (by decide)]), fun c hc => zr_n (by omega)⟩
      · simp (disch := first | assumption | omega | (simp (disch := omega) only [zr_n, zr_s]; assumption)) only [x107_0, x107_1, x107_4, x107_7, x107_9, x107_10, x107_11_65, x107_14, x107_15, x107_16, x107_19, x107_20, x107_21, x107_24, x107_25, x107_26_65, x107_29, x107_30, x107_31, x107_32, x107_33_65, x107_36, x107_37, x107_38, gc_65, bi_66, bs_66, bi_67, bs_67, ↓reduceIte, zkl_i, zkl_r, zkl_n, zkl_z, zkl_l, Option.toList_some, Option.toList_none, List.cons_append, List.nil_append, zcs_0, zcs_i, zcs_l, zcs_r, zle8, true_and, and_true, true_or, or_true, m_isSheet, r1, i1_0, if_false, ixN_nI, nI_clamp, o1, o2, nf, zr_n]
      · rw [zr_s, upd_s, zr_s, upd_s, if_neg (by decide)]
      · rw [zr_n (by decide), zr_s, upd_n (by decide)]; exact o2
      · simp (disch := omega) only [zr_n, zr_s, upd_n]
        exact o3
  · refine mkF (v := -11) (k := 1) h (fun Q => ?_) (fun M J hM Q => ?_)
    · simp (disch := first | assumption | omega | (simp (disch := omega) only [zr_n, zr_s]; assumption)) only [x68_0, x68_1, x68_2, x68_5, x68_8, x68_10, x68_11, x68_12_0, x68_15, x68_16, x68_17_53, x68_17_55, x68_17_57, x68_17_59, x68_20, x68_23, x68_24, x68_25, x68_28, x68_29, x68_30_0, x68_33, x68_34, x68_35, x68_36_53, x68_36_55, x68_36_57, x68_36_59, x68_39, x68_40_0, x68_43, x68_44, x68_45_53, x68_45_55, x68_45_57, x68_45_59, x68_48, gc_0, br_52, aa_52_0, aa_52_1, aa_52_2, aa_52_3, gc_59, ↓reduceIte, zkl_i, zkl_r, zkl_n, zkl_z, zkl_l, Option.toList_some, Option.toList_none, List.cons_append, List.nil_append, zcs_0, zcs_i, zcs_l, zcs_r, zle8, true_and, and_true, true_or, or_true, c_below, c1, i1_0, if_false, ixN_nI, nI_clamp, hz, c_found, v11]
    · have o1 := (sh_3 h.1 hM).2.2.2.2 hz
      simp (disch := first | assumption | omega | (simp (disch := omega) only [zr_n, zr_s]; assumption)) only [x107_0, x107_1, x107_4, x107_7, x107_9, x107_10, x107_11_65, x107_14, x107_15, x107_16, x107_19, x107_20, x107_21, x107_24, x107_25, x107_26_65, x107_29, x107_30, x107_31, x107_32, x107_33_65, x107_36, x107_37, x107_38, gc_65, bi_66, bs_66, bi_67, bs_67, ↓reduceIte, zkl_i, zkl_r, zkl_n, zkl_z, zkl_l, Option.toList_some, Option.toList_none, List.cons_append, List.nil_append, zcs_0, zcs_i, zcs_l, zcs_r, zle8, true_and, and_true, true_or, or_true, m_isSheet, r1, i1_0, if_false, ixN_nI, nI_clamp, o1, m1_0, if_true, m_finds, v11]
theorem lk0_3 {Q : zQ} (h : RC I) (hM : RM I M) (hz : ¬ I 59 0 = 0) : Rn (zG xl) 108 0 [.ref 65, .int (nI 3), .int b, .int c] [] M J Q = Q (some (.int (-11))) (zr M 65 (upd (M 65) 4 1)) J := by
  have o1 := (sh_3 h hM).2.2.2.2 hz
  simp (disch := first | assumption | omega | (simp (disch := omega) only [zr_n, zr_s]; assumption)) only [x108_0, x108_1_65, x108_4, x108_5, x108_6, x108_9, x108_10, x108_11, x108_14, x108_15, x108_16_65, x108_19, x108_20, x108_21, x108_22, x108_25, x108_26, x108_27, x108_30, x108_31, x108_32, x108_33, x108_34, x108_35_65, x108_38, x108_39, x108_40, x108_41, x108_42, x108_43, x108_46, x108_49, x108_50, x108_53, x108_54, x108_55, x108_58, gc_65, bi_66, bs_66, ↓reduceIte, zkl_i, zkl_r, zkl_n, zkl_z, zkl_l, Option.toList_some, Option.toList_none, List.cons_append, List.nil_append, zcs_0, zcs_i, zcs_l, zcs_r, zle8, true_and, and_true, true_or, or_true, ixN_nI, nI_clamp, o1, m1_0, if_true, m_finds, v11]
theorem lk1_3 {Q : zQ} (h : RC I) (hM : RM I M) (hz : I 59 0 = 0) (hb : ¬ I 59 1 = b) : Rn (zG xl) 108 0 [.ref 65, .int (nI 3), .int b, .int c] [] M J Q = Q (some (.int (-13))) (zr M 65 (upd (M 65) 4 3)) J := by
  obtain ⟨o1, nf⟩ := (sh_3 h hM).2.2.2.1 hz
  simp (disch := first | assumption | omega | (simp (disch := omega) only [zr_n, zr_s]; assumption)) only [x108_0, x108_1_65, x108_4, x108_5, x108_6, x108_9, x108_10, x108_11, x108_14, x108_15, x108_16_65, x108_19, x108_20, x108_21, x108_22, x108_25, x108_26, x108_27, x108_30, x108_31, x108_32, x108_33, x108_34, x108_35_65, x108_38, x108_39, x108_40, x108_41, x108_42, x108_43, x108_46, x108_49, x108_50, x108_53, x108_54, x108_55, x108_58, gc_65, bi_66, bs_66, ↓reduceIte, zkl_i, zkl_r, zkl_n, zkl_z, zkl_l, Option.toList_some, Option.toList_none, List.cons_append, List.nil_append, zcs_0, zcs_i, zcs_l, zcs_r, zle8, true_and, and_true, true_or, or_true, ixN_nI, nI_clamp, o1, nf, hb, if_false, m_finds, v11]
theorem lk2_3 {Q : zQ} (h : RC I) (hM : RM I M) (hz : I 59 0 = 0) (hb : I 59 1 = b) (hc : ¬ IN c (tn (I 59 2))) : Rn (zG xl) 108 0 [.ref 65, .int (nI 3), .int b, .int c] [] M J Q = Q (some (.int (-12))) (zr M 65 (upd (M 65) 4 2)) J := by
  obtain ⟨⟨-, -, l1, l2⟩, o2, -, o4, -⟩ := sh_3 h hM
  obtain ⟨o1, nf⟩ := o4 hz
  have r : (if c < 0 then (0 : Int32) else if nI (tn (I 59 2)) - 1 < c then 0 else 1) = 0 := bm0 (by omega) hc
  rw [← l1] at r
  simp (disch := first | assumption | omega | (simp (disch := omega) only [zr_n, zr_s]; assumption)) only [x108_0, x108_1_65, x108_4, x108_5, x108_6, x108_9, x108_10, x108_11, x108_14, x108_15, x108_16_65, x108_19, x108_20, x108_21, x108_22, x108_25, x108_26, x108_27, x108_30, x108_31, x108_32, x108_33, x108_34, x108_35_65, x108_38, x108_39, x108_40, x108_41, x108_42, x108_43, x108_46, x108_49, x108_50, x108_53, x108_54, x108_55, x108_58, gc_65, bi_66, bs_66, bi_67, bs_67, ↓reduceIte, zkl_i, zkl_r, zkl_n, zkl_z, zkl_l, Option.toList_some, Option.toList_none, List.cons_append, List.nil_append, zcs_0, zcs_i, zcs_l, zcs_r, zle8, true_and, and_true, true_or, or_true, ixN_nI, nI_clamp, o1, nf, hb, if_true, if_false, o2, m_in, k64_0, i64_lt, r, m_finds, v11]
  rw [hb] at nf
  simp only [nf, if_false]
theorem lk3_3 {Q : zQ} {k : Nat} (h : RC I) (hM : RM I M) (hz : I 59 0 = 0) (hb : I 59 1 = b) (hk : k < tn (I 59 2)) : Rn (zG xl) 108 0 [.ref 65, .int (nI 3), .int b, .int (nI k)] [] M J Q = Q (some (.int 0)) M J := by
  obtain ⟨⟨-, -, l1, l2⟩, o2, -, o4, -⟩ := sh_3 h hM
  obtain ⟨o1, nf⟩ := o4 hz
  have r : (if nI k < 0 then (0 : Int32) else if nI (tn (I 59 2)) - 1 < nI k then 0 else 1) = 1 := bm1 hk (by omega)
  rw [← l1] at r
  simp (disch := first | assumption | omega | (simp (disch := omega) only [zr_n, zr_s]; assumption)) only [x108_0, x108_1_65, x108_4, x108_5, x108_6, x108_9, x108_10, x108_11, x108_14, x108_15, x108_16_65, x108_19, x108_20, x108_21, x108_22, x108_25, x108_26, x108_27, x108_30, x108_31, x108_32, x108_33, x108_34, x108_35_65, x108_38, x108_39, x108_40, x108_41, x108_42, x108_43, x108_46, x108_49, x108_50, x108_53, x108_54, x108_55, x108_58, gc_65, bi_66, bs_66, bi_67, bs_67, ↓reduceIte, zkl_i, zkl_r, zkl_n, zkl_z, zkl_l, Option.toList_some, Option.toList_none, List.cons_append, List.nil_append, zcs_0, zcs_i, zcs_l, zcs_r, zle8, true_and, and_true, true_or, or_true, ixN_nI, nI_clamp, o1, nf, hb, if_true, if_false, o2, m_in, k64_0, i64_lt, r, i1_0]
  rw [hb] at nf
  simp only [nf, if_false]
theorem k_get_3 {f : Nat} (h : Inv I) (hf : f < 3) : KI xl 70 111 [.ref 0, .int (nI 3), .int (nI f), .int c, .null] [.ref 65, .int (nI 3), .int (nI f), .int c] I J := by
  have c1 : (if nI 3 < 0 then (0 : Int32) else if nI 3 < 4 then 1 else 0) = 1 := bl1 (n := 4) (by decide) (by decide)
  have r1 : bt (nI 3) 0 3 = 1 := in1 (m := 3) (by decide) (by decide)
  have c2 : (if nI f < 0 then (0 : Int32) else if nI f < 3 then 1 else 0) = 1 := bl1 (n := 3) hf (by decide)
  have r2 : (if nI f < 0 then (0 : Int32) else if 2 < nI f then 0 else 1) = 1 := in1 (m := 2) (by omega) (by decide)
  obtain ⟨⟨s1, s2, s3, s4⟩, -⟩ := sh_3 h.1 h.2
  have n11 : ((-11 : Int32) = 0) = False ∧ ((-12 : Int32) = 0) = False ∧ ((-13 : Int32) = 0) = False ∧ ((2 : Int32) = 0) = False ∧ ((3 : Int32) = 0) = False := by decide
  by_cases hz : I 59 0 = 0
  · by_cases hb : I 59 1 = nI f
    · by_cases hc : IN c (tn (I 59 2))
      · obtain ⟨k, hk, rfl⟩ := hc
        have q1 : ¬ nI k < 0 := nI_pos (by omega)
        have q2 : nI k < I 59 2 := by rw [s3]; exact (nI_ltI (by omega) (by omega)).mpr hk
        refine mkI (v := I 60 k) (I1 := I) (J1 := J) h (fun Q => ?_) (Tr_refl I) (fun M J hM => ⟨M, fun Q => ?_, hM, Fr_refl M⟩)
        · simp (disch := first | assumption | omega | (simp (disch := omega) only [zr_n, zr_s]; assumption)) only [x70_0, x70_1, x70_2, x70_5, x70_8, x70_9, x70_10, x70_13, x70_16, x70_18, x70_19, x70_20_0, x70_23, x70_24, x70_25, x70_26, x70_27, x70_30, x70_32, x70_34, x70_37, x70_38, x70_40_0, x70_43, x70_45, x70_46, x70_47_0, x70_50, x70_51, x70_52_53, x70_52_55, x70_52_57, x70_52_59, x70_55, x70_56, x70_57, gc_0, br_52, aa_52_0, aa_52_1, aa_52_2, aa_52_3, gc_59, bi_60, bs_60, ↓reduceIte, zkl_i, zkl_r, zkl_n, zkl_z, zkl_l, Option.toList_some, Option.toList_none, List.cons_append, List.nil_append, zcs_0, zcs_i, zcs_l, zcs_r, zle8, true_and, and_true, true_or, or_true, c_below, c1, c2, i1_0, if_false, ixN_nI, nI_clamp, c_findingAt_59, hz, hb, q1, q2, if_true]
        · have hl := fun Q => lk3_3 (xl := xl) (J := J) (Q := Q) h.1 hM hz hb hk
          have o3 := (sh_3 h.1 hM).2.2.1 k hk
          simp (disch := first | assumption | omega | (simp (disch := omega) only [zr_n, zr_s]; assumption)) only [x111_0, x111_1, x111_4, x111_7, x111_8, x111_9, x111_10, x111_13, x111_16, x111_19, x111_20, x111_21, x111_22, x111_23, x111_26, x111_29, x111_31, x111_32, x111_33_65, x111_36, x111_38, x111_39, x111_40, x111_41, x111_42, x111_43, gc_65, bi_68, bs_68, ↓reduceIte, zkl_i, zkl_r, zkl_n, zkl_z, zkl_l, Option.toList_some, Option.toList_none, List.cons_append, List.nil_append, zcs_0, zcs_i, zcs_l, zcs_r, zle8, true_and, and_true, true_or, or_true, m_isSheet, r1, m_in, k64_0, k64_2, i64_lt, r2, i1_0, if_false, hl, if_true, nm_60, nI_add, ixN_nI, nI_clamp, o3]
      · have q := IN_nlt (by omega) hc
        rw [← s3] at q
        refine mkF (v := -2147483648) (k := 2) h (fun Q => ?_) (fun M J hM Q => ?_)
        · rcases q with q | q
          · simp (disch := first | assumption | omega | (simp (disch := omega) only [zr_n, zr_s]; assumption)) only [x70_0, x70_1, x70_2, x70_5, x70_8, x70_9, x70_10, x70_13, x70_16, x70_18, x70_19, x70_20_0, x70_23, x70_24, x70_25, x70_26, x70_27, x70_30, x70_32, x70_34, x70_37, x70_38, x70_40_0, x70_43, x70_45, x70_46, x70_47_0, x70_50, x70_51, x70_52_53, x70_52_55, x70_52_57, x70_52_59, x70_55, x70_56, x70_57, gc_0, br_52, aa_52_0, aa_52_1, aa_52_2, aa_52_3, gc_59, bi_60, bs_60, ↓reduceIte, zkl_i, zkl_r, zkl_n, zkl_z, zkl_l, Option.toList_some, Option.toList_none, List.cons_append, List.nil_append, zcs_0, zcs_i, zcs_l, zcs_r, zle8, true_and, and_true, true_or, or_true, c_below, c1, c2, i1_0, if_false, ixN_nI, nI_clamp, c_findingAt_59, hz, hb, q, if_true, n11]
          · by_cases q1 : c < 0
            · simp (disch := first | assumption | omega | (simp (disch := omega) only [zr_n, zr_s]; assumption)) only [x70_0, x70_1, x70_2, x70_5, x70_8, x70_9, x70_10, x70_13, x70_16, x70_18, x70_19, x70_20_0, x70_23, x70_24, x70_25, x70_26, x70_27, x70_30, x70_32, x70_34, x70_37, x70_38, x70_40_0, x70_43, x70_45, x70_46, x70_47_0, x70_50, x70_51, x70_52_53, x70_52_55, x70_52_57, x70_52_59, x70_55, x70_56, x70_57, gc_0, br_52, aa_52_0, aa_52_1, aa_52_2, aa_52_3, gc_59, bi_60, bs_60, ↓reduceIte, zkl_i, zkl_r, zkl_n, zkl_z, zkl_l, Option.toList_some, Option.toList_none, List.cons_append, List.nil_append, zcs_0, zcs_i, zcs_l, zcs_r, zle8, true_and, and_true, true_or, or_true, c_below, c1, c2, i1_0, if_false, ixN_nI, nI_clamp, c_findingAt_59, hz, hb, q1, if_true, n11]
            · simp (disch := first | assumption | omega | (simp (disch := omega) only [zr_n, zr_s]; assumption)) only [x70_0, x70_1, x70_2, x70_5, x70_8, x70_9, x70_10, x70_13, x70_16, x70_18, x70_19, x70_20_0, x70_23, x70_24, x70_25, x70_26, x70_27, x70_30, x70_32, x70_34, x70_37, x70_38, x70_40_0, x70_43, x70_45, x70_46, x70_47_0, x70_50, x70_51, x70_52_53, x70_52_55, x70_52_57, x70_52_59, x70_55, x70_56, x70_57, gc_0, br_52, aa_52_0, aa_52_1, aa_52_2, aa_52_3, gc_59, bi_60, bs_60, ↓reduceIte, zkl_i, zkl_r, zkl_n, zkl_z, zkl_l, Option.toList_some, Option.toList_none, List.cons_append, List.nil_append, zcs_0, zcs_i, zcs_l, zcs_r, zle8, true_and, and_true, true_or, or_true, c_below, c1, c2, i1_0, if_false, ixN_nI, nI_clamp, c_findingAt_59, hz, hb, q1, q, if_true, n11]
        · have hl := fun Q => lk2_3 (xl := xl) (J := J) (Q := Q) h.1 hM hz hb hc
          simp (disch := first | assumption | omega | (simp (disch := omega) only [zr_n, zr_s]; assumption)) only [x111_0, x111_1, x111_4, x111_7, x111_8, x111_9, x111_10, x111_13, x111_16, x111_19, x111_20, x111_21, x111_22, x111_23, x111_26, x111_29, x111_31, x111_32, x111_33_65, x111_36, x111_38, x111_39, x111_40, x111_41, x111_42, x111_43, gc_65, ↓reduceIte, zkl_i, zkl_r, zkl_n, zkl_z, zkl_l, Option.toList_some, Option.toList_none, List.cons_append, List.nil_append, zcs_0, zcs_i, zcs_l, zcs_r, zle8, true_and, and_true, true_or, or_true, m_isSheet, r1, m_in, k64_0, k64_2, i64_lt, r2, i1_0, if_false, hl, n11]
    · refine mkF (v := -2147483648) (k := 3) h (fun Q => ?_) (fun M J hM Q => ?_)
      · simp (disch := first | assumption | omega | (simp (disch := omega) only [zr_n, zr_s]; assumption)) only [x70_0, x70_1, x70_2, x70_5, x70_8, x70_9, x70_10, x70_13, x70_16, x70_18, x70_19, x70_20_0, x70_23, x70_24, x70_25, x70_26, x70_27, x70_30, x70_32, x70_34, x70_37, x70_38, x70_40_0, x70_43, x70_45, x70_46, x70_47_0, x70_50, x70_51, x70_52_53, x70_52_55, x70_52_57, x70_52_59, x70_55, x70_56, x70_57, gc_0, br_52, aa_52_0, aa_52_1, aa_52_2, aa_52_3, gc_59, bi_60, bs_60, ↓reduceIte, zkl_i, zkl_r, zkl_n, zkl_z, zkl_l, Option.toList_some, Option.toList_none, List.cons_append, List.nil_append, zcs_0, zcs_i, zcs_l, zcs_r, zle8, true_and, and_true, true_or, or_true, c_below, c1, c2, i1_0, if_false, ixN_nI, nI_clamp, c_findingAt_59, hz, hb, if_true, n11]
      · have hl := fun Q => lk1_3 (xl := xl) (J := J) (Q := Q) (c := c) h.1 hM hz hb
        simp (disch := first | assumption | omega | (simp (disch := omega) only [zr_n, zr_s]; assumption)) only [x111_0, x111_1, x111_4, x111_7, x111_8, x111_9, x111_10, x111_13, x111_16, x111_19, x111_20, x111_21, x111_22, x111_23, x111_26, x111_29, x111_31, x111_32, x111_33_65, x111_36, x111_38, x111_39, x111_40, x111_41, x111_42, x111_43, gc_65, ↓reduceIte, zkl_i, zkl_r, zkl_n, zkl_z, zkl_l, Option.toList_some, Option.toList_none, List.cons_append, List.nil_append, zcs_0, zcs_i, zcs_l, zcs_r, zle8, true_and, and_true, true_or, or_true, m_isSheet, r1, m_in, k64_0, k64_2, i64_lt, r2, i1_0, if_false, hl, n11]
  · refine mkF (v := -2147483648) (k := 1) h (fun Q => ?_) (fun M J hM Q => ?_)
    · simp (disch := first | assumption | omega | (simp (disch := omega) only [zr_n, zr_s]; assumption)) only [x70_0, x70_1, x70_2, x70_5, x70_8, x70_9, x70_10, x70_13, x70_16, x70_18, x70_19, x70_20_0, x70_23, x70_24, x70_25, x70_26, x70_27, x70_30, x70_32, x70_34, x70_37, x70_38, x70_40_0, x70_43, x70_45, x70_46, x70_47_0, x70_50, x70_51, x70_52_53, x70_52_55, x70_52_57, x70_52_59, x70_55, x70_56, x70_57, gc_0, br_52, aa_52_0, aa_52_1, aa_52_2, aa_52_3, gc_59, bi_60, bs_60, ↓reduceIte, zkl_i, zkl_r, zkl_n, zkl_z, zkl_l, Option.toList_some, Option.toList_none, List.cons_append, List.nil_append, zcs_0, zcs_i, zcs_l, zcs_r, zle8, true_and, and_true, true_or, or_true, c_below, c1, c2, i1_0, if_false, ixN_nI, nI_clamp, c_findingAt_59, hz, n11]
    · have hl := fun Q => lk0_3 (xl := xl) (J := J) (Q := Q) (b := nI f) (c := c) h.1 hM hz
      simp (disch := first | assumption | omega | (simp (disch := omega) only [zr_n, zr_s]; assumption)) only [x111_0, x111_1, x111_4, x111_7, x111_8, x111_9, x111_10, x111_13, x111_16, x111_19, x111_20, x111_21, x111_22, x111_23, x111_26, x111_29, x111_31, x111_32, x111_33_65, x111_36, x111_38, x111_39, x111_40, x111_41, x111_42, x111_43, gc_65, ↓reduceIte, zkl_i, zkl_r, zkl_n, zkl_z, zkl_l, Option.toList_some, Option.toList_none, List.cons_append, List.nil_append, zcs_0, zcs_i, zcs_l, zcs_r, zle8, true_and, and_true, true_or, or_true, m_isSheet, r1, m_in, k64_0, k64_2, i64_lt, r2, i1_0, if_false, hl, n11]
theorem k_lay_3 {f : Nat} (h : Inv I) (hf : f < 3) : KI xl 69 110 [.ref 0, .int (nI 3), .int (nI f), .int c, .int d, .null] [.ref 65, .int (nI 3), .int (nI f), .int c, .int d, .null] I J := by
  have c1 : (if nI 3 < 0 then (0 : Int32) else if nI 3 < 4 then 1 else 0) = 1 := bl1 (n := 4) (by decide) (by decide)
  have r1 : bt (nI 3) 0 3 = 1 := in1 (m := 3) (by decide) (by decide)
  have c2 : (if nI f < 0 then (0 : Int32) else if nI f < 3 then 1 else 0) = 1 := bl1 (n := 3) hf (by decide)
  have r2 : (if nI f < 0 then (0 : Int32) else if 2 < nI f then 0 else 1) = 1 := in1 (m := 2) (by omega) (by decide)
  obtain ⟨⟨s1, s2, s3, s4⟩, -⟩ := sh_3 h.1 h.2
  have n11 : ((-11 : Int32) = 0) = False ∧ ((-12 : Int32) = 0) = False ∧ ((-13 : Int32) = 0) = False ∧ ((2 : Int32) = 0) = False ∧ ((3 : Int32) = 0) = False := by decide
  by_cases hz : I 59 0 = 0
  · by_cases hb : I 59 1 = nI f
    · by_cases hc : IN c (tn (I 59 2))
      · obtain ⟨k, hk, rfl⟩ := hc
        have q1 : ¬ nI k < 0 := nI_pos (by omega)
        have q2 : nI k < I 59 2 := by rw [s3]; exact (nI_ltI (by omega) (by omega)).mpr hk
        refine mkU (v := 1) (I1 := zr I 60 (upd (I 60) k (cutv (nI f) d))) h (fun Q => ?_) (RC_sh h.1 (fun c c1 c2 => zr_n (by omega)) (zr_n (by decide)) (fun s hs => by rw [zr_n (by omega)]; exact h.1.2.2.1 s hs)) (fun c hc => zr_n (by omega)) (fun M J hM => ?_)
        · simp (disch := first | assumption | omega | (simp (disch := omega) only [zr_n, zr_s]; assumption)) only [x69_0, x69_1, x69_2, x69_5, x69_8, x69_9, x69_10, x69_13, x69_16, x69_18, x69_19, x69_20_0, x69_23, x69_24, x69_25, x69_26, x69_27, x69_30, x69_32, x69_34, x69_37, x69_38, x69_40, x69_43, x69_44, x69_45_0, x69_48, x69_49, x69_50, x69_51, x69_53, x69_56, x69_57, gc_0, br_52, aa_52_0, aa_52_1, aa_52_2, aa_52_3, gc_59, bi_60, bs_60, ↓reduceIte, zkl_i, zkl_r, zkl_n, zkl_z, zkl_l, Option.toList_some, Option.toList_none, List.cons_append, List.nil_append, zcs_0, zcs_i, zcs_l, zcs_r, zle8, true_and, and_true, true_or, or_true, c_below, c1, c2, i1_0, if_false, ixN_nI, nI_clamp, c_findingAt_59, hz, hb, q1, q2, if_true, c_put_59]
        · have hl := fun Q => lk3_3 (xl := xl) (J := J) (Q := Q) h.1 hM hz hb hk
          obtain ⟨-, o2, o3, o4, -⟩ := sh_3 h.1 hM
          refine ⟨zr M 68 (upd (M 68) (60 * 3 + k) (cutv (nI f) d)), fun Q => ?_, RM_sh hM (fun c c1 c2 => zr_n (by omega)) (by rw [zr_n (by decide), zr_n (by decide)]; exact hM.2.2.2.2.2.2) (SHm_3 h.1 hM (fun c c1 c2 c3 c4 => zr_n c4) (fun s e => by rw [zr_n (by decide)]) (fun s e => by rw [zr_n (by decide)]) (fun j e => by rw [zr_s, upd_n (by omega)]) ?_ ?_ ?_) (zr_n (by decide)) (zr_n (by decide)) (zr_n (by decide)) (zr_n (by decide)) (fun j hj => by rw [zr_n (by decide)]), fun c hc => zr_n (by omega)⟩
          · simp (disch := first | assumption | omega | (simp (disch := omega) only [zr_n, zr_s]; assumption)) only [x110_0, x110_1, x110_4, x110_7, x110_8, x110_9, x110_10, x110_13, x110_16, x110_19, x110_21, x110_22, x110_23, x110_24, x110_25, x110_26, x110_29, x110_31, x110_33, x110_36, x110_38, x110_39, x110_40_65, x110_43, x110_45, x110_46, x110_47, x110_48, x110_49, x110_50, x110_52, x110_55, x110_56, x110_57, gc_65, bi_68, bs_68, ↓reduceIte, zkl_i, zkl_r, zkl_n, zkl_z, zkl_l, Option.toList_some, Option.toList_none, List.cons_append, List.nil_append, zcs_0, zcs_i, zcs_l, zcs_r, zle8, true_and, and_true, true_or, or_true, m_isSheet, r1, m_in, k64_0, k64_2, i64_lt, r2, i1_0, if_false, hl, if_true, nm_60, nI_add, ixN_nI, nI_clamp, m_cut, cut_eq]
          · rw [zr_n (by decide), zr_n (by decide), if_pos hz]; exact (o4 hz).1
          · rw [zr_n (by decide), zr_n (by decide)]; exact o2
          · rw [zr_n (show 59 ≠ 60 by decide), zr_s, zr_s]
            intro j hj
            by_cases e : j = k
            · subst e; rw [upd_s, upd_s]
            · rw [upd_n (by omega), upd_n e]; exact o3 j hj
      · have q := IN_nlt (by omega) hc
        rw [← s3] at q
        refine mkF (v := -12) (k := 2) h (fun Q => ?_) (fun M J hM Q => ?_)
        · rcases q with q | q
          · simp (disch := first | assumption | omega | (simp (disch := omega) only [zr_n, zr_s]; assumption)) only [x69_0, x69_1, x69_2, x69_5, x69_8, x69_9, x69_10, x69_13, x69_16, x69_18, x69_19, x69_20_0, x69_23, x69_24, x69_25, x69_26, x69_27, x69_30, x69_32, x69_34, x69_37, x69_38, x69_40, x69_43, x69_44, x69_45_0, x69_48, x69_49, x69_50, x69_51, x69_53, x69_56, x69_57, gc_0, br_52, aa_52_0, aa_52_1, aa_52_2, aa_52_3, gc_59, bi_60, bs_60, ↓reduceIte, zkl_i, zkl_r, zkl_n, zkl_z, zkl_l, Option.toList_some, Option.toList_none, List.cons_append, List.nil_append, zcs_0, zcs_i, zcs_l, zcs_r, zle8, true_and, and_true, true_or, or_true, c_below, c1, c2, i1_0, if_false, ixN_nI, nI_clamp, c_findingAt_59, hz, hb, q, if_true, n11, c_found, v11]
          · by_cases q1 : c < 0
            · simp (disch := first | assumption | omega | (simp (disch := omega) only [zr_n, zr_s]; assumption)) only [x69_0, x69_1, x69_2, x69_5, x69_8, x69_9, x69_10, x69_13, x69_16, x69_18, x69_19, x69_20_0, x69_23, x69_24, x69_25, x69_26, x69_27, x69_30, x69_32, x69_34, x69_37, x69_38, x69_40, x69_43, x69_44, x69_45_0, x69_48, x69_49, x69_50, x69_51, x69_53, x69_56, x69_57, gc_0, br_52, aa_52_0, aa_52_1, aa_52_2, aa_52_3, gc_59, bi_60, bs_60, ↓reduceIte, zkl_i, zkl_r, zkl_n, zkl_z, zkl_l, Option.toList_some, Option.toList_none, List.cons_append, List.nil_append, zcs_0, zcs_i, zcs_l, zcs_r, zle8, true_and, and_true, true_or, or_true, c_below, c1, c2, i1_0, if_false, ixN_nI, nI_clamp, c_findingAt_59, hz, hb, q1, if_true, n11, c_found, v11]
            · simp (disch := first | assumption | omega | (simp (disch := omega) only [zr_n, zr_s]; assumption)) only [x69_0, x69_1, x69_2, x69_5, x69_8, x69_9, x69_10, x69_13, x69_16, x69_18, x69_19, x69_20_0, x69_23, x69_24, x69_25, x69_26, x69_27, x69_30, x69_32, x69_34, x69_37, x69_38, x69_40, x69_43, x69_44, x69_45_0, x69_48, x69_49, x69_50, x69_51, x69_53, x69_56, x69_57, gc_0, br_52, aa_52_0, aa_52_1, aa_52_2, aa_52_3, gc_59, bi_60, bs_60, ↓reduceIte, zkl_i, zkl_r, zkl_n, zkl_z, zkl_l, Option.toList_some, Option.toList_none, List.cons_append, List.nil_append, zcs_0, zcs_i, zcs_l, zcs_r, zle8, true_and, and_true, true_or, or_true, c_below, c1, c2, i1_0, if_false, ixN_nI, nI_clamp, c_findingAt_59, hz, hb, q1, q, if_true, n11, c_found, v11]
        · have hl := fun Q => lk2_3 (xl := xl) (J := J) (Q := Q) h.1 hM hz hb hc
          simp (disch := first | assumption | omega | (simp (disch := omega) only [zr_n, zr_s]; assumption)) only [x110_0, x110_1, x110_4, x110_7, x110_8, x110_9, x110_10, x110_13, x110_16, x110_19, x110_21, x110_22, x110_23, x110_24, x110_25, x110_26, x110_29, x110_31, x110_33, x110_36, x110_38, x110_39, x110_40_65, x110_43, x110_45, x110_46, x110_47, x110_48, x110_49, x110_50, x110_52, x110_55, x110_56, x110_57, gc_65, ↓reduceIte, zkl_i, zkl_r, zkl_n, zkl_z, zkl_l, Option.toList_some, Option.toList_none, List.cons_append, List.nil_append, zcs_0, zcs_i, zcs_l, zcs_r, zle8, true_and, and_true, true_or, or_true, m_isSheet, r1, m_in, k64_0, k64_2, i64_lt, r2, i1_0, if_false, hl, n11]
    · refine mkF (v := -13) (k := 3) h (fun Q => ?_) (fun M J hM Q => ?_)
      · simp (disch := first | assumption | omega | (simp (disch := omega) only [zr_n, zr_s]; assumption)) only [x69_0, x69_1, x69_2, x69_5, x69_8, x69_9, x69_10, x69_13, x69_16, x69_18, x69_19, x69_20_0, x69_23, x69_24, x69_25, x69_26, x69_27, x69_30, x69_32, x69_34, x69_37, x69_38, x69_40, x69_43, x69_44, x69_45_0, x69_48, x69_49, x69_50, x69_51, x69_53, x69_56, x69_57, gc_0, br_52, aa_52_0, aa_52_1, aa_52_2, aa_52_3, gc_59, bi_60, bs_60, ↓reduceIte, zkl_i, zkl_r, zkl_n, zkl_z, zkl_l, Option.toList_some, Option.toList_none, List.cons_append, List.nil_append, zcs_0, zcs_i, zcs_l, zcs_r, zle8, true_and, and_true, true_or, or_true, c_below, c1, c2, i1_0, if_false, ixN_nI, nI_clamp, c_findingAt_59, hz, hb, if_true, n11, c_found, v11]
      · have hl := fun Q => lk1_3 (xl := xl) (J := J) (Q := Q) (c := c) h.1 hM hz hb
        simp (disch := first | assumption | omega | (simp (disch := omega) only [zr_n, zr_s]; assumption)) only [x110_0, x110_1, x110_4, x110_7, x110_8, x110_9, x110_10, x110_13, x110_16, x110_19, x110_21, x110_22, x110_23, x110_24, x110_25, x110_26, x110_29, x110_31, x110_33, x110_36, x110_38, x110_39, x110_40_65, x110_43, x110_45, x110_46, x110_47, x110_48, x110_49, x110_50, x110_52, x110_55, x110_56, x110_57, gc_65, ↓reduceIte, zkl_i, zkl_r, zkl_n, zkl_z, zkl_l, Option.toList_some, Option.toList_none, List.cons_append, List.nil_append, zcs_0, zcs_i, zcs_l, zcs_r, zle8, true_and, and_true, true_or, or_true, m_isSheet, r1, m_in, k64_0, k64_2, i64_lt, r2, i1_0, if_false, hl, n11]
  · refine mkF (v := -11) (k := 1) h (fun Q => ?_) (fun M J hM Q => ?_)
    · simp (disch := first | assumption | omega | (simp (disch := omega) only [zr_n, zr_s]; assumption)) only [x69_0, x69_1, x69_2, x69_5, x69_8, x69_9, x69_10, x69_13, x69_16, x69_18, x69_19, x69_20_0, x69_23, x69_24, x69_25, x69_26, x69_27, x69_30, x69_32, x69_34, x69_37, x69_38, x69_40, x69_43, x69_44, x69_45_0, x69_48, x69_49, x69_50, x69_51, x69_53, x69_56, x69_57, gc_0, br_52, aa_52_0, aa_52_1, aa_52_2, aa_52_3, gc_59, bi_60, bs_60, ↓reduceIte, zkl_i, zkl_r, zkl_n, zkl_z, zkl_l, Option.toList_some, Option.toList_none, List.cons_append, List.nil_append, zcs_0, zcs_i, zcs_l, zcs_r, zle8, true_and, and_true, true_or, or_true, c_below, c1, c2, i1_0, if_false, ixN_nI, nI_clamp, c_findingAt_59, hz, n11, c_found, v11]
    · have hl := fun Q => lk0_3 (xl := xl) (J := J) (Q := Q) (b := nI f) (c := c) h.1 hM hz
      simp (disch := first | assumption | omega | (simp (disch := omega) only [zr_n, zr_s]; assumption)) only [x110_0, x110_1, x110_4, x110_7, x110_8, x110_9, x110_10, x110_13, x110_16, x110_19, x110_21, x110_22, x110_23, x110_24, x110_25, x110_26, x110_29, x110_31, x110_33, x110_36, x110_38, x110_39, x110_40_65, x110_43, x110_45, x110_46, x110_47, x110_48, x110_49, x110_50, x110_52, x110_55, x110_56, x110_57, gc_65, ↓reduceIte, zkl_i, zkl_r, zkl_n, zkl_z, zkl_l, Option.toList_some, Option.toList_none, List.cons_append, List.nil_append, zcs_0, zcs_i, zcs_l, zcs_r, zle8, true_and, and_true, true_or, or_true, m_isSheet, r1, m_in, k64_0, k64_2, i64_lt, r2, i1_0, if_false, hl, n11]
theorem k_sheet_3 {f n : Nat} (h : Inv I) (hf : f < 3) (hn : n ≤ 60) : KI xl 67 106 [.ref 0, .int (nI 3), .int (nI f), .int (nI n)] [.ref 65, .int (nI 3), .int (nI f), .int (nI n), .null] I J := by
  have c1 : (if nI 3 < 0 then (0 : Int32) else if nI 3 < 4 then 1 else 0) = 1 := bl1 (n := 4) (by decide) (by decide)
  have r1 : bt (nI 3) 0 3 = 1 := in1 (m := 3) (by decide) (by decide)
  have c2 : (if nI f < 0 then (0 : Int32) else if nI f < 3 then 1 else 0) = 1 := bl1 (n := 3) hf (by decide)
  have r2 : (if nI f < 0 then (0 : Int32) else if 2 < nI f then 0 else 1) = 1 := in1 (m := 2) (by omega) (by decide)
  have n60 : ¬ (60 : Int32) < nI n := by
    rw [show (60 : Int32) = nI 60 from rfl, nI_ltI (by decide) (by omega)]
    omega
  have n0 : ¬ nI n < 0 := nI_pos (by omega)
  have tn' : tn (nI n) = n := nI_clamp (by omega)
  refine mkU (v := nI n) (I1 := zr (zr I 59 (upd (upd (upd (I 59) 0 0) 1 (nI f)) 2 (nI n))) 60 (zfil 60 0 (I 60))) h (fun Q => ?_) (RC_sh h.1 (fun c c1 c2 => by simp (disch := omega) only [zr_n]) (by simp (disch := omega) only [zr_n]) (SHc_1 (S := 3) h.1.2.2.1 (fun s hs e => by simp (disch := omega) only [zr_n]) ?_)) (fun c hc => by simp (disch := omega) only [zr_n]) (fun M J hM => ?_)
  · simp (disch := first | assumption | omega | (simp (disch := omega) only [zr_n, zr_s]; assumption)) only [x67_0, x67_1, x67_2, x67_5, x67_8, x67_9, x67_10, x67_13, x67_16, x67_17, x67_19, x67_22, x67_24, x67_25, x67_26, x67_29, x67_30, x67_31, x67_34, x67_35, x67_36_0, x67_39, x67_40, x67_41, x67_42, x67_43, x67_46, x67_47, gc_0, br_52, aa_52_0, aa_52_1, aa_52_2, aa_52_3, gc_59, ↓reduceIte, zkl_i, zkl_r, zkl_n, zkl_z, zkl_l, Option.toList_some, Option.toList_none, List.cons_append, List.nil_append, zcs_0, zcs_i, zcs_l, zcs_r, zle8, true_and, and_true, true_or, or_true, c_below, c1, c2, i1_0, if_false, n60, n0, ixN_nI, nI_clamp, c_renew_59]
  · show (zr (zr I 59 (upd (upd (upd (I 59) 0 0) 1 (nI f)) 2 (nI n))) 60 (zfil 60 0 (I 60)) 59 0 = 0 ∨ zr (zr I 59 (upd (upd (upd (I 59) 0 0) 1 (nI f)) 2 (nI n))) 60 (zfil 60 0 (I 60)) 59 0 = 1) ∧ ixN (zr (zr I 59 (upd (upd (upd (I 59) 0 0) 1 (nI f)) 2 (nI n))) 60 (zfil 60 0 (I 60)) 59 1) 3 ∧ ixN (zr (zr I 59 (upd (upd (upd (I 59) 0 0) 1 (nI f)) 2 (nI n))) 60 (zfil 60 0 (I 60)) 59 2) 61
    simp (disch := omega) only [zr_n, zr_s, upd_n, upd_s]
    rw [ixN_nI (by omega) (by decide), ixN_nI (by omega) (by decide)]
    exact ⟨Or.inl trivial, trivial, trivial⟩
  · have lp := lpE (R := fun k (u v : Unit) X Q => Rn (zG xl) 106 55 [.ref 65, .int (nI 3), .int (nI f), .int (nI n), .int (nI k)] [] X J Q) (E := fun (u : Unit) X' Q => Q (some (.int (nI n))) X' J) (f := fun _ u => u) (n := n) (P := fun k (u : Unit) X => (∀ c, c ≠ 68 → X c = zr (zr M 66 (upd (M 66) 3 (nI f))) 67 (upd (M 67) 3 (nI n)) c) ∧ (∀ j, j < 60 * 3 ∨ 60 * 3 + 60 ≤ j → X 68 j = M 68 j) ∧ ∀ j, j < k → X 68 (60 * 3 + j) = 0) (P' := fun u X => (∀ c, c ≠ 68 → X c = zr (zr M 66 (upd (M 66) 3 (nI f))) 67 (upd (M 67) 3 (nI n)) c) ∧ (∀ j, j < 60 * 3 ∨ 60 * 3 + 60 ≤ j → X 68 j = M 68 j) ∧ ∀ j, j < n → X 68 (60 * 3 + j) = 0) (fun k u v X hk hP => by
      obtain ⟨p1, p2, p3⟩ := hP
      refine ⟨(), zr X 68 (upd (X 68) (60 * 3 + k) 0), fun Q => ?_, fun c hc => by rw [zr_n hc]; exact p1 c hc, fun j hj => by rw [zr_s, upd_n (by omega)]; exact p2 j hj, fun j hj => ?_⟩
      · show Rn _ _ _ _ _ _ _ _ = Rn _ _ _ _ _ _ _ _
        rw [h106_55]
        simp (disch := first | assumption | omega | (simp (disch := omega) only [zr_n, zr_s]; assumption)) only [x106_57, x106_58, x106_61, x106_62_65, x106_65, x106_67, x106_68, x106_69, x106_71, x106_72, x106_73, x106_74, x106_77, bi_68, bs_68, ↓reduceIte, zkl_i, zkl_r, zkl_n, zkl_z, zkl_l, Option.toList_some, Option.toList_none, List.cons_append, List.nil_append, zcs_0, zcs_i, zcs_l, zcs_r, zle8, true_and, and_true, true_or, or_true, nI_ltI, hk, if_true, nm_60, nI_add, ixN_nI, nI_clamp, na_1]
      · rw [zr_s]
        by_cases e : j = k
        · subst e; rw [upd_s]
        · rw [upd_n (by omega)]; exact p3 j (by omega)) (fun u v X hP => by
      refine ⟨X, fun Q => ?_, hP⟩
      show Rn _ _ _ _ _ _ _ _ = _
      rw [h106_55]
      simp (disch := first | assumption | omega | (simp (disch := omega) only [zr_n, zr_s]; assumption)) only [x106_57, x106_58, x106_61, x106_62_65, x106_65, x106_67, x106_68, x106_69, x106_71, x106_72, x106_73, x106_74, x106_77, x106_80, x106_81, ↓reduceIte, zkl_i, zkl_r, zkl_n, zkl_z, zkl_l, Option.toList_some, Option.toList_none, List.cons_append, List.nil_append, zcs_0, zcs_i, zcs_l, zcs_r, zle8, true_and, and_true, true_or, or_true, nI_ltI, Nat.lt_irrefl, if_false]) n 0 () () (zr (zr M 66 (upd (M 66) 3 (nI f))) 67 (upd (M 67) 3 (nI n))) (Nat.zero_add _) ⟨fun c hc => rfl, fun j hj => by simp (disch := omega) only [zr_n], fun j hj => by omega⟩
    obtain ⟨M', l1, l2, l3, l4⟩ := lp
    have k1 : ∀ c, c ≠ 66 → c ≠ 67 → c ≠ 68 → M' c = M c := fun c a1 a2 a3 => by rw [l2 c a3, zr_n a2, zr_n a1]
    have k66 : M' 66 = upd (M 66) 3 (nI f) := by rw [l2 66 (by decide), zr_n (by decide), zr_s]
    have k67 : M' 67 = upd (M 67) 3 (nI n) := by rw [l2 67 (by decide), zr_s]
    refine ⟨M', fun Q => ?_, RM_sh hM (fun c c1 c2 => by simp (disch := omega) only [zr_n]) (by rw [k1 65 (by decide) (by decide) (by decide)]; simp (disch := omega) only [zr_n]; exact hM.2.2.2.2.2.2) (SHm_3 h.1 hM (fun c c1 c2 c3 c4 => by simp (disch := omega) only [zr_n]) (fun s e => by rw [k66, upd_n e]) (fun s e => by rw [k67, upd_n e]) l3 ?_ ?_ ?_) (k1 70 (by decide) (by decide) (by decide)) (k1 71 (by decide) (by decide) (by decide)) (k1 75 (by decide) (by decide) (by decide)) (k1 87 (by decide) (by decide) (by decide)) (fun j hj => by rw [k1 65 (by decide) (by decide) (by decide)]), fun c hc => k1 c (by omega) (by omega) (by omega)⟩
    · refine Eq.trans ?_ (l1 Q)
      simp (disch := first | assumption | omega | (simp (disch := omega) only [zr_n, zr_s]; assumption)) only [x106_0, x106_1, x106_4, x106_7, x106_8, x106_9, x106_10, x106_13, x106_16, x106_19, x106_20, x106_22, x106_25, x106_27, x106_28, x106_29, x106_32, x106_33, x106_34, x106_37, x106_38, x106_39_65, x106_42, x106_43, x106_44, x106_45, x106_46_65, x106_49, x106_50, x106_51, x106_52, x106_53, bi_66, bs_66, bi_67, bs_67, ↓reduceIte, zkl_i, zkl_r, zkl_n, zkl_z, zkl_l, Option.toList_some, Option.toList_none, List.cons_append, List.nil_append, zcs_0, zcs_i, zcs_l, zcs_r, zle8, true_and, and_true, true_or, or_true, m_isSheet, r1, m_in, k64_0, k64_2, i64_lt, r2, i1_0, if_false, n60, n0, ixN_nI, nI_clamp, zr_n]
      rfl
    · rw [k66, upd_s]
      simp (disch := omega) only [zr_n, zr_s, upd_n, upd_s]
      rw [if_pos trivial]
    · rw [k67, upd_s]
      simp (disch := omega) only [zr_n, zr_s, upd_n, upd_s]
    · simp (disch := omega) only [zr_n, zr_s, upd_n, upd_s]
      rw [tn']
      intro j hj
      rw [l4 j hj, zfil, if_pos (by omega)]
theorem k_lose (h : Inv I) : KI xl 68 107 [.ref 0, .int a] [.ref 65, .int a] I J := by
  by_cases ha : IN a 4
  · obtain ⟨k, hk, rfl⟩ := ha
    rcases nlt_4' hk with rfl | rfl | rfl | rfl
    · exact k_lose_0 h
    · exact k_lose_1 h
    · exact k_lose_2 h
    · exact k_lose_3 h
  · have c1 : (if a < 0 then (0 : Int32) else if a < 4 then 1 else 0) = 0 := bl0 (n := 4) (by decide) ha
    have r1 : bt a 0 3 = 0 := in0 (m := 3) (by decide) ha
    refine mkI (v := -2) (I1 := I) (J1 := J) h (fun Q => by simp (disch := first | assumption | omega | (simp (disch := omega) only [zr_n, zr_s]; assumption)) only [x68_0, x68_1, x68_2, x68_5, x68_8, x68_10, x68_11, x68_12_0, x68_15, x68_16, x68_17_53, x68_17_55, x68_17_57, x68_17_59, x68_20, x68_23, x68_24, x68_25, x68_28, x68_29, x68_30_0, x68_33, x68_34, x68_35, x68_36_53, x68_36_55, x68_36_57, x68_36_59, x68_39, x68_40_0, x68_43, x68_44, x68_45_53, x68_45_55, x68_45_57, x68_45_59, x68_48, ↓reduceIte, zkl_i, zkl_r, zkl_n, zkl_z, zkl_l, Option.toList_some, Option.toList_none, List.cons_append, List.nil_append, zcs_0, zcs_i, zcs_l, zcs_r, zle8, true_and, and_true, true_or, or_true, c_below, c1, if_true]) (Tr_refl I) (fun M J hM => ⟨M, fun Q => ?_, hM, Fr_refl M⟩)
    simp (disch := first | assumption | omega | (simp (disch := omega) only [zr_n, zr_s]; assumption)) only [x107_0, x107_1, x107_4, x107_7, x107_9, x107_10, x107_11_65, x107_14, x107_15, x107_16, x107_19, x107_20, x107_21, x107_24, x107_25, x107_26_65, x107_29, x107_30, x107_31, x107_32, x107_33_65, x107_36, x107_37, x107_38, ↓reduceIte, zkl_i, zkl_r, zkl_n, zkl_z, zkl_l, Option.toList_some, Option.toList_none, List.cons_append, List.nil_append, zcs_0, zcs_i, zcs_l, zcs_r, zle8, true_and, and_true, true_or, or_true, m_isSheet, r1, if_true]
theorem k_get (h : Inv I) : KI xl 70 111 [.ref 0, .int a, .int b, .int c, .null] [.ref 65, .int a, .int b, .int c] I J := by
  by_cases ha : IN a 4
  · obtain ⟨k, hk, rfl⟩ := ha
    have c1 : (if nI k < 0 then (0 : Int32) else if nI k < 4 then 1 else 0) = 1 := bl1 (n := 4) hk (by decide)
    have r1 : bt (nI k) 0 3 = 1 := in1 (m := 3) (by omega) (by decide)
    by_cases hb : IN b 3
    · obtain ⟨f, hf, rfl⟩ := hb
      rcases nlt_4' hk with rfl | rfl | rfl | rfl
      · exact k_get_0 h hf
      · exact k_get_1 h hf
      · exact k_get_2 h hf
      · exact k_get_3 h hf
    · have c2 : (if b < 0 then (0 : Int32) else if b < 3 then 1 else 0) = 0 := bl0 (n := 3) (by decide) hb
      have r2 : (if b < 0 then (0 : Int32) else if 2 < b then 0 else 1) = 0 := in0 (m := 2) (by decide) hb
      refine mkI (v := (-2147483648)) (I1 := I) (J1 := J) h (fun Q => by simp (disch := first | assumption | omega | (simp (disch := omega) only [zr_n, zr_s]; assumption)) only [x70_0, x70_1, x70_2, x70_5, x70_8, x70_9, x70_10, x70_13, x70_16, x70_18, x70_19, x70_20_0, x70_23, x70_24, x70_25, x70_26, x70_27, x70_30, x70_32, x70_34, x70_37, x70_38, x70_40_0, x70_43, x70_45, x70_46, x70_47_0, x70_50, x70_51, x70_52_53, x70_52_55, x70_52_57, x70_52_59, x70_55, x70_56, x70_57, ↓reduceIte, zkl_i, zkl_r, zkl_n, zkl_z, zkl_l, Option.toList_some, Option.toList_none, List.cons_append, List.nil_append, zcs_0, zcs_i, zcs_l, zcs_r, zle8, true_and, and_true, true_or, or_true, c_below, c1, c2, i1_0, if_true, if_false]) (Tr_refl I) (fun M J hM => ⟨M, fun Q => ?_, hM, Fr_refl M⟩)
      simp (disch := first | assumption | omega | (simp (disch := omega) only [zr_n, zr_s]; assumption)) only [x111_0, x111_1, x111_4, x111_7, x111_8, x111_9, x111_10, x111_13, x111_16, x111_19, x111_20, x111_21, x111_22, x111_23, x111_26, x111_29, x111_31, x111_32, x111_33_65, x111_36, x111_38, x111_39, x111_40, x111_41, x111_42, x111_43, ↓reduceIte, zkl_i, zkl_r, zkl_n, zkl_z, zkl_l, Option.toList_some, Option.toList_none, List.cons_append, List.nil_append, zcs_0, zcs_i, zcs_l, zcs_r, zle8, true_and, and_true, true_or, or_true, m_isSheet, r1, m_in, k64_0, k64_2, i64_lt, r2, i1_0, if_true, if_false]
  · have c1 : (if a < 0 then (0 : Int32) else if a < 4 then 1 else 0) = 0 := bl0 (n := 4) (by decide) ha
    have r1 : bt a 0 3 = 0 := in0 (m := 3) (by decide) ha
    refine mkI (v := (-2147483648)) (I1 := I) (J1 := J) h (fun Q => by simp (disch := first | assumption | omega | (simp (disch := omega) only [zr_n, zr_s]; assumption)) only [x70_0, x70_1, x70_2, x70_5, x70_8, x70_9, x70_10, x70_13, x70_16, x70_18, x70_19, x70_20_0, x70_23, x70_24, x70_25, x70_26, x70_27, x70_30, x70_32, x70_34, x70_37, x70_38, x70_40_0, x70_43, x70_45, x70_46, x70_47_0, x70_50, x70_51, x70_52_53, x70_52_55, x70_52_57, x70_52_59, x70_55, x70_56, x70_57, ↓reduceIte, zkl_i, zkl_r, zkl_n, zkl_z, zkl_l, Option.toList_some, Option.toList_none, List.cons_append, List.nil_append, zcs_0, zcs_i, zcs_l, zcs_r, zle8, true_and, and_true, true_or, or_true, c_below, c1, if_true]) (Tr_refl I) (fun M J hM => ⟨M, fun Q => ?_, hM, Fr_refl M⟩)
    simp (disch := first | assumption | omega | (simp (disch := omega) only [zr_n, zr_s]; assumption)) only [x111_0, x111_1, x111_4, x111_7, x111_8, x111_9, x111_10, x111_13, x111_16, x111_19, x111_20, x111_21, x111_22, x111_23, x111_26, x111_29, x111_31, x111_32, x111_33_65, x111_36, x111_38, x111_39, x111_40, x111_41, x111_42, x111_43, ↓reduceIte, zkl_i, zkl_r, zkl_n, zkl_z, zkl_l, Option.toList_some, Option.toList_none, List.cons_append, List.nil_append, zcs_0, zcs_i, zcs_l, zcs_r, zle8, true_and, and_true, true_or, or_true, m_isSheet, r1, if_true]
theorem k_lay (h : Inv I) : KI xl 69 110 [.ref 0, .int a, .int b, .int c, .int d, .null] [.ref 65, .int a, .int b, .int c, .int d, .null] I J := by
  by_cases ha : IN a 4
  · obtain ⟨k, hk, rfl⟩ := ha
    have c1 : (if nI k < 0 then (0 : Int32) else if nI k < 4 then 1 else 0) = 1 := bl1 (n := 4) hk (by decide)
    have r1 : bt (nI k) 0 3 = 1 := in1 (m := 3) (by omega) (by decide)
    by_cases hb : IN b 3
    · obtain ⟨f, hf, rfl⟩ := hb
      rcases nlt_4' hk with rfl | rfl | rfl | rfl
      · exact k_lay_0 h hf
      · exact k_lay_1 h hf
      · exact k_lay_2 h hf
      · exact k_lay_3 h hf
    · have c2 : (if b < 0 then (0 : Int32) else if b < 3 then 1 else 0) = 0 := bl0 (n := 3) (by decide) hb
      have r2 : (if b < 0 then (0 : Int32) else if 2 < b then 0 else 1) = 0 := in0 (m := 2) (by decide) hb
      refine mkI (v := (-2)) (I1 := I) (J1 := J) h (fun Q => by simp (disch := first | assumption | omega | (simp (disch := omega) only [zr_n, zr_s]; assumption)) only [x69_0, x69_1, x69_2, x69_5, x69_8, x69_9, x69_10, x69_13, x69_16, x69_18, x69_19, x69_20_0, x69_23, x69_24, x69_25, x69_26, x69_27, x69_30, x69_32, x69_34, x69_37, x69_38, x69_40, x69_43, x69_44, x69_45_0, x69_48, x69_49, x69_50, x69_51, x69_53, x69_56, x69_57, ↓reduceIte, zkl_i, zkl_r, zkl_n, zkl_z, zkl_l, Option.toList_some, Option.toList_none, List.cons_append, List.nil_append, zcs_0, zcs_i, zcs_l, zcs_r, zle8, true_and, and_true, true_or, or_true, c_below, c1, c2, i1_0, if_true, if_false]) (Tr_refl I) (fun M J hM => ⟨M, fun Q => ?_, hM, Fr_refl M⟩)
      simp (disch := first | assumption | omega | (simp (disch := omega) only [zr_n, zr_s]; assumption)) only [x110_0, x110_1, x110_4, x110_7, x110_8, x110_9, x110_10, x110_13, x110_16, x110_19, x110_21, x110_22, x110_23, x110_24, x110_25, x110_26, x110_29, x110_31, x110_33, x110_36, x110_38, x110_39, x110_40_65, x110_43, x110_45, x110_46, x110_47, x110_48, x110_49, x110_50, x110_52, x110_55, x110_56, x110_57, ↓reduceIte, zkl_i, zkl_r, zkl_n, zkl_z, zkl_l, Option.toList_some, Option.toList_none, List.cons_append, List.nil_append, zcs_0, zcs_i, zcs_l, zcs_r, zle8, true_and, and_true, true_or, or_true, m_isSheet, r1, m_in, k64_0, k64_2, i64_lt, r2, i1_0, if_true, if_false]
  · have c1 : (if a < 0 then (0 : Int32) else if a < 4 then 1 else 0) = 0 := bl0 (n := 4) (by decide) ha
    have r1 : bt a 0 3 = 0 := in0 (m := 3) (by decide) ha
    refine mkI (v := (-2)) (I1 := I) (J1 := J) h (fun Q => by simp (disch := first | assumption | omega | (simp (disch := omega) only [zr_n, zr_s]; assumption)) only [x69_0, x69_1, x69_2, x69_5, x69_8, x69_9, x69_10, x69_13, x69_16, x69_18, x69_19, x69_20_0, x69_23, x69_24, x69_25, x69_26, x69_27, x69_30, x69_32, x69_34, x69_37, x69_38, x69_40, x69_43, x69_44, x69_45_0, x69_48, x69_49, x69_50, x69_51, x69_53, x69_56, x69_57, ↓reduceIte, zkl_i, zkl_r, zkl_n, zkl_z, zkl_l, Option.toList_some, Option.toList_none, List.cons_append, List.nil_append, zcs_0, zcs_i, zcs_l, zcs_r, zle8, true_and, and_true, true_or, or_true, c_below, c1, if_true]) (Tr_refl I) (fun M J hM => ⟨M, fun Q => ?_, hM, Fr_refl M⟩)
    simp (disch := first | assumption | omega | (simp (disch := omega) only [zr_n, zr_s]; assumption)) only [x110_0, x110_1, x110_4, x110_7, x110_8, x110_9, x110_10, x110_13, x110_16, x110_19, x110_21, x110_22, x110_23, x110_24, x110_25, x110_26, x110_29, x110_31, x110_33, x110_36, x110_38, x110_39, x110_40_65, x110_43, x110_45, x110_46, x110_47, x110_48, x110_49, x110_50, x110_52, x110_55, x110_56, x110_57, ↓reduceIte, zkl_i, zkl_r, zkl_n, zkl_z, zkl_l, Option.toList_some, Option.toList_none, List.cons_append, List.nil_append, zcs_0, zcs_i, zcs_l, zcs_r, zle8, true_and, and_true, true_or, or_true, m_isSheet, r1, if_true]
theorem k_sheet (h : Inv I) : KI xl 67 106 [.ref 0, .int a, .int b, .int c] [.ref 65, .int a, .int b, .int c, .null] I J := by
  by_cases ha : IN a 4
  · obtain ⟨k, hk, rfl⟩ := ha
    have c1 : (if nI k < 0 then (0 : Int32) else if nI k < 4 then 1 else 0) = 1 := bl1 (n := 4) hk (by decide)
    have r1 : bt (nI k) 0 3 = 1 := in1 (m := 3) (by omega) (by decide)
    by_cases hb : IN b 3
    · obtain ⟨f, hf, rfl⟩ := hb
      have c2 : (if nI f < 0 then (0 : Int32) else if nI f < 3 then 1 else 0) = 1 := bl1 (n := 3) hf (by decide)
      have r2 : (if nI f < 0 then (0 : Int32) else if 2 < nI f then 0 else 1) = 1 := in1 (m := 2) (by omega) (by decide)
      by_cases hc : 60 < c
      · refine mkI (v := -2) (I1 := I) (J1 := J) h (fun Q => by simp (disch := first | assumption | omega | (simp (disch := omega) only [zr_n, zr_s]; assumption)) only [x67_0, x67_1, x67_2, x67_5, x67_8, x67_9, x67_10, x67_13, x67_16, x67_17, x67_19, x67_22, x67_24, x67_25, x67_26, x67_29, x67_30, x67_31, x67_34, x67_35, x67_36_0, x67_39, x67_40, x67_41, x67_42, x67_43, x67_46, x67_47, ↓reduceIte, zkl_i, zkl_r, zkl_n, zkl_z, zkl_l, Option.toList_some, Option.toList_none, List.cons_append, List.nil_append, zcs_0, zcs_i, zcs_l, zcs_r, zle8, true_and, and_true, true_or, or_true, c_below, c1, c2, i1_0, if_true, if_false, hc]) (Tr_refl I) (fun M J hM => ⟨M, fun Q => ?_, hM, Fr_refl M⟩)
        simp (disch := first | assumption | omega | (simp (disch := omega) only [zr_n, zr_s]; assumption)) only [x106_0, x106_1, x106_4, x106_7, x106_8, x106_9, x106_10, x106_13, x106_16, x106_19, x106_20, x106_22, x106_25, x106_27, x106_28, x106_29, x106_32, x106_33, x106_34, x106_37, x106_38, x106_39_65, x106_42, x106_43, x106_44, x106_45, x106_46_65, x106_49, x106_50, x106_51, x106_52, x106_53, x106_57, x106_58, x106_61, x106_62_65, x106_65, x106_67, x106_68, x106_69, x106_71, x106_72, x106_73, x106_74, x106_77, x106_80, x106_81, ↓reduceIte, zkl_i, zkl_r, zkl_n, zkl_z, zkl_l, Option.toList_some, Option.toList_none, List.cons_append, List.nil_append, zcs_0, zcs_i, zcs_l, zcs_r, zle8, true_and, and_true, true_or, or_true, m_isSheet, r1, m_in, k64_0, k64_2, i64_lt, r2, i1_0, if_true, if_false, hc]
      · by_cases hc0 : c < 0
        · refine mkF (v := -15) (k := 5) h (fun Q => ?_) (fun M J hM Q => ?_)
          · simp (disch := first | assumption | omega | (simp (disch := omega) only [zr_n, zr_s]; assumption)) only [x67_0, x67_1, x67_2, x67_5, x67_8, x67_9, x67_10, x67_13, x67_16, x67_17, x67_19, x67_22, x67_24, x67_25, x67_26, x67_29, x67_30, x67_31, x67_34, x67_35, x67_36_0, x67_39, x67_40, x67_41, x67_42, x67_43, x67_46, x67_47, gc_0, ↓reduceIte, zkl_i, zkl_r, zkl_n, zkl_z, zkl_l, Option.toList_some, Option.toList_none, List.cons_append, List.nil_append, zcs_0, zcs_i, zcs_l, zcs_r, zle8, true_and, and_true, true_or, or_true, c_below, c1, c2, i1_0, if_true, if_false, hc, hc0, c_found, v11]
          · simp (disch := first | assumption | omega | (simp (disch := omega) only [zr_n, zr_s]; assumption)) only [x106_0, x106_1, x106_4, x106_7, x106_8, x106_9, x106_10, x106_13, x106_16, x106_19, x106_20, x106_22, x106_25, x106_27, x106_28, x106_29, x106_32, x106_33, x106_34, x106_37, x106_38, x106_39_65, x106_42, x106_43, x106_44, x106_45, x106_46_65, x106_49, x106_50, x106_51, x106_52, x106_53, x106_57, x106_58, x106_61, x106_62_65, x106_65, x106_67, x106_68, x106_69, x106_71, x106_72, x106_73, x106_74, x106_77, x106_80, x106_81, gc_65, ↓reduceIte, zkl_i, zkl_r, zkl_n, zkl_z, zkl_l, Option.toList_some, Option.toList_none, List.cons_append, List.nil_append, zcs_0, zcs_i, zcs_l, zcs_r, zle8, true_and, and_true, true_or, or_true, m_isSheet, r1, m_in, k64_0, k64_2, i64_lt, r2, i1_0, if_true, if_false, hc, hc0, m_finds, v11]
        · obtain ⟨n, hn, rfl⟩ := nI_of2 (x := c) (M := 60) (n := 60) (by decide) hc0 (nlt32.mpr hc)
          rcases nlt_4' hk with rfl | rfl | rfl | rfl
          · exact k_sheet_0 h hf hn
          · exact k_sheet_1 h hf hn
          · exact k_sheet_2 h hf hn
          · exact k_sheet_3 h hf hn
    · have c2 : (if b < 0 then (0 : Int32) else if b < 3 then 1 else 0) = 0 := bl0 (n := 3) (by decide) hb
      have r2 : (if b < 0 then (0 : Int32) else if 2 < b then 0 else 1) = 0 := in0 (m := 2) (by decide) hb
      refine mkI (v := -2) (I1 := I) (J1 := J) h (fun Q => by simp (disch := first | assumption | omega | (simp (disch := omega) only [zr_n, zr_s]; assumption)) only [x67_0, x67_1, x67_2, x67_5, x67_8, x67_9, x67_10, x67_13, x67_16, x67_17, x67_19, x67_22, x67_24, x67_25, x67_26, x67_29, x67_30, x67_31, x67_34, x67_35, x67_36_0, x67_39, x67_40, x67_41, x67_42, x67_43, x67_46, x67_47, ↓reduceIte, zkl_i, zkl_r, zkl_n, zkl_z, zkl_l, Option.toList_some, Option.toList_none, List.cons_append, List.nil_append, zcs_0, zcs_i, zcs_l, zcs_r, zle8, true_and, and_true, true_or, or_true, c_below, c1, c2, i1_0, if_true, if_false]) (Tr_refl I) (fun M J hM => ⟨M, fun Q => ?_, hM, Fr_refl M⟩)
      simp (disch := first | assumption | omega | (simp (disch := omega) only [zr_n, zr_s]; assumption)) only [x106_0, x106_1, x106_4, x106_7, x106_8, x106_9, x106_10, x106_13, x106_16, x106_19, x106_20, x106_22, x106_25, x106_27, x106_28, x106_29, x106_32, x106_33, x106_34, x106_37, x106_38, x106_39_65, x106_42, x106_43, x106_44, x106_45, x106_46_65, x106_49, x106_50, x106_51, x106_52, x106_53, x106_57, x106_58, x106_61, x106_62_65, x106_65, x106_67, x106_68, x106_69, x106_71, x106_72, x106_73, x106_74, x106_77, x106_80, x106_81, ↓reduceIte, zkl_i, zkl_r, zkl_n, zkl_z, zkl_l, Option.toList_some, Option.toList_none, List.cons_append, List.nil_append, zcs_0, zcs_i, zcs_l, zcs_r, zle8, true_and, and_true, true_or, or_true, m_isSheet, r1, m_in, k64_0, k64_2, i64_lt, r2, i1_0, if_true, if_false]
  · have c1 : (if a < 0 then (0 : Int32) else if a < 4 then 1 else 0) = 0 := bl0 (n := 4) (by decide) ha
    have r1 : bt a 0 3 = 0 := in0 (m := 3) (by decide) ha
    refine mkI (v := -2) (I1 := I) (J1 := J) h (fun Q => by simp (disch := first | assumption | omega | (simp (disch := omega) only [zr_n, zr_s]; assumption)) only [x67_0, x67_1, x67_2, x67_5, x67_8, x67_9, x67_10, x67_13, x67_16, x67_17, x67_19, x67_22, x67_24, x67_25, x67_26, x67_29, x67_30, x67_31, x67_34, x67_35, x67_36_0, x67_39, x67_40, x67_41, x67_42, x67_43, x67_46, x67_47, ↓reduceIte, zkl_i, zkl_r, zkl_n, zkl_z, zkl_l, Option.toList_some, Option.toList_none, List.cons_append, List.nil_append, zcs_0, zcs_i, zcs_l, zcs_r, zle8, true_and, and_true, true_or, or_true, c_below, c1, if_true]) (Tr_refl I) (fun M J hM => ⟨M, fun Q => ?_, hM, Fr_refl M⟩)
    simp (disch := first | assumption | omega | (simp (disch := omega) only [zr_n, zr_s]; assumption)) only [x106_0, x106_1, x106_4, x106_7, x106_8, x106_9, x106_10, x106_13, x106_16, x106_19, x106_20, x106_22, x106_25, x106_27, x106_28, x106_29, x106_32, x106_33, x106_34, x106_37, x106_38, x106_39_65, x106_42, x106_43, x106_44, x106_45, x106_46_65, x106_49, x106_50, x106_51, x106_52, x106_53, x106_57, x106_58, x106_61, x106_62_65, x106_65, x106_67, x106_68, x106_69, x106_71, x106_72, x106_73, x106_74, x106_77, x106_80, x106_81, ↓reduceIte, zkl_i, zkl_r, zkl_n, zkl_z, zkl_l, Option.toList_some, Option.toList_none, List.cons_append, List.nil_append, zcs_0, zcs_i, zcs_l, zcs_r, zle8, true_and, and_true, true_or, or_true, m_isSheet, r1, if_true]
end
