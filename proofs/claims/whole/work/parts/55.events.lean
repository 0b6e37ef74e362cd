/-! ===== limit, events, what was seen: calls that change ===== -/
theorem RC_ps {X : zI} (hR : RP X) (hS : SG X) (hH : SHc X) : RC (zps 18 8 X) := by
  obtain ⟨r1, r2⟩ := pass_RC hR
  refine ⟨r1, ?_, fun s hs => ?_, r2⟩
  · unfold SG
    rw [zps_f (by omega), zps_f (by omega)]
    exact hS
  · rw [zps_f (by omega)]
    exact hH s hs
theorem RP_8 {I X : zI} (h : ∀ c, c < 15 → c ≠ 8 → X c = I c) (h0 : X 8 0 = I 8 0) (h3 : X 8 3 = I 8 3) (h6 : X 8 6 = I 8 6) (h9 : ixN (X 8 9) 9) (h13 : X 8 13 = I 8 13) (h2 : X 1000 = I 1000) (g : RP I) : RP X := by
  obtain ⟨g1, g2, g3, g4, g5, g6⟩ := g
  refine ⟨?_, ?_, ?_, h9, h13.trans g5, by unfold HD; rw [h2]; exact g6⟩
  · unfold TXR
    rw [h 2 (by omega) (by omega), h (2 + 1) (by omega) (by omega), h 9 (by omega) (by omega), h (9 + 1) (by omega) (by omega), h0]
    exact g1
  · unfold TXR
    rw [h 4 (by omega) (by omega), h (4 + 1) (by omega) (by omega), h 11 (by omega) (by omega), h (11 + 1) (by omega) (by omega), h3]
    exact g2
  · unfold TXR
    rw [h 6 (by omega) (by omega), h (6 + 1) (by omega) (by omega), h 13 (by omega) (by omega), h (13 + 1) (by omega) (by omega), h6]
    exact g3
theorem RM_ev {I X M M' : zI} (g : RM I M) (hc : ∀ c, c < 8 ∨ (47 < c ∧ c < 61) → X c = I c) (he : EVm X M') (hm : ∀ c, 66 ≤ c → c ≤ 88 → c ≠ 75 → M' c = M c) (h4 : M' 65 4 = M 65 4) (h28 : M' 65 28 = M 65 28) : RM (zps 18 8 X) M' := by
  obtain ⟨g1, g2, g3, g4, g5, g6, g7⟩ := g
  have z : ∀ c, c < 18 ∨ 27 < c → zps 18 8 X c = X c := fun c h => zps_f (by omega)
  refine ⟨?_, ?_, ?_, ?_, ?_, fun s hs => ?_, ?_⟩
  · unfold TXM; rw [z 2 (by omega), z (2 + 1) (by omega), hc 2 (by omega), hc (2 + 1) (by omega), hm 70 (by omega) (by omega) (by omega), hm 71 (by omega) (by omega) (by omega)]; exact g1
  · unfold TXM; rw [z 4 (by omega), z (4 + 1) (by omega), hc 4 (by omega), hc (4 + 1) (by omega), hm 70 (by omega) (by omega) (by omega), hm 71 (by omega) (by omega) (by omega)]; exact g2
  · unfold TXM; rw [z 6 (by omega), z (6 + 1) (by omega), hc 6 (by omega), hc (6 + 1) (by omega), hm 70 (by omega) (by omega) (by omega), hm 71 (by omega) (by omega) (by omega)]; exact g3
  · unfold EVm; rw [z 8 (by omega), z 15 (by omega), z 16 (by omega), z 17 (by omega)]; exact he
  · unfold SM; rw [z 48 (by omega), z 49 (by omega), z 50 (by omega), z 51 (by omega), hc 48 (by omega), hc 49 (by omega), hc 50 (by omega), hc 51 (by omega), hm 87 (by omega) (by omega) (by omega), h28]; exact g5
  · rw [z (53 + 2 * s) (by omega), z (54 + 2 * s) (by omega), hc (53 + 2 * s) (by omega), hc (54 + 2 * s) (by omega), hm 66 (by omega) (by omega) (by omega), hm 67 (by omega) (by omega) (by omega), hm 68 (by omega) (by omega) (by omega)]; exact g6 s hs
  · rw [z 0 (by omega), hc 0 (by omega), h4]; exact g7
theorem may1 {i j k : Nat} (hi : i < 2) (hj : j < 6) (hk : k < 24) : mayE (nI i) (nI j) (nI k) = 1 := by
  unfold mayE
  rw [if_neg (nI_pos (by omega)), if_neg (nI_pos (by omega)), if_neg (nI_pos (by omega)), if_pos (show nI i < 2 from (nI_ltI (b := 2) (by omega) (by decide)).mpr hi), if_pos (show nI j < 6 from (nI_ltI (b := 6) (by omega) (by decide)).mpr hj), if_pos (show nI k < 24 from (nI_ltI (b := 24) (by omega) (by decide)).mpr hk)]
theorem may0 {a b c : Int32} (h : ¬ (IN a 2 ∧ IN b 6 ∧ IN c 24)) : mayE a b c = 0 := by
  unfold mayE
  by_cases h1 : IN a 2
  · by_cases h2 : IN b 6
    · have h3 : ¬ IN c 24 := fun z => h ⟨h1, h2, z⟩
      have := bl0 (n := 24) (by decide) h3
      rw [show nI 24 = 24 from rfl] at this
      rw [this]
      simp only [ite_self]
    · rcases IN_nlt (by decide) h2 with z | z
      · rw [if_pos z]; simp only [ite_self]
      · rw [if_neg (show ¬ b < 6 from z)]; simp only [ite_self]
  · rcases IN_nlt (by decide) h1 with z | z
    · rw [if_pos z]
    · rw [if_neg (show ¬ a < 2 from z)]; simp only [ite_self]
def evM (e : Nat) (a b c : Int32) (M : zI) : zI := zr (zr M 75 (upd (upd (upd (M 75) (3 * e) a) (3 * e + 1) b) (3 * e + 2) c)) 65 (upd (M 65) 14 (nI (e + 1)))
section
variable {xl : Nat} {J : zJ} {M : zI} {Q : zQ} {a b c : Int32}
theorem m_event_bad (h : ¬ (IN a 2 ∧ IN b 6 ∧ IN c 24)) : Rn (zG xl) 135 0 [.ref 65, .int a, .int b, .int c] [] M J Q = Q (some (.int (-2))) M J := by
  by_cases h1 : IN a 2
  · obtain ⟨i, hi, rfl⟩ := h1
    have r1 : (if nI i < 0 then (0 : Int32) else if 1 < nI i then 0 else 1) = 1 := in1 (m := 1) (by omega) (by decide)
    by_cases h2 : IN b 6
    · obtain ⟨j, hj, rfl⟩ := h2
      have r2 : (if nI j < 0 then (0 : Int32) else if 5 < nI j then 0 else 1) = 1 := in1 (m := 5) (by omega) (by decide)
      have r3 : bt c 0 23 = 0 := in0 (m := 23) (by decide) (fun z => h ⟨⟨i, hi, rfl⟩, ⟨j, hj, rfl⟩, z⟩)
      simp (disch := first | assumption | omega | (simp (disch := omega) only [zr_n, zr_s]; assumption)) only [x135_0, x135_1, x135_4, x135_7, x135_8, x135_9, x135_10, x135_13, x135_16, x135_19, x135_20, x135_23, x135_26, x135_28, x135_29, x135_30_65, x135_33, x135_35, x135_38, x135_40, x135_41, x135_42_65, x135_45, x135_46, x135_47_65, x135_50, x135_51, x135_52, x135_53, x135_54_65, x135_57, x135_58, x135_59_65, x135_62, x135_63, x135_64, x135_65, x135_66, x135_67, x135_68_65, x135_71, x135_72, x135_73_65, x135_76, x135_77, x135_78, x135_79, x135_80, x135_81, x135_82i, x135_82r, x135_83_65, x135_86, x135_87, x135_88_65, x135_91, x135_92_65, x135_95, ↓reduceIte, zkl_i, zkl_r, zkl_n, zkl_z, zkl_l, Option.toList_some, Option.toList_none, List.cons_append, List.nil_append, zcs_0, zcs_i, zcs_l, zcs_r, zle8, true_and, and_true, true_or, or_true, m_isTwo, r1, i1_0, if_false, m_in, k64_0, k64_5, i64_lt, r2, m_isMinute, r3, if_true]
    · have r2 : (if b < 0 then (0 : Int32) else if 5 < b then 0 else 1) = 0 := in0 (m := 5) (by decide) h2
      simp (disch := first | assumption | omega | (simp (disch := omega) only [zr_n, zr_s]; assumption)) only [x135_0, x135_1, x135_4, x135_7, x135_8, x135_9, x135_10, x135_13, x135_16, x135_19, x135_20, x135_23, x135_26, x135_28, x135_29, x135_30_65, x135_33, x135_35, x135_38, x135_40, x135_41, x135_42_65, x135_45, x135_46, x135_47_65, x135_50, x135_51, x135_52, x135_53, x135_54_65, x135_57, x135_58, x135_59_65, x135_62, x135_63, x135_64, x135_65, x135_66, x135_67, x135_68_65, x135_71, x135_72, x135_73_65, x135_76, x135_77, x135_78, x135_79, x135_80, x135_81, x135_82i, x135_82r, x135_83_65, x135_86, x135_87, x135_88_65, x135_91, x135_92_65, x135_95, ↓reduceIte, zkl_i, zkl_r, zkl_n, zkl_z, zkl_l, Option.toList_some, Option.toList_none, List.cons_append, List.nil_append, zcs_0, zcs_i, zcs_l, zcs_r, zle8, true_and, and_true, true_or, or_true, m_isTwo, r1, i1_0, if_false, m_in, k64_0, k64_5, i64_lt, r2, if_true]
  · have r1 : (if a < 0 then (0 : Int32) else if 1 < a then 0 else 1) = 0 := in0 (m := 1) (by decide) h1
    simp (disch := first | assumption | omega | (simp (disch := omega) only [zr_n, zr_s]; assumption)) only [x135_0, x135_1, x135_4, x135_7, x135_8, x135_9, x135_10, x135_13, x135_16, x135_19, x135_20, x135_23, x135_26, x135_28, x135_29, x135_30_65, x135_33, x135_35, x135_38, x135_40, x135_41, x135_42_65, x135_45, x135_46, x135_47_65, x135_50, x135_51, x135_52, x135_53, x135_54_65, x135_57, x135_58, x135_59_65, x135_62, x135_63, x135_64, x135_65, x135_66, x135_67, x135_68_65, x135_71, x135_72, x135_73_65, x135_76, x135_77, x135_78, x135_79, x135_80, x135_81, x135_82i, x135_82r, x135_83_65, x135_86, x135_87, x135_88_65, x135_91, x135_92_65, x135_95, ↓reduceIte, zkl_i, zkl_r, zkl_n, zkl_z, zkl_l, Option.toList_some, Option.toList_none, List.cons_append, List.nil_append, zcs_0, zcs_i, zcs_l, zcs_r, zle8, true_and, and_true, true_or, or_true, m_isTwo, r1, if_true]
theorem m_event_ok {i j k e : Nat} (hi : i < 2) (hj : j < 6) (hk : k < 24) (he : M 65 14 = nI e) (h8 : e ≤ 8) : Rn (zG xl) 135 0 [.ref 65, .int (nI i), .int (nI j), .int (nI k)] [] M J Q = if e = 8 then Q (some (.int (-4))) M J else Q (some (.int (nI (e + 1)))) (evM e (nI i) (nI j) (nI k) M) J := by
  have r1 : (if nI i < 0 then (0 : Int32) else if 1 < nI i then 0 else 1) = 1 := in1 (m := 1) (by omega) (by decide)
  have r2 : (if nI j < 0 then (0 : Int32) else if 5 < nI j then 0 else 1) = 1 := in1 (m := 5) (by omega) (by decide)
  have r3 : bt (nI k) 0 23 = 1 := in1 (m := 23) (by omega) (by decide)
  by_cases hz : e = 8
  · simp (disch := first | assumption | omega | (simp (disch := omega) only [zr_n, zr_s]; assumption)) only [x135_0, x135_1, x135_4, x135_7, x135_8, x135_9, x135_10, x135_13, x135_16, x135_19, x135_20, x135_23, x135_26, x135_28, x135_29, x135_30_65, x135_33, x135_35, x135_38, x135_40, x135_41, x135_42_65, x135_45, x135_46, x135_47_65, x135_50, x135_51, x135_52, x135_53, x135_54_65, x135_57, x135_58, x135_59_65, x135_62, x135_63, x135_64, x135_65, x135_66, x135_67, x135_68_65, x135_71, x135_72, x135_73_65, x135_76, x135_77, x135_78, x135_79, x135_80, x135_81, x135_82i, x135_82r, x135_83_65, x135_86, x135_87, x135_88_65, x135_91, x135_92_65, x135_95, ↓reduceIte, zkl_i, zkl_r, zkl_n, zkl_z, zkl_l, Option.toList_some, Option.toList_none, List.cons_append, List.nil_append, zcs_0, zcs_i, zcs_l, zcs_r, zle8, true_and, and_true, true_or, or_true, m_isTwo, r1, i1_0, if_false, m_in, k64_0, k64_5, i64_lt, r2, m_isMinute, r3, he, ne_8, hz, if_true]
  · simp (disch := first | assumption | omega | (simp (disch := omega) only [zr_n, zr_s]; assumption)) only [x135_0, x135_1, x135_4, x135_7, x135_8, x135_9, x135_10, x135_13, x135_16, x135_19, x135_20, x135_23, x135_26, x135_28, x135_29, x135_30_65, x135_33, x135_35, x135_38, x135_40, x135_41, x135_42_65, x135_45, x135_46, x135_47_65, x135_50, x135_51, x135_52, x135_53, x135_54_65, x135_57, x135_58, x135_59_65, x135_62, x135_63, x135_64, x135_65, x135_66, x135_67, x135_68_65, x135_71, x135_72, x135_73_65, x135_76, x135_77, x135_78, x135_79, x135_80, x135_81, x135_82i, x135_82r, x135_83_65, x135_86, x135_87, x135_88_65, x135_91, x135_92_65, x135_95, bi_75, bs_75, ↓reduceIte, zkl_i, zkl_r, zkl_n, zkl_z, zkl_l, Option.toList_some, Option.toList_none, List.cons_append, List.nil_append, zcs_0, zcs_i, zcs_l, zcs_r, zle8, true_and, and_true, true_or, or_true, m_isTwo, r1, i1_0, if_false, m_in, k64_0, k64_5, i64_lt, r2, m_isMinute, r3, he, ne_8, hz, nm_3, na_1, na_2, ixN_nI, nI_clamp, zr_n, zr_s, zr_zr, upd_s, upd_upd]
    rfl
end
theorem evM_ev {I M : zI} {e : Nat} {a b c : Int32} (he : I 8 9 = nI e) (h8 : e < 8) (g : EVm I M) : EVm (zae I a b c) (evM e a b c M) := by
  obtain ⟨g1, g2, g3, g4⟩ := g
  have t1 : tn (I 8 9) = e := by rw [he]; exact nI_clamp (by omega)
  rw [t1] at g4
  have t2 : tn (nI (e + 1)) = e + 1 := nI_clamp (by omega)
  unfold EVm zae evM
  simp (disch := omega) only [zr_n, zr_s, upd_n, upd_s, t1]
  rw [he, na_1, t2]
  refine ⟨g1, rfl, g3, fun k hk => ?_⟩
  by_cases hz : k = e
  · subst hz
    exact ⟨upd_s.trans upd_s.symm, upd_s.trans upd_s.symm, upd_s.trans upd_s.symm⟩
  · simp (disch := omega) only [upd_n]
    exact g4 k (by omega)
theorem RP_zae {I : zI} {e : Nat} {a b c : Int32} (he : I 8 9 = nI e) (h8 : e < 8) (g : RP I) : RP (zae I a b c) := by
  refine RP_8 (fun c c1 c2 => ?_) ?_ ?_ ?_ ?_ ?_ ?_ g
  · unfold zae; simp (disch := omega) only [zr_n]
  · unfold zae; rw [zr_s, upd_n (by decide)]
  · unfold zae; rw [zr_s, upd_n (by decide)]
  · unfold zae; rw [zr_s, upd_n (by decide)]
  · unfold zae; rw [zr_s, upd_s, he, na_1, ixN_nI (by omega) (by decide)]; trivial
  · unfold zae; rw [zr_s, upd_n (by decide)]
  · unfold zae; simp (disch := omega) only [zr_n]
theorem zae_f {I : zI} {a b c : Int32} {d : Nat} (h : d < 8 ∨ (8 < d ∧ d < 15) ∨ 17 < d) : zae I a b c d = I d := by
  unfold zae
  simp (disch := omega) only [zr_n]
theorem SHc_f {I X : zI} (h : ∀ c, 47 < c → c < 61 → X c = I c) (g : SHc I) : SHc X := fun s hs => by
  rw [h (53 + 2 * s) (by omega) (by omega)]
  exact g s hs
theorem SG_f {I X : zI} (h : ∀ c, 47 < c → c < 61 → X c = I c) (g : SG I) : SG X := by
  unfold SG
  rw [h 48 (by omega) (by omega), h 50 (by omega) (by omega)]
  exact g
section
variable {xl : Nat} {J : zJ} {I : zI} {a b c : Int32}
theorem k_limit (h : Inv I) : KI xl 44 134 [.ref 0, .int a, .null] [.ref 65, .int a, .null] I J := by
  by_cases ha : a < 1 ∨ 24 < a
  · have hi : (if a < 1 then (0 : Int32) else if 24 < a then 0 else 1) = 0 := by
      by_cases z : a < 1
      · rw [if_pos z]
      · rcases ha with z2 | z2
        · exact absurd z2 z
        · rw [if_neg z, if_pos z2]
    refine mkI (v := -2) (I1 := I) (J1 := J) h (fun Q => ?_) (Tr_refl I) (fun M J hM => ⟨M, fun Q => ?_, hM, Fr_refl M⟩)
    · by_cases z : a < 1
      · simp (disch := first | assumption | omega | (simp (disch := omega) only [zr_n, zr_s]; assumption)) only [x44_0, x44_1, x44_2, x44_5, x44_6, x44_8, x44_11, x44_13, x44_14, x44_15_0, x44_18_8, x44_18_28, x44_21, x44_22, x44_23_0, x44_26, x44_27_8, x44_27_28, x44_30, x44_31_0, x44_34, x44_35_0, x44_38, x44_41, x44_42, ↓reduceIte, zkl_i, zkl_r, zkl_n, zkl_z, zkl_l, Option.toList_some, Option.toList_none, List.cons_append, List.nil_append, zcs_0, zcs_i, zcs_l, zcs_r, zle8, true_and, and_true, true_or, or_true, z, if_true]
      · rcases ha with z2 | z2
        · exact absurd z2 z
        · simp (disch := first | assumption | omega | (simp (disch := omega) only [zr_n, zr_s]; assumption)) only [x44_0, x44_1, x44_2, x44_5, x44_6, x44_8, x44_11, x44_13, x44_14, x44_15_0, x44_18_8, x44_18_28, x44_21, x44_22, x44_23_0, x44_26, x44_27_8, x44_27_28, x44_30, x44_31_0, x44_34, x44_35_0, x44_38, x44_41, x44_42, ↓reduceIte, zkl_i, zkl_r, zkl_n, zkl_z, zkl_l, Option.toList_some, Option.toList_none, List.cons_append, List.nil_append, zcs_0, zcs_i, zcs_l, zcs_r, zle8, true_and, and_true, true_or, or_true, z, z2, if_true, if_false]
    · simp (disch := first | assumption | omega | (simp (disch := omega) only [zr_n, zr_s]; assumption)) only [x134_0, x134_1, x134_2, x134_3, x134_6, x134_9, x134_12, x134_14, x134_15, x134_16_65, x134_19, x134_20, x134_21, x134_22_65, x134_25, x134_26, ↓reduceIte, zkl_i, zkl_r, zkl_n, zkl_z, zkl_l, Option.toList_some, Option.toList_none, List.cons_append, List.nil_append, zcs_0, zcs_i, zcs_l, zcs_r, zle8, true_and, and_true, true_or, or_true, m_in, k64_1, k64_24, i64_lt, hi, if_true]
  · have z1 : ¬ a < 1 := fun z => ha (Or.inl z)
    have z2 : ¬ 24 < a := fun z => ha (Or.inr z)
    have hi : (if a < 1 then (0 : Int32) else if 24 < a then 0 else 1) = 1 := by rw [if_neg z1, if_neg z2]
    have hR : RP (zr I 8 (upd (I 8) 14 a)) := RP_8 (fun c c1 c2 => zr_n c2) (by rw [zr_s, upd_n (by decide)]) (by rw [zr_s, upd_n (by decide)]) (by rw [zr_s, upd_n (by decide)]) (by rw [zr_s, upd_n (by decide)]; exact h.1.1.2.2.2.1) (by rw [zr_s, upd_n (by decide)]) (zr_n (by decide)) h.1.1
    have hp := fun Q => d_pass_18 (xl := xl) (J := J) (Q := Q) (RP_CD hR)
    refine mkU (v := I 8 14) (I1 := zps 18 8 (zr I 8 (upd (I 8) 14 a))) h (fun Q => ?_) (RC_ps hR (SG_f (fun c c1 c2 => zr_n (by omega)) h.1.2.1) (SHc_f (fun c c1 c2 => zr_n (by omega)) h.1.2.2.1)) (fun c hc => by rw [zps_f (by omega), zr_n (by omega)]) (fun M J hM => ?_)
    · simp (disch := first | assumption | omega | (simp (disch := omega) only [zr_n, zr_s]; assumption)) only [x44_0, x44_1, x44_2, x44_5, x44_6, x44_8, x44_11, x44_13, x44_14, x44_15_0, x44_18_8, x44_18_28, x44_21, x44_22, x44_23_0, x44_26, x44_27_8, x44_27_28, x44_30, x44_31_0, x44_34, x44_35_0, x44_38, x44_41, x44_42, gc_18, ↓reduceIte, zkl_i, zkl_r, zkl_n, zkl_z, zkl_l, Option.toList_some, Option.toList_none, List.cons_append, List.nil_append, zcs_0, zcs_i, zcs_l, zcs_r, zle8, true_and, and_true, true_or, or_true, z1, z2, if_false, hp]
    · refine ⟨zr M 65 (upd (M 65) 13 a), fun Q => ?_, RM_ev hM (fun c hc => zr_n (by omega)) ?_ (fun c c1 c2 c3 => zr_n (by omega)) (by rw [zr_s, upd_n (by decide)]) (by rw [zr_s, upd_n (by decide)]), fun c hc => zr_n (by omega)⟩
      · simp (disch := first | assumption | omega | (simp (disch := omega) only [zr_n, zr_s]; assumption)) only [x134_0, x134_1, x134_2, x134_3, x134_6, x134_9, x134_12, x134_14, x134_15, x134_16_65, x134_19, x134_20, x134_21, x134_22_65, x134_25, x134_26, ↓reduceIte, zkl_i, zkl_r, zkl_n, zkl_z, zkl_l, Option.toList_some, Option.toList_none, List.cons_append, List.nil_append, zcs_0, zcs_i, zcs_l, zcs_r, zle8, true_and, and_true, true_or, or_true, m_in, k64_1, k64_24, i64_lt, hi, i1_0, if_false, hM.2.2.2.1.1]
      · obtain ⟨g1, g2, g3, g4⟩ := hM.2.2.2.1
        unfold EVm
        simp (disch := omega) only [zr_n, zr_s, upd_n, upd_s]
        exact ⟨trivial, g2, g3, g4⟩
theorem k_event (h : Inv I) : KI xl 45 135 [.ref 0, .int a, .int b, .int c] [.ref 65, .int a, .int b, .int c] I J := by
  by_cases hv : IN a 2 ∧ IN b 6 ∧ IN c 24
  · obtain ⟨⟨i, hi, rfl⟩, ⟨j, hj, rfl⟩, ⟨k, hk, rfl⟩⟩ := hv
    have hm := may1 hi hj hk
    obtain ⟨e0, e3, e6, e9⟩ := RC_8 h.1
    have b9 := (RC_l h.1).2.2.2
    generalize he : tn (pD I 28 9) = e at e9 b9
    by_cases hz : e = 8
    · refine mkI (v := -4) (I1 := I) (J1 := J) h (fun Q => ?_) (Tr_refl I) (fun M J hM => ⟨M, fun Q => ?_, hM, Fr_refl M⟩)
      · have n8 : ¬ nI e < 8 := by rw [hz]; decide
        simp (disch := first | assumption | omega | (simp (disch := omega) only [zr_n, zr_s]; assumption)) only [x45_0, x45_1, x45_2, x45_3, x45_6, x45_9, x45_11, x45_12, x45_13_0, x45_16_8, x45_16_28, x45_19, x45_21, x45_24, x45_26, x45_27, x45_28_0, x45_31, x45_32, x45_33, x45_34, x45_37, x45_38_0, x45_41, x45_42_0, x45_45, x45_48, x45_49_0, x45_52_8, x45_52_28, x45_55, ↓reduceIte, zkl_i, zkl_r, zkl_n, zkl_z, zkl_l, Option.toList_some, Option.toList_none, List.cons_append, List.nil_append, zcs_0, zcs_i, zcs_l, zcs_r, zle8, true_and, and_true, true_or, or_true, c_mayBeEvent, hm, i1_0, if_false, e9, n8]
      · rw [m_event_ok hi hj hk (hM.2.2.2.1.2.1.trans e9) b9, if_pos hz]
    · have n8 : nI e < 8 := (nI_ltI (b := 8) (by omega) (by decide)).mpr (by omega)
      have hx : ixN (I 8 9) 8 := by rw [e9, ixN_nI (by omega) (by decide)]; trivial
      have hR := RP_zae (a := nI i) (b := nI j) (c := nI k) e9 (show e < 8 by omega) h.1.1
      have hp := fun Q => d_pass_18 (xl := xl) (J := J) (Q := Q) (RP_CD hR)
      have e9' : zps 18 8 (zae I (nI i) (nI j) (nI k)) 8 9 = nI (e + 1) := by
        rw [zps_f (by omega)]
        unfold zae
        rw [zr_s, upd_s, e9, na_1]
      refine mkU (v := nI (e + 1)) (I1 := zps 18 8 (zae I (nI i) (nI j) (nI k))) h (fun Q => ?_) (RC_ps hR (SG_f (fun c c1 c2 => zae_f (by omega)) h.1.2.1) (SHc_f (fun c c1 c2 => zae_f (by omega)) h.1.2.2.1)) (fun c hc => by rw [zps_f (by omega), zae_f (by omega)]) (fun M J hM => ?_)
      · simp (disch := first | assumption | omega | (simp (disch := omega) only [zr_n, zr_s]; assumption)) only [x45_0, x45_1, x45_2, x45_3, x45_6, x45_9, x45_11, x45_12, x45_13_0, x45_16_8, x45_16_28, x45_19, x45_21, x45_24, x45_26, x45_27, x45_28_0, x45_31, x45_32, x45_33, x45_34, x45_37, x45_38_0, x45_41, x45_42_0, x45_45, x45_48, x45_49_0, x45_52_8, x45_52_28, x45_55, gc_8, gc_18, ↓reduceIte, zkl_i, zkl_r, zkl_n, zkl_z, zkl_l, Option.toList_some, Option.toList_none, List.cons_append, List.nil_append, zcs_0, zcs_i, zcs_l, zcs_r, zle8, true_and, and_true, true_or, or_true, c_mayBeEvent, hm, i1_0, if_false, n8, c_addEvent, hp, e9', e9, if_true]
      · refine ⟨evM e (nI i) (nI j) (nI k) M, fun Q => ?_, RM_ev hM (fun c hc => zae_f (by omega)) (evM_ev e9 (by omega) hM.2.2.2.1) (fun c c1 c2 c3 => by unfold evM; simp (disch := omega) only [zr_n]) (by unfold evM; rw [zr_s, upd_n (by decide)]) (by unfold evM; rw [zr_s, upd_n (by decide)]), fun c hc => by unfold evM; simp (disch := omega) only [zr_n]⟩
        rw [m_event_ok hi hj hk (hM.2.2.2.1.2.1.trans e9) b9, if_neg hz]
  · have hm := may0 hv
    refine mkI (v := -2) (I1 := I) (J1 := J) h (fun Q => ?_) (Tr_refl I) (fun M J hM => ⟨M, fun Q => m_event_bad hv, hM, Fr_refl M⟩)
    simp (disch := first | assumption | omega | (simp (disch := omega) only [zr_n, zr_s]; assumption)) only [x45_0, x45_1, x45_2, x45_3, x45_6, x45_9, x45_11, x45_12, x45_13_0, x45_16_8, x45_16_28, x45_19, x45_21, x45_24, x45_26, x45_27, x45_28_0, x45_31, x45_32, x45_33, x45_34, x45_37, x45_38_0, x45_41, x45_42_0, x45_45, x45_48, x45_49_0, x45_52_8, x45_52_28, x45_55, ↓reduceIte, zkl_i, zkl_r, zkl_n, zkl_z, zkl_l, Option.toList_some, Option.toList_none, List.cons_append, List.nil_append, zcs_0, zcs_i, zcs_l, zcs_r, zle8, true_and, and_true, true_or, or_true, c_mayBeEvent, hm, if_true]
theorem k_back (h : Inv I) : KI xl 46 136 [.ref 0] [.ref 65] I J := by
  obtain ⟨e0, e3, e6, e9⟩ := RC_8 h.1
  have b9 := (RC_l h.1).2.2.2
  generalize he : tn (pD I 28 9) = e at e9 b9
  by_cases hz : e = 0
  · have e9z : I 8 9 = 0 := by rw [e9, hz]; rfl
    refine mkI (v := -3) (I1 := I) (J1 := J) h (fun Q => ?_) (Tr_refl I) (fun M J hM => ⟨M, fun Q => ?_, hM, Fr_refl M⟩)
    · simp (disch := first | assumption | omega | (simp (disch := omega) only [zr_n, zr_s]; assumption)) only [x46_0, x46_1_0, x46_4_8, x46_4_28, x46_7, x46_10, x46_12, x46_13, x46_14_0, x46_17i, x46_17r, x46_18_8, x46_18_28, x46_21, x46_22, x46_23_8, x46_23_28, x46_26, x46_27_0, x46_30, x46_31_0, x46_34, x46_37, x46_38_0, x46_41_8, x46_41_28, x46_44, ↓reduceIte, zkl_i, zkl_r, zkl_n, zkl_z, zkl_l, Option.toList_some, Option.toList_none, List.cons_append, List.nil_append, zcs_0, zcs_i, zcs_l, zcs_r, zle8, true_and, and_true, true_or, or_true, e9z, if_true]
    · simp (disch := first | assumption | omega | (simp (disch := omega) only [zr_n, zr_s]; assumption)) only [x136_0, x136_1_65, x136_4, x136_7, x136_9, x136_10, x136_11i, x136_11r, x136_12_65, x136_15, x136_16, x136_17_65, x136_20, x136_21_65, x136_24, ↓reduceIte, zkl_i, zkl_r, zkl_n, zkl_z, zkl_l, Option.toList_some, Option.toList_none, List.cons_append, List.nil_append, zcs_0, zcs_i, zcs_l, zcs_r, zle8, true_and, and_true, true_or, or_true, hM.2.2.2.1.2.1, e9z, if_true]
  · obtain ⟨d, rfl⟩ : ∃ d, e = d + 1 := ⟨e - 1, by omega⟩
    have nz : ¬ nI (d + 1) = 0 := nI_ne0 (by omega) (by omega)
    have hR : RP (zr I 8 (upd (I 8) 9 (nI d))) := RP_8 (fun c c1 c2 => zr_n c2) (by rw [zr_s, upd_n (by decide)]) (by rw [zr_s, upd_n (by decide)]) (by rw [zr_s, upd_n (by decide)]) (by rw [zr_s, upd_s, ixN_nI (by omega) (by decide)]; trivial) (by rw [zr_s, upd_n (by decide)]) (zr_n (by decide)) h.1.1
    have hp := fun Q => d_pass_18 (xl := xl) (J := J) (Q := Q) (RP_CD hR)
    have e9' : zps 18 8 (zr I 8 (upd (I 8) 9 (nI d))) 8 9 = nI d := by rw [zps_f (by omega), zr_s, upd_s]
    refine mkU (v := nI d) (I1 := zps 18 8 (zr I 8 (upd (I 8) 9 (nI d)))) h (fun Q => ?_) (RC_ps hR (SG_f (fun c c1 c2 => zr_n (by omega)) h.1.2.1) (SHc_f (fun c c1 c2 => zr_n (by omega)) h.1.2.2.1)) (fun c hc => by rw [zps_f (by omega), zr_n (by omega)]) (fun M J hM => ?_)
    · simp (disch := first | assumption | omega | (simp (disch := omega) only [zr_n, zr_s]; assumption)) only [x46_0, x46_1_0, x46_4_8, x46_4_28, x46_7, x46_10, x46_12, x46_13, x46_14_0, x46_17i, x46_17r, x46_18_8, x46_18_28, x46_21, x46_22, x46_23_8, x46_23_28, x46_26, x46_27_0, x46_30, x46_31_0, x46_34, x46_37, x46_38_0, x46_41_8, x46_41_28, x46_44, gc_8, gc_18, ↓reduceIte, zkl_i, zkl_r, zkl_n, zkl_z, zkl_l, Option.toList_some, Option.toList_none, List.cons_append, List.nil_append, zcs_0, zcs_i, zcs_l, zcs_r, zle8, true_and, and_true, true_or, or_true, e9, nz, if_false, nI_pred, hp, e9']
    · have m14 : M 65 14 = nI (d + 1) := hM.2.2.2.1.2.1.trans e9
      refine ⟨zr M 65 (upd (M 65) 14 (nI d)), fun Q => ?_, RM_ev hM (fun c hc => zr_n (by omega)) ?_ (fun c c1 c2 c3 => zr_n (by omega)) (by rw [zr_s, upd_n (by decide)]) (by rw [zr_s, upd_n (by decide)]), fun c hc => zr_n (by omega)⟩
      · simp (disch := first | assumption | omega | (simp (disch := omega) only [zr_n, zr_s]; assumption)) only [x136_0, x136_1_65, x136_4, x136_7, x136_9, x136_10, x136_11i, x136_11r, x136_12_65, x136_15, x136_16, x136_17_65, x136_20, x136_21_65, x136_24, ↓reduceIte, zkl_i, zkl_r, zkl_n, zkl_z, zkl_l, Option.toList_some, Option.toList_none, List.cons_append, List.nil_append, zcs_0, zcs_i, zcs_l, zcs_r, zle8, true_and, and_true, true_or, or_true, m14, nz, if_false, nI_pred, zr_s, upd_s]
      · obtain ⟨g1, g2, g3, g4⟩ := hM.2.2.2.1
        have td : tn (nI d) = d := nI_clamp (by omega)
        have td1 : tn (I 8 9) = d + 1 := by rw [e9]; exact nI_clamp (by omega)
        unfold EVm
        simp (disch := omega) only [zr_n, zr_s, upd_n, upd_s, td]
        exact ⟨g1, trivial, g3, fun e he => g4 e (by omega)⟩
/-! what was seen -/
theorem RC_48 {X : zI} (h : RC I) (hk : ∀ c, c < 48 ∨ 51 < c → X c = I c) (hS : SG X) : RC X := by
  obtain ⟨g1, g2, g3, g4⟩ := h
  refine ⟨RP_f (fun c hc => hk c (by omega)) (hk 1000 (by omega)) g1, hS, fun s hs => ?_, ?_⟩
  · rw [hk (53 + 2 * s) (by omega)]; exact g3 s hs
  · rw [pD_f (fun c c1 c2 => hk c (by omega)) (hk 1000 (by omega))]
    exact CN_8 (fun c c1 c2 => hk c (by omega)) (hk 1000 (by omega)) g4
theorem RM_48 {X M M' : zI} (g : RM I M) (hk : ∀ c, c < 48 ∨ 51 < c → X c = I c) (hS : SM X M') (hm : ∀ c, 66 ≤ c → c ≤ 88 → c ≠ 87 → M' c = M c) (h65 : ∀ j, j ≠ 28 → M' 65 j = M 65 j) : RM X M' := by
  obtain ⟨g1, g2, g3, g4, g5, g6, g7⟩ := g
  refine ⟨?_, ?_, ?_, ?_, hS, fun s hs => ?_, ?_⟩
  · unfold TXM; rw [hk 2 (by omega), hk (2 + 1) (by omega), hm 70 (by omega) (by omega) (by omega), hm 71 (by omega) (by omega) (by omega)]; exact g1
  · unfold TXM; rw [hk 4 (by omega), hk (4 + 1) (by omega), hm 70 (by omega) (by omega) (by omega), hm 71 (by omega) (by omega) (by omega)]; exact g2
  · unfold TXM; rw [hk 6 (by omega), hk (6 + 1) (by omega), hm 70 (by omega) (by omega) (by omega), hm 71 (by omega) (by omega) (by omega)]; exact g3
  · unfold EVm; rw [hk 8 (by omega), hk 15 (by omega), hk 16 (by omega), hk 17 (by omega), hm 75 (by omega) (by omega) (by omega), h65 13 (by decide), h65 14 (by decide), h65 16 (by decide)]; exact g4
  · rw [hk (53 + 2 * s) (by omega), hk (54 + 2 * s) (by omega), hm 66 (by omega) (by omega) (by omega), hm 67 (by omega) (by omega) (by omega), hm 68 (by omega) (by omega) (by omega)]; exact g6 s hs
  · rw [hk 0 (by omega), h65 4 (by decide)]; exact g7
theorem k_forget (h : Inv I) : KI xl 60 167 [.ref 0, .null] [.ref 65, .null] I J := by
  have tl : tn (0 : Int32) = 0 := t0
  refine mkU (v := I 48 0) (I1 := zr I 48 (upd (I 48) 0 0)) h (fun Q => ?_) (RC_48 h.1 (fun c hc => zr_n (by omega)) ?_) (fun c hc => zr_n (by omega)) (fun M J hM => ⟨zr M 65 (upd (M 65) 28 0), fun Q => ?_, RM_48 hM (fun c hc => zr_n (by omega)) ?_ (fun c c1 c2 c3 => zr_n (by omega)) (fun j hj => by rw [zr_s, upd_n hj]), fun c hc => zr_n (by omega)⟩)
  · simp (disch := first | assumption | omega | (simp (disch := omega) only [zr_n, zr_s]; assumption)) only [x60_0, x60_1_0, x60_4_48, x60_7, x60_8, x60_9_0, x60_12, x60_13_48, x60_16, x60_17, ↓reduceIte, zkl_i, zkl_r, zkl_n, zkl_z, zkl_l, Option.toList_some, Option.toList_none, List.cons_append, List.nil_append, zcs_0, zcs_i, zcs_l, zcs_r, zle8, true_and, and_true, true_or, or_true]
  · unfold SG
    rw [zr_s, upd_s, tl]
    exact ⟨rfl, by omega, fun k hk => by omega⟩
  · simp (disch := first | assumption | omega | (simp (disch := omega) only [zr_n, zr_s]; assumption)) only [x167_0, x167_1_65, x167_4, x167_5, x167_6, x167_7_65, x167_10, x167_11, ↓reduceIte, zkl_i, zkl_r, zkl_n, zkl_z, zkl_l, Option.toList_some, Option.toList_none, List.cons_append, List.nil_append, zcs_0, zcs_i, zcs_l, zcs_r, zle8, true_and, and_true, true_or, or_true, hM.2.2.2.2.1.1]
  · unfold SM
    rw [zr_s, upd_s, zr_s, upd_s, tl]
    exact ⟨rfl, fun k hk => by omega⟩
theorem k_seen (h : Inv I) : KI xl 59 166 [.ref 0, .int a, .int b, .int c] [.ref 65, .int a, .int b, .int c] I J := by
  obtain ⟨s1, s2, s3⟩ := h.1.2.1
  generalize hn : tn (I 48 0) = n at s1 s2 s3
  by_cases ha : IN a 24
  · obtain ⟨i, hi, rfl⟩ := ha
    have c1 : (if nI i < 0 then (0 : Int32) else if nI i < 24 then 1 else 0) = 1 := bl1 (n := 24) hi (by decide)
    have r1 : bt (nI i) 0 23 = 1 := in1 (m := 23) (by omega) (by decide)
    by_cases hb : IN b 10
    · obtain ⟨j, hj, rfl⟩ := hb
      have c2 : (if nI j < 0 then (0 : Int32) else if nI j < 10 then 1 else 0) = 1 := bl1 (n := 10) hj (by decide)
      have r2 : (if nI j < 0 then (0 : Int32) else if 9 < nI j then 0 else 1) = 1 := in1 (m := 9) (by omega) (by decide)
      by_cases hc : IN c 2
      · obtain ⟨k, hk, rfl⟩ := hc
        have c3 : (if nI k < 0 then (0 : Int32) else if nI k < 2 then 1 else 0) = 1 := bl1 (n := 2) hk (by decide)
        have r3 : (if nI k < 0 then (0 : Int32) else if 1 < nI k then 0 else 1) = 1 := in1 (m := 1) (by omega) (by decide)
        by_cases hz : n = 8
        · have n8 : ¬ nI n < 8 := by rw [hz]; decide
          refine mkI (v := -4) (I1 := I) (J1 := J) h (fun Q => ?_) (Tr_refl I) (fun M J hM => ⟨M, fun Q => ?_, hM, Fr_refl M⟩)
          · simp (disch := first | assumption | omega | (simp (disch := omega) only [zr_n, zr_s]; assumption)) only [x59_0, x59_1, x59_3, x59_6, x59_9, x59_10, x59_12, x59_15, x59_18, x59_19, x59_20, x59_23, x59_26, x59_28, x59_29, x59_30_0, x59_33_48, x59_36, x59_38, x59_41, x59_43, x59_44, x59_45_0, x59_48, x59_49, x59_50, x59_51, x59_54, x59_55_0, x59_58_48, x59_61, ↓reduceIte, zkl_i, zkl_r, zkl_n, zkl_z, zkl_l, Option.toList_some, Option.toList_none, List.cons_append, List.nil_append, zcs_0, zcs_i, zcs_l, zcs_r, zle8, true_and, and_true, true_or, or_true, c_below, c1, c2, c3, i1_0, if_false, s1, n8]
          · simp (disch := first | assumption | omega | (simp (disch := omega) only [zr_n, zr_s]; assumption)) only [x166_0, x166_1, x166_4, x166_7, x166_8, x166_9, x166_10, x166_13, x166_16, x166_19, x166_20, x166_23, x166_26, x166_28, x166_29, x166_30_65, x166_33, x166_35, x166_38, x166_40, x166_41, x166_42_65, x166_45, x166_46, x166_47_65, x166_50, x166_51, x166_52, x166_53, x166_54_65, x166_57, x166_58, x166_59_65, x166_62, x166_63, x166_64, x166_65, x166_66, x166_67, x166_68_65, x166_71, x166_72, x166_73_65, x166_76, x166_77, x166_78, x166_79, x166_80, x166_81, x166_82i, x166_82r, x166_83_65, x166_86, x166_87, x166_88_65, x166_91, x166_92_65, x166_95, ↓reduceIte, zkl_i, zkl_r, zkl_n, zkl_z, zkl_l, Option.toList_some, Option.toList_none, List.cons_append, List.nil_append, zcs_0, zcs_i, zcs_l, zcs_r, zle8, true_and, and_true, true_or, or_true, m_isMinute, r1, m_in, k64_0, k64_9, i64_lt, r2, m_isTwo, r3, i1_0, if_false, hM.2.2.2.2.1.1, s1, ne_8, hz, if_true]
        · have n8 : nI n < 8 := (nI_ltI (b := 8) (by omega) (by decide)).mpr (by omega)
          have hx : ixN (I 48 0) 8 := by rw [s1, ixN_nI (by omega) (by decide)]; trivial
          have e1 : tn (nI (n + 1)) = n + 1 := nI_clamp (by omega)
          have hk1 : ∀ c, c < 48 ∨ 51 < c → zsn I (nI i) (nI j) (nI k) c = I c := fun c hc => by
            unfold zsn
            simp (disch := omega) only [zr_n]
          have e48 : zsn I (nI i) (nI j) (nI k) 48 0 = nI (n + 1) := by
            unfold zsn
            rw [zr_s, upd_s, s1, na_1]
          refine mkU (v := nI (n + 1)) (I1 := zsn I (nI i) (nI j) (nI k)) h (fun Q => ?_) (RC_48 h.1 hk1 ?_) (fun c hc => hk1 c (by omega)) (fun M J hM => ?_)
          · simp (disch := first | assumption | omega | (simp (disch := omega) only [zr_n, zr_s]; assumption)) only [x59_0, x59_1, x59_3, x59_6, x59_9, x59_10, x59_12, x59_15, x59_18, x59_19, x59_20, x59_23, x59_26, x59_28, x59_29, x59_30_0, x59_33_48, x59_36, x59_38, x59_41, x59_43, x59_44, x59_45_0, x59_48, x59_49, x59_50, x59_51, x59_54, x59_55_0, x59_58_48, x59_61, gc_48, ↓reduceIte, zkl_i, zkl_r, zkl_n, zkl_z, zkl_l, Option.toList_some, Option.toList_none, List.cons_append, List.nil_append, zcs_0, zcs_i, zcs_l, zcs_r, zle8, true_and, and_true, true_or, or_true, c_below, c1, c2, c3, i1_0, if_false, n8, c_append, e48, s1, if_true]
          · unfold SG
            rw [e48, e1]
            refine ⟨rfl, by omega, fun q hq => ?_⟩
            unfold zsn
            simp (disch := omega) only [zr_n, zr_s, hn]
            by_cases e : q = n
            · subst e; rw [upd_s, ixN_nI hj (by decide)]; trivial
            · rw [upd_n e]; exact s3 q (by omega)
          · obtain ⟨m1, m2⟩ := hM.2.2.2.2.1
            rw [hn] at m2
            refine ⟨zr (zr M 87 (upd (upd (upd (M 87) (3 * n) (nI i)) (3 * n + 1) (nI j)) (3 * n + 2) (nI k))) 65 (upd (M 65) 28 (nI (n + 1))), fun Q => ?_, RM_48 hM hk1 ?_ (fun c c1 c2 c3 => by simp (disch := omega) only [zr_n]) (fun j hj => by rw [zr_s, upd_n hj]), fun c hc => by simp (disch := omega) only [zr_n]⟩
            · simp (disch := first | assumption | omega | (simp (disch := omega) only [zr_n, zr_s]; assumption)) only [x166_0, x166_1, x166_4, x166_7, x166_8, x166_9, x166_10, x166_13, x166_16, x166_19, x166_20, x166_23, x166_26, x166_28, x166_29, x166_30_65, x166_33, x166_35, x166_38, x166_40, x166_41, x166_42_65, x166_45, x166_46, x166_47_65, x166_50, x166_51, x166_52, x166_53, x166_54_65, x166_57, x166_58, x166_59_65, x166_62, x166_63, x166_64, x166_65, x166_66, x166_67, x166_68_65, x166_71, x166_72, x166_73_65, x166_76, x166_77, x166_78, x166_79, x166_80, x166_81, x166_82i, x166_82r, x166_83_65, x166_86, x166_87, x166_88_65, x166_91, x166_92_65, x166_95, bi_87, bs_87, ↓reduceIte, zkl_i, zkl_r, zkl_n, zkl_z, zkl_l, Option.toList_some, Option.toList_none, List.cons_append, List.nil_append, zcs_0, zcs_i, zcs_l, zcs_r, zle8, true_and, and_true, true_or, or_true, m_isMinute, r1, m_in, k64_0, k64_9, i64_lt, r2, m_isTwo, r3, i1_0, if_false, m1, s1, ne_8, hz, nm_3, na_1, na_2, ixN_nI, nI_clamp, zr_n, zr_s, zr_zr, upd_s]
            · unfold SM
              rw [e48, e1, zr_s, upd_s, zr_n (by decide), zr_s]
              refine ⟨rfl, fun q hq => ?_⟩
              unfold zsn
              simp (disch := omega) only [zr_n, zr_s, hn]
              by_cases e : q = n
              · subst e
                rw [upd_n (show 3 * q ≠ 3 * q + 2 by omega), upd_n (show 3 * q ≠ 3 * q + 1 by omega), upd_s, upd_n (show 3 * q + 1 ≠ 3 * q + 2 by omega), upd_s, upd_s, upd_s, upd_s, upd_s]
                exact ⟨rfl, rfl, rfl⟩
              · simp (disch := omega) only [upd_n]
                exact m2 q (by omega)
      · have c3 : (if c < 0 then (0 : Int32) else if c < 2 then 1 else 0) = 0 := bl0 (n := 2) (by decide) hc
        have r3 : (if c < 0 then (0 : Int32) else if 1 < c then 0 else 1) = 0 := in0 (m := 1) (by decide) hc
        refine mkI (v := -2) (I1 := I) (J1 := J) h (fun Q => ?_) (Tr_refl I) (fun M J hM => ⟨M, fun Q => ?_, hM, Fr_refl M⟩)
        · simp (disch := first | assumption | omega | (simp (disch := omega) only [zr_n, zr_s]; assumption)) only [x59_0, x59_1, x59_3, x59_6, x59_9, x59_10, x59_12, x59_15, x59_18, x59_19, x59_20, x59_23, x59_26, x59_28, x59_29, x59_30_0, x59_33_48, x59_36, x59_38, x59_41, x59_43, x59_44, x59_45_0, x59_48, x59_49, x59_50, x59_51, x59_54, x59_55_0, x59_58_48, x59_61, ↓reduceIte, zkl_i, zkl_r, zkl_n, zkl_z, zkl_l, Option.toList_some, Option.toList_none, List.cons_append, List.nil_append, zcs_0, zcs_i, zcs_l, zcs_r, zle8, true_and, and_true, true_or, or_true, c_below, c1, c2, c3, i1_0, if_false, if_true]
        · simp (disch := first | assumption | omega | (simp (disch := omega) only [zr_n, zr_s]; assumption)) only [x166_0, x166_1, x166_4, x166_7, x166_8, x166_9, x166_10, x166_13, x166_16, x166_19, x166_20, x166_23, x166_26, x166_28, x166_29, x166_30_65, x166_33, x166_35, x166_38, x166_40, x166_41, x166_42_65, x166_45, x166_46, x166_47_65, x166_50, x166_51, x166_52, x166_53, x166_54_65, x166_57, x166_58, x166_59_65, x166_62, x166_63, x166_64, x166_65, x166_66, x166_67, x166_68_65, x166_71, x166_72, x166_73_65, x166_76, x166_77, x166_78, x166_79, x166_80, x166_81, x166_82i, x166_82r, x166_83_65, x166_86, x166_87, x166_88_65, x166_91, x166_92_65, x166_95, ↓reduceIte, zkl_i, zkl_r, zkl_n, zkl_z, zkl_l, Option.toList_some, Option.toList_none, List.cons_append, List.nil_append, zcs_0, zcs_i, zcs_l, zcs_r, zle8, true_and, and_true, true_or, or_true, m_isMinute, r1, m_in, k64_0, k64_9, i64_lt, r2, m_isTwo, r3, i1_0, if_false, if_true]
    · have c2 : (if b < 0 then (0 : Int32) else if b < 10 then 1 else 0) = 0 := bl0 (n := 10) (by decide) hb
      have r2 : (if b < 0 then (0 : Int32) else if 9 < b then 0 else 1) = 0 := in0 (m := 9) (by decide) hb
      refine mkI (v := -2) (I1 := I) (J1 := J) h (fun Q => ?_) (Tr_refl I) (fun M J hM => ⟨M, fun Q => ?_, hM, Fr_refl M⟩)
      · simp (disch := first | assumption | omega | (simp (disch := omega) only [zr_n, zr_s]; assumption)) only [x59_0, x59_1, x59_3, x59_6, x59_9, x59_10, x59_12, x59_15, x59_18, x59_19, x59_20, x59_23, x59_26, x59_28, x59_29, x59_30_0, x59_33_48, x59_36, x59_38, x59_41, x59_43, x59_44, x59_45_0, x59_48, x59_49, x59_50, x59_51, x59_54, x59_55_0, x59_58_48, x59_61, ↓reduceIte, zkl_i, zkl_r, zkl_n, zkl_z, zkl_l, Option.toList_some, Option.toList_none, List.cons_append, List.nil_append, zcs_0, zcs_i, zcs_l, zcs_r, zle8, true_and, and_true, true_or, or_true, c_below, c1, c2, i1_0, if_false, if_true]
      · simp (disch := first | assumption | omega | (simp (disch := omega) only [zr_n, zr_s]; assumption)) only [x166_0, x166_1, x166_4, x166_7, x166_8, x166_9, x166_10, x166_13, x166_16, x166_19, x166_20, x166_23, x166_26, x166_28, x166_29, x166_30_65, x166_33, x166_35, x166_38, x166_40, x166_41, x166_42_65, x166_45, x166_46, x166_47_65, x166_50, x166_51, x166_52, x166_53, x166_54_65, x166_57, x166_58, x166_59_65, x166_62, x166_63, x166_64, x166_65, x166_66, x166_67, x166_68_65, x166_71, x166_72, x166_73_65, x166_76, x166_77, x166_78, x166_79, x166_80, x166_81, x166_82i, x166_82r, x166_83_65, x166_86, x166_87, x166_88_65, x166_91, x166_92_65, x166_95, ↓reduceIte, zkl_i, zkl_r, zkl_n, zkl_z, zkl_l, Option.toList_some, Option.toList_none, List.cons_append, List.nil_append, zcs_0, zcs_i, zcs_l, zcs_r, zle8, true_and, and_true, true_or, or_true, m_isMinute, r1, m_in, k64_0, k64_9, i64_lt, r2, i1_0, if_false, if_true]
  · have c1 : (if a < 0 then (0 : Int32) else if a < 24 then 1 else 0) = 0 := bl0 (n := 24) (by decide) ha
    have r1 : bt a 0 23 = 0 := in0 (m := 23) (by decide) ha
    refine mkI (v := -2) (I1 := I) (J1 := J) h (fun Q => ?_) (Tr_refl I) (fun M J hM => ⟨M, fun Q => ?_, hM, Fr_refl M⟩)
    · simp (disch := first | assumption | omega | (simp (disch := omega) only [zr_n, zr_s]; assumption)) only [x59_0, x59_1, x59_3, x59_6, x59_9, x59_10, x59_12, x59_15, x59_18, x59_19, x59_20, x59_23, x59_26, x59_28, x59_29, x59_30_0, x59_33_48, x59_36, x59_38, x59_41, x59_43, x59_44, x59_45_0, x59_48, x59_49, x59_50, x59_51, x59_54, x59_55_0, x59_58_48, x59_61, ↓reduceIte, zkl_i, zkl_r, zkl_n, zkl_z, zkl_l, Option.toList_some, Option.toList_none, List.cons_append, List.nil_append, zcs_0, zcs_i, zcs_l, zcs_r, zle8, true_and, and_true, true_or, or_true, c_below, c1, if_true]
    · simp (disch := first | assumption | omega | (simp (disch := omega) only [zr_n, zr_s]; assumption)) only [x166_0, x166_1, x166_4, x166_7, x166_8, x166_9, x166_10, x166_13, x166_16, x166_19, x166_20, x166_23, x166_26, x166_28, x166_29, x166_30_65, x166_33, x166_35, x166_38, x166_40, x166_41, x166_42_65, x166_45, x166_46, x166_47_65, x166_50, x166_51, x166_52, x166_53, x166_54_65, x166_57, x166_58, x166_59_65, x166_62, x166_63, x166_64, x166_65, x166_66, x166_67, x166_68_65, x166_71, x166_72, x166_73_65, x166_76, x166_77, x166_78, x166_79, x166_80, x166_81, x166_82i, x166_82r, x166_83_65, x166_86, x166_87, x166_88_65, x166_91, x166_92_65, x166_95, ↓reduceIte, zkl_i, zkl_r, zkl_n, zkl_z, zkl_l, Option.toList_some, Option.toList_none, List.cons_append, List.nil_append, zcs_0, zcs_i, zcs_l, zcs_r, zle8, true_and, and_true, true_or, or_true, m_isMinute, r1, if_true]
end
