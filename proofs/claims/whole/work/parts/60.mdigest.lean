/-! ===== digest: the reference ===== -/
section
variable {xl : Nat} {J : zJ} {I M : zI}
theorem ch5 {D : zI} {q : Nat} : chA D (nI 5) q 0 = chA D 5 q 0 ∧ chA D (nI 5) q 1 = chA D 5 q 1 := ⟨rfl, rfl⟩
theorem m_tellsLine {x : Int64} {k : Nat} (hC : RC I) (hM : RM I M) (h : MD (pD I) M) (hk : k < tn (pD I 28 0)) : ∃ M' : zI, (∀ Q : zQ, Rn (zG xl) 185 0 [.ref 65, .long x, .null, .int (nI k), .null, .null, .null] [] M J Q = Q (some (.long (dgL1 I (pD I) k x))) M' J) ∧ MD (pD I) M' ∧ RM I M' ∧ Fr M M' := by
  obtain ⟨b0, b3, b6, b9⟩ := RC_l hC
  have h13 := hC.1.2.2.2.2.1
  obtain ⟨M1, a1, a2, a3⟩ := m_livesD (xl := xl) (J := J) h
  have hF1 : Fr M M1 := Fr_lives a3 (Fr_refl M)
  have hR1 : RM I M1 := RM_Fr hF1 a2.1 h13 hM
  obtain ⟨M2, k1, k2, k3⟩ := m_kindOf (xl := xl) (J := J) a2.1 hC.2.1 hR1.2.2.2.2.1 hk
  obtain ⟨M3, c1, c2, c3⟩ := m_chanceOf (xl := xl) (J := J) (c := 5) (w := 0) k2 h13 (by decide) hk
  obtain ⟨M4, d1, d2, d3⟩ := m_chanceOf (xl := xl) (J := J) (c := 5) (w := 1) c2 h13 (by decide) hk
  rw [ch5.1] at c1
  rw [ch5.2] at d1
  rw [show nI 5 = 5 from rfl] at c1 d1
  have hF4 : Fr M M4 := Fr_trans hF1 (Fr_trans k3 (Fr_trans c3 d3))
  refine ⟨M4, fun Q => ?_, d2, RM_Fr hF4 d2 h13 hM, hF4⟩
  obtain ⟨u1, u2⟩ := a2.1.2.2.2.1 k hk
  have la := fo_loop0 (R := fun w (s : Int64) => Rn (zG xl) 185 10 [.ref 65, .long x, .null, .int (nI k), .long s, .null, .int (nI w)] [] M1 J Q) (E := fun s => Rn (zG xl) 185 42 [.ref 65, .long x, .null, .int (nI k), .long s, .null, .int (nI 0)] [] M1 J Q) (f := fun w h => mx h (lnD (pD I) k (nI w))) (n := 3) (fun w s hw => by
    have q0 := fun Q => m_lineByG (xl := xl) (J := J) (Q := Q) (k := k) (w := w) (M := M1) (f := pD I 29) (g := pD I 30) (by omega) hw u1 u2
    rw [h185_10]
    simp (disch := first | assumption | omega | (simp (disch := omega) only [zr_n, zr_s]; assumption)) only [x185_12, x185_13, x185_16, x185_19, x185_21, x185_22, x185_23, x185_24, x185_26, x185_29, x185_30, x185_31, x185_33, x185_36, gc_65, ↓reduceIte, zkl_i, zkl_r, zkl_n, zkl_z, zkl_l, Option.toList_some, Option.toList_none, List.cons_append, List.nil_append, zcs_0, zcs_i, zcs_l, zcs_r, zle8, true_and, and_true, true_or, or_true, nlt_3, hw, if_true, q0, na_1]
    rfl) (fun s => by
    rw [h185_10]
    simp (disch := first | assumption | omega | (simp (disch := omega) only [zr_n, zr_s]; assumption)) only [x185_12, x185_13, x185_16, x185_19, x185_21, x185_22, x185_23, x185_24, x185_26, x185_29, x185_30, x185_31, x185_33, x185_36, x185_39, x185_40, ↓reduceIte, zkl_i, zkl_r, zkl_n, zkl_z, zkl_l, Option.toList_some, Option.toList_none, List.cons_append, List.nil_append, zcs_0, zcs_i, zcs_l, zcs_r, zle8, true_and, and_true, true_or, or_true, nlt_3, Nat.lt_irrefl, if_false]
    rfl) x
  have lb := fun (s1 : Int64) => fo_loop0 (R := fun w (s : Int64) => Rn (zG xl) 185 42 [.ref 65, .long x, .null, .int (nI k), .long s, .null, .int (nI w)] [] M1 J Q) (E := fun s => Rn (zG xl) 185 71 [.ref 65, .long x, .null, .int (nI k), .long s, .null, .int (nI 3)] [] M1 J Q) (f := fun w h => mx h (mgD (pD I) k (nI w))) (n := 3) (fun w s hw => by
    have q0 := fun Q => m_marginOf (xl := xl) (J := J) (Q := Q) (q := k) (w := nI w) a2 (by omega)
    rw [h185_42]
    simp (disch := first | assumption | omega | (simp (disch := omega) only [zr_n, zr_s]; assumption)) only [x185_44, x185_45, x185_48, x185_51, x185_53, x185_54, x185_55, x185_56, x185_58, x185_61, x185_62, x185_63, x185_65, x185_68, gc_65, ↓reduceIte, zkl_i, zkl_r, zkl_n, zkl_z, zkl_l, Option.toList_some, Option.toList_none, List.cons_append, List.nil_append, zcs_0, zcs_i, zcs_l, zcs_r, zle8, true_and, and_true, true_or, or_true, nlt_3, hw, if_true, q0, na_1]
    rfl) (fun s => by
    rw [h185_42]
    simp (disch := first | assumption | omega | (simp (disch := omega) only [zr_n, zr_s]; assumption)) only [x185_44, x185_45, ↓reduceIte, zkl_i, zkl_r, zkl_n, zkl_z, zkl_l, Option.toList_some, Option.toList_none, List.cons_append, List.nil_append, zcs_0, zcs_i, zcs_l, zcs_r, zle8, true_and, and_true, true_or, or_true, nlt_3, Nat.lt_irrefl, if_false]) s1
  have st : Rn (zG xl) 185 0 [.ref 65, .long x, .null, .int (nI k), .null, .null, .null] [] M J Q = Rn (zG xl) 185 10 [.ref 65, .long x, .null, .int (nI k), .long x, .null, .int (nI 0)] [] M1 J Q := by
    simp (disch := first | assumption | omega | (simp (disch := omega) only [zr_n, zr_s]; assumption)) only [x185_0, x185_1, x185_4, x185_5, x185_7, x185_8, gc_65, ↓reduceIte, zkl_i, zkl_r, zkl_n, zkl_z, zkl_l, Option.toList_some, Option.toList_none, List.cons_append, List.nil_append, zcs_0, zcs_i, zcs_l, zcs_r, zle8, true_and, and_true, true_or, or_true, a1]
    rfl
  rw [st, la, lb]
  simp (disch := first | assumption | omega | (simp (disch := omega) only [zr_n, zr_s]; assumption)) only [x185_71, x185_74, x185_76, x185_77, x185_78, x185_79, x185_82, x185_83, x185_84, x185_86, x185_89, x185_91, x185_92, x185_93, x185_94, x185_95, x185_96, x185_99, x185_100, x185_102, x185_105, x185_107, x185_108, x185_109, x185_110, x185_111, x185_112, x185_115, x185_116, gc_65, ↓reduceIte, zkl_i, zkl_r, zkl_n, zkl_z, zkl_l, Option.toList_some, Option.toList_none, List.cons_append, List.nil_append, zcs_0, zcs_i, zcs_l, zcs_r, zle8, true_and, and_true, true_or, or_true, k1, c1, d1]
  rfl
theorem m_tellsReader {x : Int64} {k : Nat} (hC : RC I) (hM : RM I M) (h : MD (pD I) M) (hk : k < tn (pD I 28 3)) : ∃ M' : zI, (∀ Q : zQ, Rn (zG xl) 186 0 [.ref 65, .long x, .null, .int (nI k), .null, .null, .null] [] M J Q = Q (some (.long (dgR1 I (pD I) k x))) M' J) ∧ MD (pD I) M' ∧ RM I M' ∧ Fr M M' := by
  obtain ⟨b0, b3, b6, b9⟩ := RC_l hC
  have h13 := hC.1.2.2.2.2.1
  obtain ⟨M1, a1, a2, a3⟩ := m_livesD (xl := xl) (J := J) h
  have hF1 : Fr M M1 := Fr_lives a3 (Fr_refl M)
  have hR1 : RM I M1 := RM_Fr hF1 a2.1 h13 hM
  obtain ⟨M2, k1, -, k2, k3⟩ := m_keensOf (xl := xl) (J := J) a2.1 hC.2.1 hR1.2.2.2.2.1 hk
  have hF2 : Fr M M2 := Fr_trans hF1 k3
  have hR2 : RM I M2 := RM_Fr hF2 k2 h13 hM
  obtain ⟨M3, c1, c2, c3⟩ := m_askOf (xl := xl) (J := J) k2 hC.2.1 hR2.2.2.2.2.1 hk
  have hF3 : Fr M M3 := Fr_trans hF2 c3
  refine ⟨M3, fun Q => ?_, c2, RM_Fr hF3 c2 h13 hM, hF3⟩
  obtain ⟨u1, u2⟩ := a2.1.2.2.2.2.1 k hk
  have la := fun (s1 : Int64) => fo_loop0 (R := fun w (s : Int64) => Rn (zG xl) 186 44 [.ref 65, .long x, .null, .int (nI k), .long s, .null, .int (nI w)] [] M1 J Q) (E := fun s => Rn (zG xl) 186 73 [.ref 65, .long x, .null, .int (nI k), .long s, .null, .int (nI 4)] [] M1 J Q) (f := fun w h => mx h (ngD (pD I) k (nI w))) (n := 4) (fun w s hw => by
    have q0 := fun Q => m_nightOf (xl := xl) (J := J) (Q := Q) (q := k) (w := nI w) a2 (by omega) (by
      have hw2 : w = 0 ∨ w = 1 ∨ w = 2 ∨ w = 3 := by omega
      rcases hw2 with rfl | rfl | rfl | rfl
      · exact Or.inl rfl
      · exact Or.inr (Or.inl rfl)
      · exact Or.inr (Or.inr (Or.inl rfl))
      · exact Or.inr (Or.inr (Or.inr rfl)))
    rw [h186_44]
    simp (disch := first | assumption | omega | (simp (disch := omega) only [zr_n, zr_s]; assumption)) only [x186_46, x186_47, x186_50, x186_53, x186_55, x186_56, x186_57, x186_58, x186_60, x186_63, x186_64, x186_65, x186_67, x186_70, gc_65, ↓reduceIte, zkl_i, zkl_r, zkl_n, zkl_z, zkl_l, Option.toList_some, Option.toList_none, List.cons_append, List.nil_append, zcs_0, zcs_i, zcs_l, zcs_r, zle8, true_and, and_true, true_or, or_true, nlt_4, hw, if_true, q0, na_1]
    rfl) (fun s => by
    rw [h186_44]
    simp (disch := first | assumption | omega | (simp (disch := omega) only [zr_n, zr_s]; assumption)) only [x186_46, x186_47, ↓reduceIte, zkl_i, zkl_r, zkl_n, zkl_z, zkl_l, Option.toList_some, Option.toList_none, List.cons_append, List.nil_append, zcs_0, zcs_i, zcs_l, zcs_r, zle8, true_and, and_true, true_or, or_true, nlt_4, Nat.lt_irrefl, if_false]) s1
  have st : Rn (zG xl) 186 0 [.ref 65, .long x, .null, .int (nI k), .null, .null, .null] [] M J Q = Rn (zG xl) 186 44 [.ref 65, .long x, .null, .int (nI k), .long (mx (mx x (rdD (pD I) k 0)) (rdD (pD I) k 1)), .null, .int (nI 0)] [] M1 J Q := by
    simp (disch := first | assumption | omega | (simp (disch := omega) only [zr_n, zr_s]; assumption)) only [x186_0, x186_1, x186_4, x186_7, x186_8, x186_9, x186_10_65, x186_13, x186_14, x186_15, x186_16, x186_17, x186_18, x186_19, x186_21, x186_24, x186_26, x186_27, x186_28_65, x186_31, x186_32, x186_33, x186_34, x186_35, x186_36, x186_37, x186_38, x186_39, x186_41, x186_42, gc_65, bi_73, bs_73, ↓reduceIte, zkl_i, zkl_r, zkl_n, zkl_z, zkl_l, Option.toList_some, Option.toList_none, List.cons_append, List.nil_append, zcs_0, zcs_i, zcs_l, zcs_r, zle8, true_and, and_true, true_or, or_true, a1, nm_2, na_1, ixN_nI, nI_clamp, u1, u2]
    rfl
  rw [st, la]
  simp (disch := first | assumption | omega | (simp (disch := omega) only [zr_n, zr_s]; assumption)) only [x186_73, x186_76, x186_78, x186_79, x186_80, x186_81, x186_84, x186_85, x186_86, x186_88, x186_91, x186_93, x186_94, x186_95, x186_96, x186_99, x186_100, x186_101, gc_65, ↓reduceIte, zkl_i, zkl_r, zkl_n, zkl_z, zkl_l, Option.toList_some, Option.toList_none, List.cons_append, List.nil_append, zcs_0, zcs_i, zcs_l, zcs_r, zle8, true_and, and_true, true_or, or_true, k1, c1]
  rfl
theorem m_digest (hC : RC I) (hM : RM I M) : ∃ M' : zI, (∀ Q : zQ, Rn (zG xl) 187 0 [.ref 65, .null, .null, .null] [] M J Q = Q (some (.long (dgF I (pD I)))) M' J) ∧ RM I M' ∧ Fr M M' := by
  obtain ⟨b0, b3, b6, b9⟩ := RC_l hC
  have h13 := hC.1.2.2.2.2.1
  -- count
  obtain ⟨M1, a1, a2⟩ := lpE (R := fun k (s : Int64) (v : Unit) X Q => Rn (zG xl) 187 6 [.ref 65, .long s, .null, .int (nI k)] [] X J Q) (E := fun s X Q => Rn (zG xl) 187 33 [.ref 65, .long s, .null, .int (nI 0)] [] X J Q) (f := fun k h => mx h (cnD I k)) (n := 8) (P := fun k s X => RM I X ∧ Fr M X ∧ (0 < k → MD (pD I) X)) (P' := fun s X => RM I X ∧ Fr M X ∧ MD (pD I) X) (fun k s v X hk hP => by
    obtain ⟨p1, p2, p3⟩ := hP
    obtain ⟨M', f1, f2, f3, f4⟩ := rq_count (xl := xl) (J := J) (w := k) hC p1 (by omega)
    have n8 : nI k < 8 := (nI_ltI (b := 8) (by omega) (by decide)).mpr hk
    refine ⟨(), M', fun Q => ?_, f3, Fr_trans p2 f4, fun _ => f2.1⟩
    show Rn _ _ _ _ _ _ _ _ = Rn _ _ _ _ _ _ _ _
    rw [h187_6]
    simp (disch := first | assumption | omega | (simp (disch := omega) only [zr_n, zr_s]; assumption)) only [x187_7, x187_9, x187_12, x187_15, x187_16, x187_17, x187_18, x187_19, x187_22, x187_23, x187_24, x187_25, x187_28, gc_65, ↓reduceIte, zkl_i, zkl_r, zkl_n, zkl_z, zkl_l, Option.toList_some, Option.toList_none, List.cons_append, List.nil_append, zcs_0, zcs_i, zcs_l, zcs_r, zle8, true_and, and_true, true_or, or_true, n8, if_true, f1, na_1]
    rfl) (fun s v X hP => by
    have n8 : ¬ nI 8 < 8 := by decide
    refine ⟨X, fun Q => ?_, hP.1, hP.2.1, hP.2.2 (by decide)⟩
    show Rn _ _ _ _ _ _ _ _ = Rn _ _ _ _ _ _ _ _
    rw [h187_6]
    simp (disch := first | assumption | omega | (simp (disch := omega) only [zr_n, zr_s]; assumption)) only [x187_7, x187_9, x187_12, x187_15, x187_16, x187_17, x187_18, x187_19, x187_22, x187_23, x187_24, x187_25, x187_28, x187_31, x187_32, ↓reduceIte, zkl_i, zkl_r, zkl_n, zkl_z, zkl_l, Option.toList_some, Option.toList_none, List.cons_append, List.nil_append, zcs_0, zcs_i, zcs_l, zcs_r, zle8, true_and, and_true, true_or, or_true, n8, if_false]
    rfl) 8 0 17 () M rfl ⟨hM, Fr_refl M, fun z => by omega⟩
  -- faults
  obtain ⟨M2, c1, c2⟩ := lpE (R := fun k (s : Int64) (v : Unit) X Q => Rn (zG xl) 187 33 [.ref 65, .long s, .null, .int (nI k)] [] X J Q) (E := fun s X Q => Rn (zG xl) 187 57 [.ref 65, .long s, .null, .int (nI 3)] [] X J Q) (f := fun t h => mx h (flD I t)) (n := 3) (P := fun k s X => RM I X ∧ Fr M X ∧ MD (pD I) X) (P' := fun s X => RM I X ∧ Fr M X ∧ MD (pD I) X) (fun k s v X hk hP => by
    obtain ⟨p1, p2, p3⟩ := hP
    obtain ⟨M', f1, f2, f3, f4⟩ := rq_fault (xl := xl) (J := J) (w := k) hC p1 hk
    refine ⟨(), M', fun Q => ?_, f2, Fr_trans p2 f3, f4 p3⟩
    show Rn _ _ _ _ _ _ _ _ = Rn _ _ _ _ _ _ _ _
    rw [h187_33]
    simp (disch := first | assumption | omega | (simp (disch := omega) only [zr_n, zr_s]; assumption)) only [x187_34, x187_35, x187_38, x187_41, x187_42, x187_43, x187_44, x187_45, x187_48, x187_49, x187_50, x187_51, x187_54, gc_65, ↓reduceIte, zkl_i, zkl_r, zkl_n, zkl_z, zkl_l, Option.toList_some, Option.toList_none, List.cons_append, List.nil_append, zcs_0, zcs_i, zcs_l, zcs_r, zle8, true_and, and_true, true_or, or_true, nlt_3, hk, if_true, f1, na_1]
    rfl) (fun s v X hP => by
    refine ⟨X, fun Q => ?_, hP⟩
    show Rn _ _ _ _ _ _ _ _ = Rn _ _ _ _ _ _ _ _
    rw [h187_33]
    simp (disch := first | assumption | omega | (simp (disch := omega) only [zr_n, zr_s]; assumption)) only [x187_34, x187_35, ↓reduceIte, zkl_i, zkl_r, zkl_n, zkl_z, zkl_l, Option.toList_some, Option.toList_none, List.cons_append, List.nil_append, zcs_0, zcs_i, zcs_l, zcs_r, zle8, true_and, and_true, true_or, or_true, nlt_3, Nat.lt_irrefl, if_false]) 3 0 (fo (fun k h => mx h (cnD I k)) 8 0 17) () M1 rfl a2
  obtain ⟨r2, fr2, d2⟩ := c2
  obtain ⟨M3, l1, l2, l3⟩ := m_livesD (xl := xl) (J := J) d2
  have fr3 : Fr M M3 := Fr_lives l3 fr2
  have r3 : RM I M3 := RM_Fr fr3 l2.1 h13 hM
  obtain ⟨e0, e3, e6, e9⟩ := MD_l l2.1
  -- lines
  obtain ⟨M4, g1, g2⟩ := lpE (R := fun k (s : Int64) (v : Unit) X Q => Rn (zG xl) 187 149 [.ref 65, .long s, .null, .int (nI k)] [] X J Q) (E := fun s X Q => Rn (zG xl) 187 172 [.ref 65, .long s, .null, .int (nI 0)] [] X J Q) (f := dgL1 I (pD I)) (n := tn (pD I 28 0)) (P := fun k s X => RM I X ∧ Fr M X ∧ MD (pD I) X) (P' := fun s X => RM I X ∧ Fr M X ∧ MD (pD I) X) (fun k s v X hk hP => by
    obtain ⟨p1, p2, p3⟩ := hP
    obtain ⟨f0, -⟩ := MD_l p3
    obtain ⟨M', f1, f2, f3, f4⟩ := m_tellsLine (xl := xl) (J := J) (x := s) hC p1 p3 hk
    refine ⟨(), M', fun Q => ?_, f3, Fr_trans p2 f4, f2⟩
    show Rn _ _ _ _ _ _ _ _ = Rn _ _ _ _ _ _ _ _
    rw [h187_149]
    simp (disch := first | assumption | omega | (simp (disch := omega) only [zr_n, zr_s]; assumption)) only [x187_150, x187_151_65, x187_154, x187_157, x187_158, x187_159, x187_160, x187_163, x187_164, x187_167, gc_65, ↓reduceIte, zkl_i, zkl_r, zkl_n, zkl_z, zkl_l, Option.toList_some, Option.toList_none, List.cons_append, List.nil_append, zcs_0, zcs_i, zcs_l, zcs_r, zle8, true_and, and_true, true_or, or_true, f0, nI_ltI, hk, if_true, f1, na_1]) (fun s v X hP => by
    obtain ⟨f0, -⟩ := MD_l hP.2.2
    refine ⟨X, fun Q => ?_, hP⟩
    show Rn _ _ _ _ _ _ _ _ = Rn _ _ _ _ _ _ _ _
    rw [h187_149]
    simp (disch := first | assumption | omega | (simp (disch := omega) only [zr_n, zr_s]; assumption)) only [x187_150, x187_151_65, x187_154, x187_170, x187_171, ↓reduceIte, zkl_i, zkl_r, zkl_n, zkl_z, zkl_l, Option.toList_some, Option.toList_none, List.cons_append, List.nil_append, zcs_0, zcs_i, zcs_l, zcs_r, zle8, true_and, and_true, true_or, or_true, f0, nI_ltI, Nat.lt_irrefl, if_false]
    rfl) (tn (pD I 28 0)) 0 (dgS (pD I) (dgA I)) () M3 (Nat.zero_add _) ⟨r3, fr3, l2.1⟩
  -- readers
  obtain ⟨M5, i1, i2⟩ := lpE (R := fun k (s : Int64) (v : Unit) X Q => Rn (zG xl) 187 172 [.ref 65, .long s, .null, .int (nI k)] [] X J Q) (E := fun s X Q => Rn (zG xl) 187 193 [.ref 65, .long s, .null, .int (nI (tn (pD I 28 3)))] [] X J Q) (f := dgR1 I (pD I)) (n := tn (pD I 28 3)) (P := fun k s X => RM I X ∧ Fr M X ∧ MD (pD I) X) (P' := fun s X => RM I X ∧ Fr M X ∧ MD (pD I) X) (fun k s v X hk hP => by
    obtain ⟨p1, p2, p3⟩ := hP
    obtain ⟨-, f0, -⟩ := MD_l p3
    obtain ⟨M', f1, f2, f3, f4⟩ := m_tellsReader (xl := xl) (J := J) (x := s) hC p1 p3 hk
    refine ⟨(), M', fun Q => ?_, f3, Fr_trans p2 f4, f2⟩
    show Rn _ _ _ _ _ _ _ _ = Rn _ _ _ _ _ _ _ _
    rw [h187_172]
    simp (disch := first | assumption | omega | (simp (disch := omega) only [zr_n, zr_s]; assumption)) only [x187_173, x187_174_65, x187_177, x187_180, x187_181, x187_182, x187_183, x187_186, x187_187, x187_190, gc_65, ↓reduceIte, zkl_i, zkl_r, zkl_n, zkl_z, zkl_l, Option.toList_some, Option.toList_none, List.cons_append, List.nil_append, zcs_0, zcs_i, zcs_l, zcs_r, zle8, true_and, and_true, true_or, or_true, f0, nI_ltI, hk, if_true, f1, na_1]) (fun s v X hP => by
    obtain ⟨-, f0, -⟩ := MD_l hP.2.2
    refine ⟨X, fun Q => ?_, hP⟩
    show Rn _ _ _ _ _ _ _ _ = Rn _ _ _ _ _ _ _ _
    rw [h187_172]
    simp (disch := first | assumption | omega | (simp (disch := omega) only [zr_n, zr_s]; assumption)) only [x187_173, x187_174_65, x187_177, ↓reduceIte, zkl_i, zkl_r, zkl_n, zkl_z, zkl_l, Option.toList_some, Option.toList_none, List.cons_append, List.nil_append, zcs_0, zcs_i, zcs_l, zcs_r, zle8, true_and, and_true, true_or, or_true, f0, nI_ltI, Nat.lt_irrefl, if_false]) (tn (pD I 28 3)) 0 (dgL I (pD I) (dgS (pD I) (dgA I))) () M4 (Nat.zero_add _) g2
  obtain ⟨r5, fr5, d5⟩ := i2
  obtain ⟨M6, o1, o2, o3⟩ := m_livesD (xl := xl) (J := J) d5
  have fr6 : Fr M M6 := Fr_lives o3 fr5
  have r6 : RM I M6 := RM_Fr fr6 o2.1 h13 hM
  have q1 := fun Q => m_harmNow (xl := xl) (J := J) (Q := Q) o2
  have q2 := fun Q => m_worstNow (xl := xl) (J := J) (Q := Q) o2
  have q3 := fun Q => m_leftBy (xl := xl) (J := J) (Q := Q) (w := 0) o2
  have q4 := fun Q => m_leftBy (xl := xl) (J := J) (Q := Q) (w := 1) o2
  -- more
  obtain ⟨M7, s1, s2⟩ := lpE (R := fun k (s : Int64) (v : Unit) X Q => Rn (zG xl) 187 279 [.ref 65, .long s, .null, .int (nI k)] [] X J Q) (E := fun s X Q => Rn (zG xl) 187 303 [.ref 65, .long s, .null, .int (nI 3)] [] X J Q) (f := fun w h => mx h (moA 10 (moS (pD I)) (nI w))) (n := 3) (P := fun k s X => Fr M X ∧ MD (pD I) X) (P' := fun s X => Fr M X ∧ MD (pD I) X) (fun k s v X hk hP => by
    obtain ⟨M', f1, f2, f3⟩ := m_moreBy (xl := xl) (J := J) (w := nI k) hP.2 b6
    refine ⟨(), M', fun Q => ?_, Fr_trans hP.1 f3, f2⟩
    show Rn _ _ _ _ _ _ _ _ = Rn _ _ _ _ _ _ _ _
    rw [h187_279]
    simp (disch := first | assumption | omega | (simp (disch := omega) only [zr_n, zr_s]; assumption)) only [x187_280, x187_281, x187_284, x187_287, x187_288, x187_289, x187_290, x187_291, x187_294, x187_295, x187_296, x187_297, x187_300, gc_65, ↓reduceIte, zkl_i, zkl_r, zkl_n, zkl_z, zkl_l, Option.toList_some, Option.toList_none, List.cons_append, List.nil_append, zcs_0, zcs_i, zcs_l, zcs_r, zle8, true_and, and_true, true_or, or_true, nlt_3, hk, if_true, f1, na_1]
    rfl) (fun s v X hP => by
    refine ⟨X, fun Q => ?_, hP⟩
    show Rn _ _ _ _ _ _ _ _ = Rn _ _ _ _ _ _ _ _
    rw [h187_279]
    simp (disch := first | assumption | omega | (simp (disch := omega) only [zr_n, zr_s]; assumption)) only [x187_280, x187_281, ↓reduceIte, zkl_i, zkl_r, zkl_n, zkl_z, zkl_l, Option.toList_some, Option.toList_none, List.cons_append, List.nil_append, zcs_0, zcs_i, zcs_l, zcs_r, zle8, true_and, and_true, true_or, or_true, nlt_3, Nat.lt_irrefl, if_false]) 3 0 (mx (mx (mx (mx (dgM (pD I) (dgR I (pD I) (dgL I (pD I) (dgS (pD I) (dgA I))))) (hD (pD I))) (wsD (pD I))) (urD (pD I))) (pdD (pD I))) () M6 rfl ⟨fr6, o2.1⟩
  obtain ⟨M8, t1, t2, t3⟩ := m_lateNow (xl := xl) (J := J) s2.2
  -- turn
  obtain ⟨M9, u1, u2⟩ := lpE (R := fun k (s : Int64) (v : Unit) X Q => Rn (zG xl) 187 317 [.ref 65, .long s, .null, .int (nI k)] [] X J Q) (E := fun s X Q => Rn (zG xl) 187 341 [.ref 65, .long s, .null, .int (nI 3)] [] X J Q) (f := fun w h => mx h (moA 16 (tuS (pD I)) (nI w))) (n := 3) (P := fun k s X => Fr M X ∧ MD (pD I) X) (P' := fun s X => Fr M X ∧ MD (pD I) X) (fun k s v X hk hP => by
    obtain ⟨M', f1, f2, f3⟩ := m_turnBy (xl := xl) (J := J) (w := nI k) hP.2
    refine ⟨(), M', fun Q => ?_, Fr_trans hP.1 f3, f2⟩
    show Rn _ _ _ _ _ _ _ _ = Rn _ _ _ _ _ _ _ _
    rw [h187_317]
    simp (disch := first | assumption | omega | (simp (disch := omega) only [zr_n, zr_s]; assumption)) only [x187_318, x187_319, x187_322, x187_325, x187_326, x187_327, x187_328, x187_329, x187_332, x187_333, x187_334, x187_335, x187_338, gc_65, ↓reduceIte, zkl_i, zkl_r, zkl_n, zkl_z, zkl_l, Option.toList_some, Option.toList_none, List.cons_append, List.nil_append, zcs_0, zcs_i, zcs_l, zcs_r, zle8, true_and, and_true, true_or, or_true, nlt_3, hk, if_true, f1, na_1]
    rfl) (fun s v X hP => by
    refine ⟨X, fun Q => ?_, hP⟩
    show Rn _ _ _ _ _ _ _ _ = Rn _ _ _ _ _ _ _ _
    rw [h187_317]
    simp (disch := first | assumption | omega | (simp (disch := omega) only [zr_n, zr_s]; assumption)) only [x187_318, x187_319, ↓reduceIte, zkl_i, zkl_r, zkl_n, zkl_z, zkl_l, Option.toList_some, Option.toList_none, List.cons_append, List.nil_append, zcs_0, zcs_i, zcs_l, zcs_r, zle8, true_and, and_true, true_or, or_true, nlt_3, Nat.lt_irrefl, if_false]) 3 0 (mx (fo (fun w h => mx h (moA 10 (moS (pD I)) (nI w))) 3 0 (mx (mx (mx (mx (dgM (pD I) (dgR I (pD I) (dgL I (pD I) (dgS (pD I) (dgA I))))) (hD (pD I))) (wsD (pD I))) (urD (pD I))) (pdD (pD I)))) (ltF (fun v => hD (dl (pD I) v)) 24 1)) () M8 rfl ⟨Fr_trans s2.1 t3, t2⟩
  obtain ⟨M10, v1, v2, v3⟩ := m_hushBy (xl := xl) (J := J) (i := -1) u2.2 h13
  obtain ⟨M11, w1, w2, w3⟩ := m_hushBy (xl := xl) (J := J) (i := 0) v2 h13
  have fr11 : Fr M M11 := Fr_trans u2.1 (Fr_trans v3 w3)
  have r11 : RM I M11 := RM_Fr fr11 w2 h13 hM
  obtain ⟨M12, x1, x2, x3⟩ := m_neverNow (xl := xl) (J := J) w2 h13 hC.2.1 r11.2.2.2.2.1
  have fr12 : Fr M M12 := Fr_trans fr11 x3
  have r12 : RM I M12 := RM_Fr fr12 x2 h13 hM
  obtain ⟨M13, y1, y2, y3⟩ := m_daysOf (xl := xl) (J := J) (s := 7) (w := 0) (n := 12) hC.1 r12 x2 (by decide) (Or.inl rfl)
  have fr13 : Fr M M13 := Fr_trans fr12 y3
  have r13 : RM I M13 := RM_Fr fr13 y2 h13 hM
  obtain ⟨M14, z1, z2, z3⟩ := m_daysOf (xl := xl) (J := J) (s := 7) (w := 1) (n := 12) hC.1 r13 y2 (by decide) (Or.inr rfl)
  have fr14 : Fr M M14 := Fr_trans fr13 z3
  rw [show nI 12 = 12 from rfl] at y1 z1
  refine ⟨M14, fun Q => ?_, RM_Fr fr14 z2 h13 hM, fr14⟩
  have p1 : Rn (zG xl) 187 0 [.ref 65, .null, .null, .null] [] M J Q = Rn (zG xl) 187 6 [.ref 65, .long 17, .null, .int (nI 0)] [] M J Q := by
    simp (disch := first | assumption | omega | (simp (disch := omega) only [zr_n, zr_s]; assumption)) only [x187_0, x187_3, x187_4, x187_5, ↓reduceIte, zkl_i, zkl_r, zkl_n, zkl_z, zkl_l, Option.toList_some, Option.toList_none, List.cons_append, List.nil_append, zcs_0, zcs_i, zcs_l, zcs_r, zle8, true_and, and_true, true_or, or_true]
    rfl
  have p2 : Rn (zG xl) 187 57 [.ref 65, .long (dgA I), .null, .int (nI 3)] [] M2 J Q = Rn (zG xl) 187 63 [.ref 65, .long (dgA I), .null, .int (nI 0)] [] M3 J Q := by
    simp (disch := first | assumption | omega | (simp (disch := omega) only [zr_n, zr_s]; assumption)) only [x187_57, x187_58, x187_61, x187_62, gc_65, ↓reduceIte, zkl_i, zkl_r, zkl_n, zkl_z, zkl_l, Option.toList_some, Option.toList_none, List.cons_append, List.nil_append, zcs_0, zcs_i, zcs_l, zcs_r, zle8, true_and, and_true, true_or, or_true, l1]
    rfl
  have p3 := fo_loop0 (R := fun k (s : Int64) => Rn (zG xl) 187 63 [.ref 65, .long s, .null, .int (nI k)] [] M3 J Q) (E := fun s => Rn (zG xl) 187 105 [.ref 65, .long s, .null, .int (nI 0)] [] M3 J Q) (f := fun i h => mx (mx h (shD (pD I) i 0)) (shD (pD I) i 1)) (n := 16) (fun k s hk => by
    have f0 := fun Q => m_shiftByG (xl := xl) (J := J) (Q := Q) (M := M3) (k := k) (w := 0) (f := pD I 33) (g := pD I 34) (n := tn (pD I 28 6)) b6 hk (by decide) e6 l2.1.2.2.2.2.2.1
    have f1 := fun Q => m_shiftByG (xl := xl) (J := J) (Q := Q) (M := M3) (k := k) (w := 1) (f := pD I 33) (g := pD I 34) (n := tn (pD I 28 6)) b6 hk (by decide) e6 l2.1.2.2.2.2.2.1
    rw [show nI 0 = 0 from rfl] at f0
    rw [show nI 1 = 1 from rfl] at f1
    rw [h187_63]
    simp (disch := first | assumption | omega | (simp (disch := omega) only [zr_n, zr_s]; assumption)) only [x187_64, x187_66, x187_69, x187_72, x187_73, x187_74, x187_75, x187_76, x187_77, x187_80, x187_81, x187_82, x187_83, x187_86, x187_87, x187_88, x187_89, x187_90, x187_91, x187_94, x187_95, x187_96, x187_97, x187_100, gc_65, ↓reduceIte, zkl_i, zkl_r, zkl_n, zkl_z, zkl_l, Option.toList_some, Option.toList_none, List.cons_append, List.nil_append, zcs_0, zcs_i, zcs_l, zcs_r, zle8, true_and, and_true, true_or, or_true, nlt_16, hk, if_true, f0, f1, na_1]
    rfl) (fun s => by
    rw [h187_63]
    simp (disch := first | assumption | omega | (simp (disch := omega) only [zr_n, zr_s]; assumption)) only [x187_64, x187_66, x187_69, x187_72, x187_73, x187_74, x187_75, x187_76, x187_77, x187_80, x187_81, x187_82, x187_83, x187_86, x187_87, x187_88, x187_89, x187_90, x187_91, x187_94, x187_95, x187_96, x187_97, x187_100, x187_103, x187_104, ↓reduceIte, zkl_i, zkl_r, zkl_n, zkl_z, zkl_l, Option.toList_some, Option.toList_none, List.cons_append, List.nil_append, zcs_0, zcs_i, zcs_l, zcs_r, zle8, true_and, and_true, true_or, or_true, nlt_16, Nat.lt_irrefl, if_false]
    rfl) (dgA I)
  have p4 := fun x1 => fo_loop0 (R := fun k (s : Int64) => Rn (zG xl) 187 105 [.ref 65, .long s, .null, .int (nI k)] [] M3 J Q) (E := fun s => Rn (zG xl) 187 149 [.ref 65, .long s, .null, .int (nI 0)] [] M3 J Q) (f := fun i h => mx (mx h (dnD (pD I) i 0)) (dnD (pD I) i 1)) (n := tn (pD I 28 6)) (fun k s hk => by
    have f0 := fun Q => m_doneOf (xl := xl) (J := J) (Q := Q) (q := k) (w := 0) l2 hk
    have f1 := fun Q => m_doneOf (xl := xl) (J := J) (Q := Q) (q := k) (w := 1) l2 hk
    simp only [i0_0, if_true] at f0
    simp only [i1_0, if_false] at f1
    have f2 : (if Nt (pD I) 47 k = 0 then (0 : Int32) else 1) = Nt (pD I) 47 k := by
      rcases fd_01 (D := pD I) k (by omega) with z | z
      · rw [if_pos z, z]
      · rw [if_neg (by rw [z]; decide), z]
    rw [f2] at f1
    rw [h187_105]
    simp (disch := first | assumption | omega | (simp (disch := omega) only [zr_n, zr_s]; assumption)) only [x187_106, x187_107_65, x187_110, x187_113, x187_116, x187_117, x187_118, x187_119, x187_120, x187_121, x187_124, x187_125, x187_126, x187_127, x187_130, x187_131, x187_132, x187_133, x187_134, x187_135, x187_138, x187_139, x187_140, x187_141, x187_144, gc_65, ↓reduceIte, zkl_i, zkl_r, zkl_n, zkl_z, zkl_l, Option.toList_some, Option.toList_none, List.cons_append, List.nil_append, zcs_0, zcs_i, zcs_l, zcs_r, zle8, true_and, and_true, true_or, or_true, e6, nI_ltI, hk, if_true, f0, f1, na_1]
    rfl) (fun s => by
    rw [h187_105]
    simp (disch := first | assumption | omega | (simp (disch := omega) only [zr_n, zr_s]; assumption)) only [x187_106, x187_107_65, x187_110, x187_113, x187_116, x187_117, x187_118, x187_119, x187_120, x187_121, x187_124, x187_125, x187_126, x187_127, x187_130, x187_131, x187_132, x187_133, x187_134, x187_135, x187_138, x187_139, x187_140, x187_141, x187_144, x187_147, x187_148, ↓reduceIte, zkl_i, zkl_r, zkl_n, zkl_z, zkl_l, Option.toList_some, Option.toList_none, List.cons_append, List.nil_append, zcs_0, zcs_i, zcs_l, zcs_r, zle8, true_and, and_true, true_or, or_true, e6, nI_ltI, Nat.lt_irrefl, if_false]
    rfl) x1
  have p5 := fun x1 => fo_loop0 (R := fun k (s : Int64) => Rn (zG xl) 187 199 [.ref 65, .long s, .null, .int (nI k)] [] M6 J Q) (E := fun s => Rn (zG xl) 187 227 [.ref 65, .long s, .null, .int (nI 24)] [] M6 J Q) (f := fun m h => mx h (maD (pD I) m)) (n := 24) (fun k s hk => by
    have f0 := fun Q => m_corrected (xl := xl) (J := J) (Q := Q) (m := nI k) o2
    obtain ⟨j, hj, ej⟩ := Pk_mk (m := nI k) o2.1.1
    have f1 := fun Q => m_ones (xl := xl) (J := J) (I := M6) (Q := Q) (x := mkD (pD I) (nI k)) (by rw [ej]; exact (on_ok hj).1)
    rw [h187_199]
    simp (disch := first | assumption | omega | (simp (disch := omega) only [zr_n, zr_s]; assumption)) only [x187_200, x187_202, x187_205, x187_208, x187_209, x187_210, x187_211, x187_212, x187_215, x187_218, x187_219, x187_220, x187_221, x187_224, gc_65, ↓reduceIte, zkl_i, zkl_r, zkl_n, zkl_z, zkl_l, Option.toList_some, Option.toList_none, List.cons_append, List.nil_append, zcs_0, zcs_i, zcs_l, zcs_r, zle8, true_and, and_true, true_or, or_true, nlt_24, hk, if_true, f0, f1, na_1]
    rfl) (fun s => by
    rw [h187_199]
    simp (disch := first | assumption | omega | (simp (disch := omega) only [zr_n, zr_s]; assumption)) only [x187_200, x187_202, ↓reduceIte, zkl_i, zkl_r, zkl_n, zkl_z, zkl_l, Option.toList_some, Option.toList_none, List.cons_append, List.nil_append, zcs_0, zcs_i, zcs_l, zcs_r, zle8, true_and, and_true, true_or, or_true, nlt_24, Nat.lt_irrefl, if_false]) x1
  have p6 : Rn (zG xl) 187 193 [.ref 65, .long (dgR I (pD I) (dgL I (pD I) (dgS (pD I) (dgA I)))), .null, .int (nI (tn (pD I 28 3)))] [] M5 J Q = Rn (zG xl) 187 199 [.ref 65, .long (dgR I (pD I) (dgL I (pD I) (dgS (pD I) (dgA I)))), .null, .int (nI 0)] [] M6 J Q := by
    simp (disch := first | assumption | omega | (simp (disch := omega) only [zr_n, zr_s]; assumption)) only [x187_193, x187_194, x187_197, x187_198, gc_65, ↓reduceIte, zkl_i, zkl_r, zkl_n, zkl_z, zkl_l, Option.toList_some, Option.toList_none, List.cons_append, List.nil_append, zcs_0, zcs_i, zcs_l, zcs_r, zle8, true_and, and_true, true_or, or_true, o1]
    rfl
  have p7 : ∀ x0 : Int64, Rn (zG xl) 187 227 [.ref 65, .long x0, .null, .int (nI 24)] [] M6 J Q = Rn (zG xl) 187 279 [.ref 65, .long (mx (mx (mx (mx x0 (hD (pD I))) (wsD (pD I))) (urD (pD I))) (pdD (pD I))), .null, .int (nI 0)] [] M6 J Q := by
    intro x0
    simp (disch := first | assumption | omega | (simp (disch := omega) only [zr_n, zr_s]; assumption)) only [x187_227, x187_230, x187_231, x187_232, x187_233, x187_236, x187_237, x187_238, x187_239, x187_242, x187_243, x187_244, x187_245, x187_248, x187_249, x187_250, x187_251, x187_254, x187_255, x187_256, x187_257, x187_258, x187_261, x187_262, x187_263, x187_264, x187_267, x187_268, x187_269, x187_270, x187_271, x187_274, x187_275, x187_276, x187_277, x187_278, gc_65, ↓reduceIte, zkl_i, zkl_r, zkl_n, zkl_z, zkl_l, Option.toList_some, Option.toList_none, List.cons_append, List.nil_append, zcs_0, zcs_i, zcs_l, zcs_r, zle8, true_and, and_true, true_or, or_true, q1, q2, q3, q4, i0_0, i1_0, if_true, if_false]
    rfl
  have p8 : ∀ x0 : Int64, Rn (zG xl) 187 303 [.ref 65, .long x0, .null, .int (nI 3)] [] M7 J Q = Rn (zG xl) 187 317 [.ref 65, .long (mx x0 (ltF (fun v => hD (dl (pD I) v)) 24 1)), .null, .int (nI 0)] [] M8 J Q := by
    intro x0
    simp (disch := first | assumption | omega | (simp (disch := omega) only [zr_n, zr_s]; assumption)) only [x187_303, x187_306, x187_307, x187_308, x187_309, x187_312, x187_313, x187_314, x187_315, x187_316, gc_65, ↓reduceIte, zkl_i, zkl_r, zkl_n, zkl_z, zkl_l, Option.toList_some, Option.toList_none, List.cons_append, List.nil_append, zcs_0, zcs_i, zcs_l, zcs_r, zle8, true_and, and_true, true_or, or_true, t1]
    rfl
  have p9 : ∀ x0 : Int64, Rn (zG xl) 187 341 [.ref 65, .long x0, .null, .int (nI 3)] [] M9 J Q = Q (some (.long (mx (mx (mx (mx (mx x0 (hsA (tn (pD I 28 9)) (hsH (pD I)) (-1))) (hsA (tn (pD I 28 9)) (hsH (pD I)) 0)) (nvF I (pD I))) (dyF (pD I) 7 12 0)) (dyF (pD I) 7 12 1)))) M14 J := by
    intro x0
    simp (disch := first | assumption | omega | (simp (disch := omega) only [zr_n, zr_s]; assumption)) only [x187_341, x187_344, x187_345, x187_346, x187_347, x187_348, x187_351, x187_352, x187_353, x187_354, x187_357, x187_358, x187_359, x187_360, x187_361, x187_364, x187_365, x187_366, x187_367, x187_370, x187_371, x187_372, x187_373, x187_376, x187_377, x187_378, x187_379, x187_382, x187_383, x187_384, x187_385, x187_387, x187_389, x187_390, x187_393, x187_394, x187_395, x187_396, x187_399, x187_400, x187_401, x187_402, x187_404, x187_406, x187_407, x187_410, x187_411, x187_412, gc_65, ↓reduceIte, zkl_i, zkl_r, zkl_n, zkl_z, zkl_l, Option.toList_some, Option.toList_none, List.cons_append, List.nil_append, zcs_0, zcs_i, zcs_l, zcs_r, zle8, true_and, and_true, true_or, or_true, v1, w1, x1, y1, z1]
    rfl
  rw [p1, a1 Q, c1 Q]
  refine p2.trans ?_
  rw [p3, p4]
  refine (g1 Q).trans ?_
  refine (i1 Q).trans ?_
  refine p6.trans ?_
  rw [p5, p7]
  refine (s1 Q).trans ?_
  rw [p8]
  refine (u1 Q).trans ?_
  rw [p9]
  rfl
theorem k_digest (h : Inv I) : KL xl 74 187 [.ref 0, .null, .null, .null] [.ref 65, .null, .null, .null] I J := by
  obtain ⟨X, JX, x1, x2⟩ := dg_digest (xl := xl) (J := J) h.1
  exact mkL h x1 x2 (fun M J hM => m_digest h.1 hM)
end
