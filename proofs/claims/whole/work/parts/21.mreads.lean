/-! ===== the reference: reading the texts ===== -/
theorem nlt_2 {k : Nat} (h : k < 2 ^ 31) : (nI k < 2) = (k < 2) := propext (nI_ltI h (by decide))
theorem nd3z : (¬ (3 : Int32) = 0) = True := by decide
/-- whether a byte is taken (1) or not (0) -/
def mft (g : Int32 → Int32 → Int32) (f : Nat → Int32) (o : Nat) (k : Nat) : Int32 := if g (nI (k % 3)) (f (o + k)) = -9 then 0 else 1
def mfp (g : Int32 → Int32 → Int32) (f : Nat → Int32) (o l : Nat) : Int32 := sp_fl (mft g f o) (sp_fe l) l 0
def mrow (g : Int32 → Int32 → Int32) (f : Nat → Int32) (o k : Nat) (h : Nat → Int32) : Prop := ∀ j, j < k → j % 3 < 2 → h (2 * (j / 3) + j % 3) = g (nI (j % 3)) (f (o + j))
theorem mrow_upd {g : Int32 → Int32 → Int32} {f h : Nat → Int32} {o k : Nat} (hk : k % 3 < 2) (hr : mrow g f o k h) : mrow g f o (k + 1) (upd h (2 * (k / 3) + k % 3) (g (nI (k % 3)) (f (o + k)))) := by
  intro j hj hj3
  by_cases e : j = k
  · subst e; rw [upd_s]
  · rw [upd_n (by omega)]
    exact hr j (by omega) hj3
theorem mrow_2 {g : Int32 → Int32 → Int32} {f h : Nat → Int32} {o k : Nat} (hk : k % 3 = 2) (hr : mrow g f o k h) : mrow g f o (k + 1) h := by
  intro j hj hj3
  exact hr j (by omega) hj3
section
variable {xl : Nat} {I : zI} {J : zJ}
theorem m_readsLines {l : Nat} (hl : I 71 0 = nI l) (hM : l ≤ 29) : ∃ h : Nat → Int32, (∀ Q : zQ, Rn (zG xl) 119 0 [.ref 65, .null, .null, .null, .null] [] I J Q = Q (some (.int (mfp (lnO 108 100 116) (I 70) 0 l))) (zr (zr I 72 h) 65 (upd (I 65) 7 (nI (if mfp (lnO 108 100 116) (I 70) 0 l = -1 then (l + 1) / 3 else 0)))) J) ∧ (mfp (lnO 108 100 116) (I 70) 0 l = -1 → mrow (lnO 108 100 116) (I 70) 0 l h) := by
  have key : ∀ (d k : Nat) (f : Nat → Int32) (v3 v4 : Value), k + d = l → mrow (lnO 108 100 116) (I 70) 0 k f → ∃ h : Nat → Int32, (∀ Q : zQ, Rn (zG xl) 119 14 [.ref 65, .int (nI l), .int (nI k), v3, v4] [] (zr (zr I 72 f) 65 (upd (I 65) 7 (nI ((k + 1) / 3)))) J Q = Q (some (.int (sp_fl (mft (lnO 108 100 116) (I 70) 0) (sp_fe l) d k))) (zr (zr I 72 h) 65 (upd (I 65) 7 (nI (if sp_fl (mft (lnO 108 100 116) (I 70) 0) (sp_fe l) d k = -1 then (l + 1) / 3 else 0)))) J) ∧ (sp_fl (mft (lnO 108 100 116) (I 70) 0) (sp_fe l) d k = -1 → mrow (lnO 108 100 116) (I 70) 0 l h) := by
    intro d
    induction d with
    | zero =>
      intro k f v3 v4 hk hr
      have hk : k = l := hk
      subst hk
      refine ⟨f, fun Q => ?_, fun _ => hr⟩
      rw [h119_14, sp_fl, sp_fe]
      by_cases h0 : k = 0
      · subst h0
        simp (disch := first | assumption | omega | (simp (disch := omega) only [zr_n, zr_s]; assumption)) only [x119_0, x119_1, x119_2_65, x119_5, x119_6_65, x119_9, x119_10, x119_11, x119_12, x119_13, x119_15, x119_16, x119_19, x119_20, x119_21, x119_22, x119_23, x119_24, x119_25_65, x119_28, x119_29, x119_30, x119_33, x119_35, x119_37, x119_39, x119_42, x119_43, x119_44_65, x119_47, x119_48, x119_49, x119_50, x119_51, x119_54, x119_55_65, x119_58, x119_59, x119_60, x119_61, x119_62, x119_63, x119_64, x119_65, x119_67, x119_68, x119_69i, x119_69r, x119_70_65, x119_73, x119_74, x119_75, x119_78, x119_79, x119_82, x119_83, x119_84_65, x119_87, x119_90, x119_93, x119_94, x119_97, x119_98, x119_99, x119_100, x119_101, x119_104, x119_105, x119_106_65, x119_109, x119_110, x119_111, x119_112, ↓reduceIte, zkl_i, zkl_r, zkl_n, zkl_z, zkl_l, Option.toList_some, Option.toList_none, List.cons_append, List.nil_append, zcs_0, zcs_i, zcs_l, zcs_r, zle8, true_and, and_true, true_or, or_true, nI_ltI, Nat.lt_irrefl, if_false, nI_0, if_true]
        rfl
      · have hp : (0 : Int32) < nI k := by
          rw [show (0 : Int32) = nI 0 from rfl, nI_ltI (by omega) (by omega)]
          omega
        by_cases h2 : k % 3 = 2
        · simp (disch := first | assumption | omega | (simp (disch := omega) only [zr_n, zr_s]; assumption)) only [x119_0, x119_1, x119_2_65, x119_5, x119_6_65, x119_9, x119_10, x119_11, x119_12, x119_13, x119_15, x119_16, x119_19, x119_20, x119_21, x119_22, x119_23, x119_24, x119_25_65, x119_28, x119_29, x119_30, x119_33, x119_35, x119_37, x119_39, x119_42, x119_43, x119_44_65, x119_47, x119_48, x119_49, x119_50, x119_51, x119_54, x119_55_65, x119_58, x119_59, x119_60, x119_61, x119_62, x119_63, x119_64, x119_65, x119_67, x119_68, x119_69i, x119_69r, x119_70_65, x119_73, x119_74, x119_75, x119_78, x119_79, x119_82, x119_83, x119_84_65, x119_87, x119_90, x119_93, x119_94, x119_97, x119_98, x119_99, x119_100, x119_101, x119_104, x119_105, x119_106_65, x119_109, x119_110, x119_111, x119_112, ↓reduceIte, zkl_i, zkl_r, zkl_n, zkl_z, zkl_l, Option.toList_some, Option.toList_none, List.cons_append, List.nil_append, zcs_0, zcs_i, zcs_l, zcs_r, zle8, true_and, and_true, true_or, or_true, nI_ltI, Nat.lt_irrefl, if_false, hp, h0, h2, if_true, nr_3, nd3z, ne_2]
        · simp (disch := first | assumption | omega | (simp (disch := omega) only [zr_n, zr_s]; assumption)) only [x119_0, x119_1, x119_2_65, x119_5, x119_6_65, x119_9, x119_10, x119_11, x119_12, x119_13, x119_15, x119_16, x119_19, x119_20, x119_21, x119_22, x119_23, x119_24, x119_25_65, x119_28, x119_29, x119_30, x119_33, x119_35, x119_37, x119_39, x119_42, x119_43, x119_44_65, x119_47, x119_48, x119_49, x119_50, x119_51, x119_54, x119_55_65, x119_58, x119_59, x119_60, x119_61, x119_62, x119_63, x119_64, x119_65, x119_67, x119_68, x119_69i, x119_69r, x119_70_65, x119_73, x119_74, x119_75, x119_78, x119_79, x119_82, x119_83, x119_84_65, x119_87, x119_90, x119_93, x119_94, x119_97, x119_98, x119_99, x119_100, x119_101, x119_104, x119_105, x119_106_65, x119_109, x119_110, x119_111, x119_112, ↓reduceIte, zkl_i, zkl_r, zkl_n, zkl_z, zkl_l, Option.toList_some, Option.toList_none, List.cons_append, List.nil_append, zcs_0, zcs_i, zcs_l, zcs_r, zle8, true_and, and_true, true_or, or_true, nI_ltI, Nat.lt_irrefl, if_false, hp, h0, h2, if_true, nr_3, nd3z, ne_2, zr_s, zr_zr, upd_upd, ne_m1, nI_0]
    | succ d ih =>
      intro k f v3 v4 hkd hr
      have hk : k < l := by omega
      by_cases hv : (lnO 108 100 116) (nI (k % 3)) (I 70 (0 + k)) = -9
      · refine ⟨f, fun Q => ?_, fun z => ?_⟩
        · rw [h119_14, sp_fl, mft, if_pos hv, if_pos rfl]
          have hv2 := hv
          try simp only [Nat.zero_add] at hv2
          simp (disch := first | assumption | omega | (simp (disch := omega) only [zr_n, zr_s]; assumption)) only [x119_0, x119_1, x119_2_65, x119_5, x119_6_65, x119_9, x119_10, x119_11, x119_12, x119_13, x119_15, x119_16, x119_19, x119_20, x119_21, x119_22, x119_23, x119_24, x119_25_65, x119_28, x119_29, x119_30, x119_33, x119_35, x119_37, x119_39, x119_42, x119_43, x119_44_65, x119_47, x119_48, x119_49, x119_50, x119_51, x119_54, x119_55_65, x119_58, x119_59, x119_60, x119_61, x119_62, x119_63, x119_64, x119_65, x119_67, x119_68, x119_69i, x119_69r, x119_70_65, x119_73, x119_74, x119_75, x119_78, x119_79, x119_82, x119_83, x119_84_65, x119_87, x119_90, x119_93, x119_94, x119_97, x119_98, x119_99, x119_100, x119_101, x119_104, x119_105, x119_106_65, x119_109, x119_110, x119_111, x119_112, bi_70, bs_70, ↓reduceIte, zkl_i, zkl_r, zkl_n, zkl_z, zkl_l, Option.toList_some, Option.toList_none, List.cons_append, List.nil_append, zcs_0, zcs_i, zcs_l, zcs_r, zle8, true_and, and_true, true_or, or_true, nI_ltI, hk, if_true, nr_3, nd3z, zr_n, zr_s, zr_zr, upd_upd, ixN_nI, nI_clamp, nl_48, nl_96, m_lineOf, hv2, ne_m1, if_false, nI_0]
        · rw [sp_fl, mft, if_pos hv, if_pos rfl, ne_m1 (by omega)] at z
          exact z.elim
      · have e0 : sp_fl (mft (lnO 108 100 116) (I 70) 0) (sp_fe l) (d + 1) k = sp_fl (mft (lnO 108 100 116) (I 70) 0) (sp_fe l) d (k + 1) := by
          rw [sp_fl, mft, if_neg hv, if_neg (by decide)]
        rw [e0]
        have hv2 := hv
        try simp only [Nat.zero_add] at hv2
        have hk3 : k % 3 = 0 ∨ k % 3 = 1 ∨ k % 3 = 2 := by omega
        rcases hk3 with hk3 | hk3 | hk3
        · have e1 : (k % 3 < 2) = True := eq_true (by omega)
          have e2 : (k % 3 = 1) = False := eq_false (by omega)
          obtain ⟨h, hq, hp⟩ := ih (k + 1) (upd f (2 * (k / 3) + k % 3) ((lnO 108 100 116) (nI (k % 3)) (I 70 (0 + k)))) (.int (nI (k % 3))) (.int ((lnO 108 100 116) (nI (k % 3)) (I 70 (0 + k)))) (by omega) (mrow_upd (by omega) hr)
          refine ⟨h, fun Q => ?_, hp⟩
          rw [← hq Q, h119_14]
          simp (disch := first | assumption | omega | (simp (disch := omega) only [zr_n, zr_s]; assumption)) only [x119_15, x119_16, x119_19, x119_20, x119_21, x119_22, ↓reduceIte, zkl_i, zkl_r, zkl_n, zkl_z, zkl_l, Option.toList_some, Option.toList_none, List.cons_append, List.nil_append, zcs_0, zcs_i, zcs_l, zcs_r, zle8, true_and, and_true, true_or, or_true, nI_ltI, hk, if_true, nr_3, nd3z]
          simp (disch := first | assumption | omega | (simp (disch := omega) only [zr_n, zr_s]; assumption)) only [x119_23, x119_24, x119_25_65, x119_28, x119_29, x119_30, x119_33, x119_35, x119_37, x119_39, x119_42, x119_43, x119_44_65, x119_47, x119_48, x119_49, x119_50, x119_51, x119_54, x119_55_65, x119_58, x119_59, x119_60, x119_61, x119_62, x119_63, x119_64, x119_65, x119_67, x119_68, x119_69i, x119_69r, x119_70_65, x119_73, x119_74, x119_75, x119_78, x119_79, x119_82, x119_83, x119_84_65, x119_87, x119_90, x119_93, x119_94, x119_97, x119_98, x119_99, x119_100, x119_101, x119_104, x119_105, x119_106_65, x119_109, x119_110, x119_111, x119_112, bi_70, bs_70, bi_72, bs_72, ↓reduceIte, zkl_i, zkl_r, zkl_n, zkl_z, zkl_l, Option.toList_some, Option.toList_none, List.cons_append, List.nil_append, zcs_0, zcs_i, zcs_l, zcs_r, zle8, true_and, and_true, true_or, or_true, nd3z, nd_3, nm_2, nI_add, zr_n, zr_s, upd_s, upd_upd, ixN_nI, nI_clamp, nl_48, nl_96, m_lineOf, hv2, nlt_2, ne_1, e1, e2, if_false, na_1, Nat.zero_add, Int32.add_zero]
          rw [zr_c (c := 65) (d := 72) (by decide), zr_zr, zr_zr, show (k + 1 + 1) / 3 = (k + 1) / 3 by omega]
        · have e1 : (k % 3 < 2) = True := eq_true (by omega)
          have e2 : (k % 3 = 1) = True := eq_true (by omega)
          obtain ⟨h, hq, hp⟩ := ih (k + 1) (upd f (2 * (k / 3) + k % 3) ((lnO 108 100 116) (nI (k % 3)) (I 70 (0 + k)))) (.int (nI (k % 3))) (.int ((lnO 108 100 116) (nI (k % 3)) (I 70 (0 + k)))) (by omega) (mrow_upd (by omega) hr)
          refine ⟨h, fun Q => ?_, hp⟩
          rw [← hq Q, h119_14]
          simp (disch := first | assumption | omega | (simp (disch := omega) only [zr_n, zr_s]; assumption)) only [x119_15, x119_16, x119_19, x119_20, x119_21, x119_22, ↓reduceIte, zkl_i, zkl_r, zkl_n, zkl_z, zkl_l, Option.toList_some, Option.toList_none, List.cons_append, List.nil_append, zcs_0, zcs_i, zcs_l, zcs_r, zle8, true_and, and_true, true_or, or_true, nI_ltI, hk, if_true, nr_3, nd3z]
          simp (disch := first | assumption | omega | (simp (disch := omega) only [zr_n, zr_s]; assumption)) only [x119_23, x119_24, x119_25_65, x119_28, x119_29, x119_30, x119_33, x119_35, x119_37, x119_39, x119_42, x119_43, x119_44_65, x119_47, x119_48, x119_49, x119_50, x119_51, x119_54, x119_55_65, x119_58, x119_59, x119_60, x119_61, x119_62, x119_63, x119_64, x119_65, x119_67, x119_68, x119_69i, x119_69r, x119_70_65, x119_73, x119_74, x119_75, x119_78, x119_79, x119_82, x119_83, x119_84_65, x119_87, x119_90, x119_93, x119_94, x119_97, x119_98, x119_99, x119_100, x119_101, x119_104, x119_105, x119_106_65, x119_109, x119_110, x119_111, x119_112, bi_70, bs_70, bi_72, bs_72, ↓reduceIte, zkl_i, zkl_r, zkl_n, zkl_z, zkl_l, Option.toList_some, Option.toList_none, List.cons_append, List.nil_append, zcs_0, zcs_i, zcs_l, zcs_r, zle8, true_and, and_true, true_or, or_true, nd3z, nd_3, nm_2, nI_add, zr_n, zr_s, upd_s, upd_upd, ixN_nI, nI_clamp, nl_48, nl_96, m_lineOf, hv2, nlt_2, ne_1, e1, e2, if_false, na_1, Nat.zero_add]
          rw [zr_c (c := 65) (d := 72) (by decide), zr_zr, zr_zr, show (k + 1 + 1) / 3 = (k + 1) / 3 + 1 by omega]
        · have e1 : (k % 3 < 2) = False := eq_false (by omega)
          have e2 : (k % 3 = 1) = False := eq_false (by omega)
          obtain ⟨h, hq, hp⟩ := ih (k + 1) f (.int (nI (k % 3))) (.int ((lnO 108 100 116) (nI (k % 3)) (I 70 (0 + k)))) (by omega) (mrow_2 hk3 hr)
          refine ⟨h, fun Q => ?_, hp⟩
          rw [← hq Q, h119_14]
          simp (disch := first | assumption | omega | (simp (disch := omega) only [zr_n, zr_s]; assumption)) only [x119_15, x119_16, x119_19, x119_20, x119_21, x119_22, ↓reduceIte, zkl_i, zkl_r, zkl_n, zkl_z, zkl_l, Option.toList_some, Option.toList_none, List.cons_append, List.nil_append, zcs_0, zcs_i, zcs_l, zcs_r, zle8, true_and, and_true, true_or, or_true, nI_ltI, hk, if_true, nr_3, nd3z]
          simp (disch := first | assumption | omega | (simp (disch := omega) only [zr_n, zr_s]; assumption)) only [x119_23, x119_24, x119_25_65, x119_28, x119_29, x119_30, x119_33, x119_35, x119_37, x119_39, x119_42, x119_43, x119_44_65, x119_47, x119_48, x119_49, x119_50, x119_51, x119_54, x119_55_65, x119_58, x119_59, x119_60, x119_61, x119_62, x119_63, x119_64, x119_65, x119_67, x119_68, x119_69i, x119_69r, x119_70_65, x119_73, x119_74, x119_75, x119_78, x119_79, x119_82, x119_83, x119_84_65, x119_87, x119_90, x119_93, x119_94, x119_97, x119_98, x119_99, x119_100, x119_101, x119_104, x119_105, x119_106_65, x119_109, x119_110, x119_111, x119_112, bi_70, bs_70, bi_72, bs_72, ↓reduceIte, zkl_i, zkl_r, zkl_n, zkl_z, zkl_l, Option.toList_some, Option.toList_none, List.cons_append, List.nil_append, zcs_0, zcs_i, zcs_l, zcs_r, zle8, true_and, and_true, true_or, or_true, nd3z, nd_3, nm_2, nI_add, zr_n, zr_s, zr_zr, upd_s, upd_upd, ixN_nI, nI_clamp, nl_48, nl_96, m_lineOf, hv2, nlt_2, ne_1, e1, e2, if_false, na_1, Nat.zero_add, Int32.add_zero]
          rw [show (k + 1 + 1) / 3 = (k + 1) / 3 by omega]
  obtain ⟨h, hq, hp⟩ := key l 0 (I 72) .null .null (Nat.zero_add l) (fun j hj => by omega)
  refine ⟨h, fun Q => ?_, hp⟩
  rw [mfp, ← hq Q, zr_id]
  have ht : (1 : Int32).toNatClampNeg = 1 ∧ (2 : Int32).toNatClampNeg = 2 := by decide
  have hi : ixN (0 : Int32) 3 ∧ ixN (1 : Int32) 3 ∧ ixN (2 : Int32) 3 := by unfold ixN; decide
  simp (disch := first | assumption | omega | (simp (disch := omega) only [zr_n, zr_s]; assumption)) only [x119_0, x119_1, x119_2_65, x119_5, x119_6_65, x119_9, x119_10, x119_11, x119_12, x119_13, x119_15, x119_16, x119_19, x119_20, x119_21, x119_22, x119_23, x119_24, x119_25_65, x119_28, x119_29, x119_30, x119_33, x119_35, x119_37, x119_39, x119_42, x119_43, x119_44_65, x119_47, x119_48, x119_49, x119_50, x119_51, x119_54, x119_55_65, x119_58, x119_59, x119_60, x119_61, x119_62, x119_63, x119_64, x119_65, x119_67, x119_68, x119_69i, x119_69r, x119_70_65, x119_73, x119_74, x119_75, x119_78, x119_79, x119_82, x119_83, x119_84_65, x119_87, x119_90, x119_93, x119_94, x119_97, x119_98, x119_99, x119_100, x119_101, x119_104, x119_105, x119_106_65, x119_109, x119_110, x119_111, x119_112, bi_71, bs_71, ↓reduceIte, zkl_i, zkl_r, zkl_n, zkl_z, zkl_l, Option.toList_some, Option.toList_none, List.cons_append, List.nil_append, zcs_0, zcs_i, zcs_l, zcs_r, zle8, true_and, and_true, true_or, or_true, zr_n, hi, t0, ht, hl]
  rfl
theorem m_readsReaders {l : Nat} (hl : I 71 1 = nI l) (hM : l ≤ 17) : ∃ h : Nat → Int32, (∀ Q : zQ, Rn (zG xl) 121 0 [.ref 65, .null, .null, .null, .null] [] I J Q = Q (some (.int (mfp (lnO 97 113 111) (I 70) 48 l))) (zr (zr I 73 h) 65 (upd (I 65) 9 (nI (if mfp (lnO 97 113 111) (I 70) 48 l = -1 then (l + 1) / 3 else 0)))) J) ∧ (mfp (lnO 97 113 111) (I 70) 48 l = -1 → mrow (lnO 97 113 111) (I 70) 48 l h) := by
  have key : ∀ (d k : Nat) (f : Nat → Int32) (v3 v4 : Value), k + d = l → mrow (lnO 97 113 111) (I 70) 48 k f → ∃ h : Nat → Int32, (∀ Q : zQ, Rn (zG xl) 121 14 [.ref 65, .int (nI l), .int (nI k), v3, v4] [] (zr (zr I 73 f) 65 (upd (I 65) 9 (nI ((k + 1) / 3)))) J Q = Q (some (.int (sp_fl (mft (lnO 97 113 111) (I 70) 48) (sp_fe l) d k))) (zr (zr I 73 h) 65 (upd (I 65) 9 (nI (if sp_fl (mft (lnO 97 113 111) (I 70) 48) (sp_fe l) d k = -1 then (l + 1) / 3 else 0)))) J) ∧ (sp_fl (mft (lnO 97 113 111) (I 70) 48) (sp_fe l) d k = -1 → mrow (lnO 97 113 111) (I 70) 48 l h) := by
    intro d
    induction d with
    | zero =>
      intro k f v3 v4 hk hr
      have hk : k = l := hk
      subst hk
      refine ⟨f, fun Q => ?_, fun _ => hr⟩
      rw [h121_14, sp_fl, sp_fe]
      by_cases h0 : k = 0
      · subst h0
        simp (disch := first | assumption | omega | (simp (disch := omega) only [zr_n, zr_s]; assumption)) only [x121_0, x121_1, x121_2_65, x121_5, x121_6_65, x121_9, x121_10, x121_11, x121_12, x121_13, x121_15, x121_16, x121_19, x121_20, x121_21, x121_22, x121_23, x121_24, x121_25_65, x121_28, x121_30, x121_31, x121_32, x121_33, x121_36, x121_38, x121_40, x121_42, x121_45, x121_46, x121_47_65, x121_50, x121_51, x121_52, x121_53, x121_54, x121_57, x121_58_65, x121_61, x121_62, x121_63, x121_64, x121_65, x121_66, x121_67, x121_68, x121_70, x121_71, x121_72i, x121_72r, x121_73_65, x121_76, x121_77, x121_78, x121_81, x121_82, x121_85, x121_86, x121_87_65, x121_90, x121_93, x121_96, x121_97, x121_100, x121_101, x121_102, x121_103, x121_104, x121_107, x121_108, x121_109_65, x121_112, x121_113, x121_114, x121_115, ↓reduceIte, zkl_i, zkl_r, zkl_n, zkl_z, zkl_l, Option.toList_some, Option.toList_none, List.cons_append, List.nil_append, zcs_0, zcs_i, zcs_l, zcs_r, zle8, true_and, and_true, true_or, or_true, nI_ltI, Nat.lt_irrefl, if_false, nI_0, if_true]
        rfl
      · have hp : (0 : Int32) < nI k := by
          rw [show (0 : Int32) = nI 0 from rfl, nI_ltI (by omega) (by omega)]
          omega
        by_cases h2 : k % 3 = 2
        · simp (disch := first | assumption | omega | (simp (disch := omega) only [zr_n, zr_s]; assumption)) only [x121_0, x121_1, x121_2_65, x121_5, x121_6_65, x121_9, x121_10, x121_11, x121_12, x121_13, x121_15, x121_16, x121_19, x121_20, x121_21, x121_22, x121_23, x121_24, x121_25_65, x121_28, x121_30, x121_31, x121_32, x121_33, x121_36, x121_38, x121_40, x121_42, x121_45, x121_46, x121_47_65, x121_50, x121_51, x121_52, x121_53, x121_54, x121_57, x121_58_65, x121_61, x121_62, x121_63, x121_64, x121_65, x121_66, x121_67, x121_68, x121_70, x121_71, x121_72i, x121_72r, x121_73_65, x121_76, x121_77, x121_78, x121_81, x121_82, x121_85, x121_86, x121_87_65, x121_90, x121_93, x121_96, x121_97, x121_100, x121_101, x121_102, x121_103, x121_104, x121_107, x121_108, x121_109_65, x121_112, x121_113, x121_114, x121_115, ↓reduceIte, zkl_i, zkl_r, zkl_n, zkl_z, zkl_l, Option.toList_some, Option.toList_none, List.cons_append, List.nil_append, zcs_0, zcs_i, zcs_l, zcs_r, zle8, true_and, and_true, true_or, or_true, nI_ltI, Nat.lt_irrefl, if_false, hp, h0, h2, if_true, nr_3, nd3z, ne_2]
        · simp (disch := first | assumption | omega | (simp (disch := omega) only [zr_n, zr_s]; assumption)) only [x121_0, x121_1, x121_2_65, x121_5, x121_6_65, x121_9, x121_10, x121_11, x121_12, x121_13, x121_15, x121_16, x121_19, x121_20, x121_21, x121_22, x121_23, x121_24, x121_25_65, x121_28, x121_30, x121_31, x121_32, x121_33, x121_36, x121_38, x121_40, x121_42, x121_45, x121_46, x121_47_65, x121_50, x121_51, x121_52, x121_53, x121_54, x121_57, x121_58_65, x121_61, x121_62, x121_63, x121_64, x121_65, x121_66, x121_67, x121_68, x121_70, x121_71, x121_72i, x121_72r, x121_73_65, x121_76, x121_77, x121_78, x121_81, x121_82, x121_85, x121_86, x121_87_65, x121_90, x121_93, x121_96, x121_97, x121_100, x121_101, x121_102, x121_103, x121_104, x121_107, x121_108, x121_109_65, x121_112, x121_113, x121_114, x121_115, ↓reduceIte, zkl_i, zkl_r, zkl_n, zkl_z, zkl_l, Option.toList_some, Option.toList_none, List.cons_append, List.nil_append, zcs_0, zcs_i, zcs_l, zcs_r, zle8, true_and, and_true, true_or, or_true, nI_ltI, Nat.lt_irrefl, if_false, hp, h0, h2, if_true, nr_3, nd3z, ne_2, zr_s, zr_zr, upd_upd, ne_m1, nI_0]
    | succ d ih =>
      intro k f v3 v4 hkd hr
      have hk : k < l := by omega
      by_cases hv : (lnO 97 113 111) (nI (k % 3)) (I 70 (48 + k)) = -9
      · refine ⟨f, fun Q => ?_, fun z => ?_⟩
        · rw [h121_14, sp_fl, mft, if_pos hv, if_pos rfl]
          have hv2 := hv
          try simp only [Nat.zero_add] at hv2
          simp (disch := first | assumption | omega | (simp (disch := omega) only [zr_n, zr_s]; assumption)) only [x121_0, x121_1, x121_2_65, x121_5, x121_6_65, x121_9, x121_10, x121_11, x121_12, x121_13, x121_15, x121_16, x121_19, x121_20, x121_21, x121_22, x121_23, x121_24, x121_25_65, x121_28, x121_30, x121_31, x121_32, x121_33, x121_36, x121_38, x121_40, x121_42, x121_45, x121_46, x121_47_65, x121_50, x121_51, x121_52, x121_53, x121_54, x121_57, x121_58_65, x121_61, x121_62, x121_63, x121_64, x121_65, x121_66, x121_67, x121_68, x121_70, x121_71, x121_72i, x121_72r, x121_73_65, x121_76, x121_77, x121_78, x121_81, x121_82, x121_85, x121_86, x121_87_65, x121_90, x121_93, x121_96, x121_97, x121_100, x121_101, x121_102, x121_103, x121_104, x121_107, x121_108, x121_109_65, x121_112, x121_113, x121_114, x121_115, bi_70, bs_70, ↓reduceIte, zkl_i, zkl_r, zkl_n, zkl_z, zkl_l, Option.toList_some, Option.toList_none, List.cons_append, List.nil_append, zcs_0, zcs_i, zcs_l, zcs_r, zle8, true_and, and_true, true_or, or_true, nI_ltI, hk, if_true, nr_3, nd3z, zr_n, zr_s, zr_zr, upd_upd, ixN_nI, nI_clamp, nl_48, nl_96, m_readerOf, hv2, ne_m1, if_false, nI_0]
        · rw [sp_fl, mft, if_pos hv, if_pos rfl, ne_m1 (by omega)] at z
          exact z.elim
      · have e0 : sp_fl (mft (lnO 97 113 111) (I 70) 48) (sp_fe l) (d + 1) k = sp_fl (mft (lnO 97 113 111) (I 70) 48) (sp_fe l) d (k + 1) := by
          rw [sp_fl, mft, if_neg hv, if_neg (by decide)]
        rw [e0]
        have hv2 := hv
        try simp only [Nat.zero_add] at hv2
        have hk3 : k % 3 = 0 ∨ k % 3 = 1 ∨ k % 3 = 2 := by omega
        rcases hk3 with hk3 | hk3 | hk3
        · have e1 : (k % 3 < 2) = True := eq_true (by omega)
          have e2 : (k % 3 = 1) = False := eq_false (by omega)
          obtain ⟨h, hq, hp⟩ := ih (k + 1) (upd f (2 * (k / 3) + k % 3) ((lnO 97 113 111) (nI (k % 3)) (I 70 (48 + k)))) (.int (nI (k % 3))) (.int ((lnO 97 113 111) (nI (k % 3)) (I 70 (48 + k)))) (by omega) (mrow_upd (by omega) hr)
          refine ⟨h, fun Q => ?_, hp⟩
          rw [← hq Q, h121_14]
          simp (disch := first | assumption | omega | (simp (disch := omega) only [zr_n, zr_s]; assumption)) only [x121_15, x121_16, x121_19, x121_20, x121_21, x121_22, ↓reduceIte, zkl_i, zkl_r, zkl_n, zkl_z, zkl_l, Option.toList_some, Option.toList_none, List.cons_append, List.nil_append, zcs_0, zcs_i, zcs_l, zcs_r, zle8, true_and, and_true, true_or, or_true, nI_ltI, hk, if_true, nr_3, nd3z]
          simp (disch := first | assumption | omega | (simp (disch := omega) only [zr_n, zr_s]; assumption)) only [x121_23, x121_24, x121_25_65, x121_28, x121_30, x121_31, x121_32, x121_33, x121_36, x121_38, x121_40, x121_42, x121_45, x121_46, x121_47_65, x121_50, x121_51, x121_52, x121_53, x121_54, x121_57, x121_58_65, x121_61, x121_62, x121_63, x121_64, x121_65, x121_66, x121_67, x121_68, x121_70, x121_71, x121_72i, x121_72r, x121_73_65, x121_76, x121_77, x121_78, x121_81, x121_82, x121_85, x121_86, x121_87_65, x121_90, x121_93, x121_96, x121_97, x121_100, x121_101, x121_102, x121_103, x121_104, x121_107, x121_108, x121_109_65, x121_112, x121_113, x121_114, x121_115, bi_70, bs_70, bi_73, bs_73, ↓reduceIte, zkl_i, zkl_r, zkl_n, zkl_z, zkl_l, Option.toList_some, Option.toList_none, List.cons_append, List.nil_append, zcs_0, zcs_i, zcs_l, zcs_r, zle8, true_and, and_true, true_or, or_true, nd3z, nd_3, nm_2, nI_add, zr_n, zr_s, upd_s, upd_upd, ixN_nI, nI_clamp, nl_48, nl_96, m_readerOf, hv2, nlt_2, ne_1, e1, e2, if_false, na_1, Nat.zero_add, Int32.add_zero]
          rw [zr_c (c := 65) (d := 73) (by decide), zr_zr, zr_zr, show (k + 1 + 1) / 3 = (k + 1) / 3 by omega]
        · have e1 : (k % 3 < 2) = True := eq_true (by omega)
          have e2 : (k % 3 = 1) = True := eq_true (by omega)
          obtain ⟨h, hq, hp⟩ := ih (k + 1) (upd f (2 * (k / 3) + k % 3) ((lnO 97 113 111) (nI (k % 3)) (I 70 (48 + k)))) (.int (nI (k % 3))) (.int ((lnO 97 113 111) (nI (k % 3)) (I 70 (48 + k)))) (by omega) (mrow_upd (by omega) hr)
          refine ⟨h, fun Q => ?_, hp⟩
          rw [← hq Q, h121_14]
          simp (disch := first | assumption | omega | (simp (disch := omega) only [zr_n, zr_s]; assumption)) only [x121_15, x121_16, x121_19, x121_20, x121_21, x121_22, ↓reduceIte, zkl_i, zkl_r, zkl_n, zkl_z, zkl_l, Option.toList_some, Option.toList_none, List.cons_append, List.nil_append, zcs_0, zcs_i, zcs_l, zcs_r, zle8, true_and, and_true, true_or, or_true, nI_ltI, hk, if_true, nr_3, nd3z]
          simp (disch := first | assumption | omega | (simp (disch := omega) only [zr_n, zr_s]; assumption)) only [x121_23, x121_24, x121_25_65, x121_28, x121_30, x121_31, x121_32, x121_33, x121_36, x121_38, x121_40, x121_42, x121_45, x121_46, x121_47_65, x121_50, x121_51, x121_52, x121_53, x121_54, x121_57, x121_58_65, x121_61, x121_62, x121_63, x121_64, x121_65, x121_66, x121_67, x121_68, x121_70, x121_71, x121_72i, x121_72r, x121_73_65, x121_76, x121_77, x121_78, x121_81, x121_82, x121_85, x121_86, x121_87_65, x121_90, x121_93, x121_96, x121_97, x121_100, x121_101, x121_102, x121_103, x121_104, x121_107, x121_108, x121_109_65, x121_112, x121_113, x121_114, x121_115, bi_70, bs_70, bi_73, bs_73, ↓reduceIte, zkl_i, zkl_r, zkl_n, zkl_z, zkl_l, Option.toList_some, Option.toList_none, List.cons_append, List.nil_append, zcs_0, zcs_i, zcs_l, zcs_r, zle8, true_and, and_true, true_or, or_true, nd3z, nd_3, nm_2, nI_add, zr_n, zr_s, upd_s, upd_upd, ixN_nI, nI_clamp, nl_48, nl_96, m_readerOf, hv2, nlt_2, ne_1, e1, e2, if_false, na_1, Nat.zero_add]
          rw [zr_c (c := 65) (d := 73) (by decide), zr_zr, zr_zr, show (k + 1 + 1) / 3 = (k + 1) / 3 + 1 by omega]
        · have e1 : (k % 3 < 2) = False := eq_false (by omega)
          have e2 : (k % 3 = 1) = False := eq_false (by omega)
          obtain ⟨h, hq, hp⟩ := ih (k + 1) f (.int (nI (k % 3))) (.int ((lnO 97 113 111) (nI (k % 3)) (I 70 (48 + k)))) (by omega) (mrow_2 hk3 hr)
          refine ⟨h, fun Q => ?_, hp⟩
          rw [← hq Q, h121_14]
          simp (disch := first | assumption | omega | (simp (disch := omega) only [zr_n, zr_s]; assumption)) only [x121_15, x121_16, x121_19, x121_20, x121_21, x121_22, ↓reduceIte, zkl_i, zkl_r, zkl_n, zkl_z, zkl_l, Option.toList_some, Option.toList_none, List.cons_append, List.nil_append, zcs_0, zcs_i, zcs_l, zcs_r, zle8, true_and, and_true, true_or, or_true, nI_ltI, hk, if_true, nr_3, nd3z]
          simp (disch := first | assumption | omega | (simp (disch := omega) only [zr_n, zr_s]; assumption)) only [x121_23, x121_24, x121_25_65, x121_28, x121_30, x121_31, x121_32, x121_33, x121_36, x121_38, x121_40, x121_42, x121_45, x121_46, x121_47_65, x121_50, x121_51, x121_52, x121_53, x121_54, x121_57, x121_58_65, x121_61, x121_62, x121_63, x121_64, x121_65, x121_66, x121_67, x121_68, x121_70, x121_71, x121_72i, x121_72r, x121_73_65, x121_76, x121_77, x121_78, x121_81, x121_82, x121_85, x121_86, x121_87_65, x121_90, x121_93, x121_96, x121_97, x121_100, x121_101, x121_102, x121_103, x121_104, x121_107, x121_108, x121_109_65, x121_112, x121_113, x121_114, x121_115, bi_70, bs_70, bi_73, bs_73, ↓reduceIte, zkl_i, zkl_r, zkl_n, zkl_z, zkl_l, Option.toList_some, Option.toList_none, List.cons_append, List.nil_append, zcs_0, zcs_i, zcs_l, zcs_r, zle8, true_and, and_true, true_or, or_true, nd3z, nd_3, nm_2, nI_add, zr_n, zr_s, zr_zr, upd_s, upd_upd, ixN_nI, nI_clamp, nl_48, nl_96, m_readerOf, hv2, nlt_2, ne_1, e1, e2, if_false, na_1, Nat.zero_add, Int32.add_zero]
          rw [show (k + 1 + 1) / 3 = (k + 1) / 3 by omega]
  obtain ⟨h, hq, hp⟩ := key l 0 (I 73) .null .null (Nat.zero_add l) (fun j hj => by omega)
  refine ⟨h, fun Q => ?_, hp⟩
  rw [mfp, ← hq Q, zr_id]
  have ht : (1 : Int32).toNatClampNeg = 1 ∧ (2 : Int32).toNatClampNeg = 2 := by decide
  have hi : ixN (0 : Int32) 3 ∧ ixN (1 : Int32) 3 ∧ ixN (2 : Int32) 3 := by unfold ixN; decide
  simp (disch := first | assumption | omega | (simp (disch := omega) only [zr_n, zr_s]; assumption)) only [x121_0, x121_1, x121_2_65, x121_5, x121_6_65, x121_9, x121_10, x121_11, x121_12, x121_13, x121_15, x121_16, x121_19, x121_20, x121_21, x121_22, x121_23, x121_24, x121_25_65, x121_28, x121_30, x121_31, x121_32, x121_33, x121_36, x121_38, x121_40, x121_42, x121_45, x121_46, x121_47_65, x121_50, x121_51, x121_52, x121_53, x121_54, x121_57, x121_58_65, x121_61, x121_62, x121_63, x121_64, x121_65, x121_66, x121_67, x121_68, x121_70, x121_71, x121_72i, x121_72r, x121_73_65, x121_76, x121_77, x121_78, x121_81, x121_82, x121_85, x121_86, x121_87_65, x121_90, x121_93, x121_96, x121_97, x121_100, x121_101, x121_102, x121_103, x121_104, x121_107, x121_108, x121_109_65, x121_112, x121_113, x121_114, x121_115, bi_71, bs_71, ↓reduceIte, zkl_i, zkl_r, zkl_n, zkl_z, zkl_l, Option.toList_some, Option.toList_none, List.cons_append, List.nil_append, zcs_0, zcs_i, zcs_l, zcs_r, zle8, true_and, and_true, true_or, or_true, zr_n, hi, t0, ht, hl]
  rfl
theorem m_readsShifts {l : Nat} (hl : I 71 2 = nI l) (hM : l ≤ 47) : ∃ h : Nat → Int32, (∀ Q : zQ, Rn (zG xl) 123 0 [.ref 65, .null, .null, .null, .null] [] I J Q = Q (some (.int (mfp (shO) (I 70) 96 l))) (zr (zr I 74 h) 65 (upd (I 65) 11 (nI (if mfp (shO) (I 70) 96 l = -1 then (l + 1) / 3 else 0)))) J) ∧ (mfp (shO) (I 70) 96 l = -1 → mrow (shO) (I 70) 96 l h) := by
  have key : ∀ (d k : Nat) (f : Nat → Int32) (v3 v4 : Value), k + d = l → mrow (shO) (I 70) 96 k f → ∃ h : Nat → Int32, (∀ Q : zQ, Rn (zG xl) 123 14 [.ref 65, .int (nI l), .int (nI k), v3, v4] [] (zr (zr I 74 f) 65 (upd (I 65) 11 (nI ((k + 1) / 3)))) J Q = Q (some (.int (sp_fl (mft (shO) (I 70) 96) (sp_fe l) d k))) (zr (zr I 74 h) 65 (upd (I 65) 11 (nI (if sp_fl (mft (shO) (I 70) 96) (sp_fe l) d k = -1 then (l + 1) / 3 else 0)))) J) ∧ (sp_fl (mft (shO) (I 70) 96) (sp_fe l) d k = -1 → mrow (shO) (I 70) 96 l h) := by
    intro d
    induction d with
    | zero =>
      intro k f v3 v4 hk hr
      have hk : k = l := hk
      subst hk
      refine ⟨f, fun Q => ?_, fun _ => hr⟩
      rw [h123_14, sp_fl, sp_fe]
      by_cases h0 : k = 0
      · subst h0
        simp (disch := first | assumption | omega | (simp (disch := omega) only [zr_n, zr_s]; assumption)) only [x123_0, x123_1, x123_2_65, x123_5, x123_6_65, x123_9, x123_10, x123_11, x123_12, x123_13, x123_15, x123_16, x123_19, x123_20, x123_21, x123_22, x123_23, x123_24, x123_25_65, x123_28, x123_30, x123_31, x123_32, x123_33, x123_36, x123_38, x123_40, x123_42, x123_45, x123_46, x123_47_65, x123_50, x123_51, x123_52, x123_53, x123_54, x123_57, x123_58_65, x123_61, x123_62, x123_63, x123_64, x123_65, x123_66, x123_67, x123_68, x123_70, x123_71, x123_72i, x123_72r, x123_73_65, x123_76, x123_77, x123_78, x123_81, x123_82, x123_85, x123_86, x123_87_65, x123_90, x123_93, x123_96, x123_97, x123_100, x123_101, x123_102, x123_103, x123_104, x123_107, x123_108, x123_109_65, x123_112, x123_113, x123_114, x123_115, ↓reduceIte, zkl_i, zkl_r, zkl_n, zkl_z, zkl_l, Option.toList_some, Option.toList_none, List.cons_append, List.nil_append, zcs_0, zcs_i, zcs_l, zcs_r, zle8, true_and, and_true, true_or, or_true, nI_ltI, Nat.lt_irrefl, if_false, nI_0, if_true]
        rfl
      · have hp : (0 : Int32) < nI k := by
          rw [show (0 : Int32) = nI 0 from rfl, nI_ltI (by omega) (by omega)]
          omega
        by_cases h2 : k % 3 = 2
        · simp (disch := first | assumption | omega | (simp (disch := omega) only [zr_n, zr_s]; assumption)) only [x123_0, x123_1, x123_2_65, x123_5, x123_6_65, x123_9, x123_10, x123_11, x123_12, x123_13, x123_15, x123_16, x123_19, x123_20, x123_21, x123_22, x123_23, x123_24, x123_25_65, x123_28, x123_30, x123_31, x123_32, x123_33, x123_36, x123_38, x123_40, x123_42, x123_45, x123_46, x123_47_65, x123_50, x123_51, x123_52, x123_53, x123_54, x123_57, x123_58_65, x123_61, x123_62, x123_63, x123_64, x123_65, x123_66, x123_67, x123_68, x123_70, x123_71, x123_72i, x123_72r, x123_73_65, x123_76, x123_77, x123_78, x123_81, x123_82, x123_85, x123_86, x123_87_65, x123_90, x123_93, x123_96, x123_97, x123_100, x123_101, x123_102, x123_103, x123_104, x123_107, x123_108, x123_109_65, x123_112, x123_113, x123_114, x123_115, ↓reduceIte, zkl_i, zkl_r, zkl_n, zkl_z, zkl_l, Option.toList_some, Option.toList_none, List.cons_append, List.nil_append, zcs_0, zcs_i, zcs_l, zcs_r, zle8, true_and, and_true, true_or, or_true, nI_ltI, Nat.lt_irrefl, if_false, hp, h0, h2, if_true, nr_3, nd3z, ne_2]
        · simp (disch := first | assumption | omega | (simp (disch := omega) only [zr_n, zr_s]; assumption)) only [x123_0, x123_1, x123_2_65, x123_5, x123_6_65, x123_9, x123_10, x123_11, x123_12, x123_13, x123_15, x123_16, x123_19, x123_20, x123_21, x123_22, x123_23, x123_24, x123_25_65, x123_28, x123_30, x123_31, x123_32, x123_33, x123_36, x123_38, x123_40, x123_42, x123_45, x123_46, x123_47_65, x123_50, x123_51, x123_52, x123_53, x123_54, x123_57, x123_58_65, x123_61, x123_62, x123_63, x123_64, x123_65, x123_66, x123_67, x123_68, x123_70, x123_71, x123_72i, x123_72r, x123_73_65, x123_76, x123_77, x123_78, x123_81, x123_82, x123_85, x123_86, x123_87_65, x123_90, x123_93, x123_96, x123_97, x123_100, x123_101, x123_102, x123_103, x123_104, x123_107, x123_108, x123_109_65, x123_112, x123_113, x123_114, x123_115, ↓reduceIte, zkl_i, zkl_r, zkl_n, zkl_z, zkl_l, Option.toList_some, Option.toList_none, List.cons_append, List.nil_append, zcs_0, zcs_i, zcs_l, zcs_r, zle8, true_and, and_true, true_or, or_true, nI_ltI, Nat.lt_irrefl, if_false, hp, h0, h2, if_true, nr_3, nd3z, ne_2, zr_s, zr_zr, upd_upd, ne_m1, nI_0]
    | succ d ih =>
      intro k f v3 v4 hkd hr
      have hk : k < l := by omega
      by_cases hv : (shO) (nI (k % 3)) (I 70 (96 + k)) = -9
      · refine ⟨f, fun Q => ?_, fun z => ?_⟩
        · rw [h123_14, sp_fl, mft, if_pos hv, if_pos rfl]
          have hv2 := hv
          try simp only [Nat.zero_add] at hv2
          simp (disch := first | assumption | omega | (simp (disch := omega) only [zr_n, zr_s]; assumption)) only [x123_0, x123_1, x123_2_65, x123_5, x123_6_65, x123_9, x123_10, x123_11, x123_12, x123_13, x123_15, x123_16, x123_19, x123_20, x123_21, x123_22, x123_23, x123_24, x123_25_65, x123_28, x123_30, x123_31, x123_32, x123_33, x123_36, x123_38, x123_40, x123_42, x123_45, x123_46, x123_47_65, x123_50, x123_51, x123_52, x123_53, x123_54, x123_57, x123_58_65, x123_61, x123_62, x123_63, x123_64, x123_65, x123_66, x123_67, x123_68, x123_70, x123_71, x123_72i, x123_72r, x123_73_65, x123_76, x123_77, x123_78, x123_81, x123_82, x123_85, x123_86, x123_87_65, x123_90, x123_93, x123_96, x123_97, x123_100, x123_101, x123_102, x123_103, x123_104, x123_107, x123_108, x123_109_65, x123_112, x123_113, x123_114, x123_115, bi_70, bs_70, ↓reduceIte, zkl_i, zkl_r, zkl_n, zkl_z, zkl_l, Option.toList_some, Option.toList_none, List.cons_append, List.nil_append, zcs_0, zcs_i, zcs_l, zcs_r, zle8, true_and, and_true, true_or, or_true, nI_ltI, hk, if_true, nr_3, nd3z, zr_n, zr_s, zr_zr, upd_upd, ixN_nI, nI_clamp, nl_48, nl_96, m_shiftOf, hv2, ne_m1, if_false, nI_0]
        · rw [sp_fl, mft, if_pos hv, if_pos rfl, ne_m1 (by omega)] at z
          exact z.elim
      · have e0 : sp_fl (mft (shO) (I 70) 96) (sp_fe l) (d + 1) k = sp_fl (mft (shO) (I 70) 96) (sp_fe l) d (k + 1) := by
          rw [sp_fl, mft, if_neg hv, if_neg (by decide)]
        rw [e0]
        have hv2 := hv
        try simp only [Nat.zero_add] at hv2
        have hk3 : k % 3 = 0 ∨ k % 3 = 1 ∨ k % 3 = 2 := by omega
        rcases hk3 with hk3 | hk3 | hk3
        · have e1 : (k % 3 < 2) = True := eq_true (by omega)
          have e2 : (k % 3 = 1) = False := eq_false (by omega)
          obtain ⟨h, hq, hp⟩ := ih (k + 1) (upd f (2 * (k / 3) + k % 3) ((shO) (nI (k % 3)) (I 70 (96 + k)))) (.int (nI (k % 3))) (.int ((shO) (nI (k % 3)) (I 70 (96 + k)))) (by omega) (mrow_upd (by omega) hr)
          refine ⟨h, fun Q => ?_, hp⟩
          rw [← hq Q, h123_14]
          simp (disch := first | assumption | omega | (simp (disch := omega) only [zr_n, zr_s]; assumption)) only [x123_15, x123_16, x123_19, x123_20, x123_21, x123_22, ↓reduceIte, zkl_i, zkl_r, zkl_n, zkl_z, zkl_l, Option.toList_some, Option.toList_none, List.cons_append, List.nil_append, zcs_0, zcs_i, zcs_l, zcs_r, zle8, true_and, and_true, true_or, or_true, nI_ltI, hk, if_true, nr_3, nd3z]
          simp (disch := first | assumption | omega | (simp (disch := omega) only [zr_n, zr_s]; assumption)) only [x123_23, x123_24, x123_25_65, x123_28, x123_30, x123_31, x123_32, x123_33, x123_36, x123_38, x123_40, x123_42, x123_45, x123_46, x123_47_65, x123_50, x123_51, x123_52, x123_53, x123_54, x123_57, x123_58_65, x123_61, x123_62, x123_63, x123_64, x123_65, x123_66, x123_67, x123_68, x123_70, x123_71, x123_72i, x123_72r, x123_73_65, x123_76, x123_77, x123_78, x123_81, x123_82, x123_85, x123_86, x123_87_65, x123_90, x123_93, x123_96, x123_97, x123_100, x123_101, x123_102, x123_103, x123_104, x123_107, x123_108, x123_109_65, x123_112, x123_113, x123_114, x123_115, bi_70, bs_70, bi_74, bs_74, ↓reduceIte, zkl_i, zkl_r, zkl_n, zkl_z, zkl_l, Option.toList_some, Option.toList_none, List.cons_append, List.nil_append, zcs_0, zcs_i, zcs_l, zcs_r, zle8, true_and, and_true, true_or, or_true, nd3z, nd_3, nm_2, nI_add, zr_n, zr_s, upd_s, upd_upd, ixN_nI, nI_clamp, nl_48, nl_96, m_shiftOf, hv2, nlt_2, ne_1, e1, e2, if_false, na_1, Nat.zero_add, Int32.add_zero]
          rw [zr_c (c := 65) (d := 74) (by decide), zr_zr, zr_zr, show (k + 1 + 1) / 3 = (k + 1) / 3 by omega]
        · have e1 : (k % 3 < 2) = True := eq_true (by omega)
          have e2 : (k % 3 = 1) = True := eq_true (by omega)
          obtain ⟨h, hq, hp⟩ := ih (k + 1) (upd f (2 * (k / 3) + k % 3) ((shO) (nI (k % 3)) (I 70 (96 + k)))) (.int (nI (k % 3))) (.int ((shO) (nI (k % 3)) (I 70 (96 + k)))) (by omega) (mrow_upd (by omega) hr)
          refine ⟨h, fun Q => ?_, hp⟩
          rw [← hq Q, h123_14]
          simp (disch := first | assumption | omega | (simp (disch := omega) only [zr_n, zr_s]; assumption)) only [x123_15, x123_16, x123_19, x123_20, x123_21, x123_22, ↓reduceIte, zkl_i, zkl_r, zkl_n, zkl_z, zkl_l, Option.toList_some, Option.toList_none, List.cons_append, List.nil_append, zcs_0, zcs_i, zcs_l, zcs_r, zle8, true_and, and_true, true_or, or_true, nI_ltI, hk, if_true, nr_3, nd3z]
          simp (disch := first | assumption | omega | (simp (disch := omega) only [zr_n, zr_s]; assumption)) only [x123_23, x123_24, x123_25_65, x123_28, x123_30, x123_31, x123_32, x123_33, x123_36, x123_38, x123_40, x123_42, x123_45, x123_46, x123_47_65, x123_50, x123_51, x123_52, x123_53, x123_54, x123_57, x123_58_65, x123_61, x123_62, x123_63, x123_64, x123_65, x123_66, x123_67, x123_68, x123_70, x123_71, x123_72i, x123_72r, x123_73_65, x123_76, x123_77, x123_78, x123_81, x123_82, x123_85, x123_86, x123_87_65, x123_90, x123_93, x123_96, x123_97, x123_100, x123_101, x123_102, x123_103, x123_104, x123_107, x123_108, x123_109_65, x123_112, x123_113, x123_114, x123_115, bi_70, bs_70, bi_74, bs_74, ↓reduceIte, zkl_i, zkl_r, zkl_n, zkl_z, zkl_l, Option.toList_some, Option.toList_none, List.cons_append, List.nil_append, zcs_0, zcs_i, zcs_l, zcs_r, zle8, true_and, and_true, true_or, or_true, nd3z, nd_3, nm_2, nI_add, zr_n, zr_s, upd_s, upd_upd, ixN_nI, nI_clamp, nl_48, nl_96, m_shiftOf, hv2, nlt_2, ne_1, e1, e2, if_false, na_1, Nat.zero_add]
          rw [zr_c (c := 65) (d := 74) (by decide), zr_zr, zr_zr, show (k + 1 + 1) / 3 = (k + 1) / 3 + 1 by omega]
        · have e1 : (k % 3 < 2) = False := eq_false (by omega)
          have e2 : (k % 3 = 1) = False := eq_false (by omega)
          obtain ⟨h, hq, hp⟩ := ih (k + 1) f (.int (nI (k % 3))) (.int ((shO) (nI (k % 3)) (I 70 (96 + k)))) (by omega) (mrow_2 hk3 hr)
          refine ⟨h, fun Q => ?_, hp⟩
          rw [← hq Q, h123_14]
          simp (disch := first | assumption | omega | (simp (disch := omega) only [zr_n, zr_s]; assumption)) only [x123_15, x123_16, x123_19, x123_20, x123_21, x123_22, ↓reduceIte, zkl_i, zkl_r, zkl_n, zkl_z, zkl_l, Option.toList_some, Option.toList_none, List.cons_append, List.nil_append, zcs_0, zcs_i, zcs_l, zcs_r, zle8, true_and, and_true, true_or, or_true, nI_ltI, hk, if_true, nr_3, nd3z]
          simp (disch := first | assumption | omega | (simp (disch := omega) only [zr_n, zr_s]; assumption)) only [x123_23, x123_24, x123_25_65, x123_28, x123_30, x123_31, x123_32, x123_33, x123_36, x123_38, x123_40, x123_42, x123_45, x123_46, x123_47_65, x123_50, x123_51, x123_52, x123_53, x123_54, x123_57, x123_58_65, x123_61, x123_62, x123_63, x123_64, x123_65, x123_66, x123_67, x123_68, x123_70, x123_71, x123_72i, x123_72r, x123_73_65, x123_76, x123_77, x123_78, x123_81, x123_82, x123_85, x123_86, x123_87_65, x123_90, x123_93, x123_96, x123_97, x123_100, x123_101, x123_102, x123_103, x123_104, x123_107, x123_108, x123_109_65, x123_112, x123_113, x123_114, x123_115, bi_70, bs_70, bi_74, bs_74, ↓reduceIte, zkl_i, zkl_r, zkl_n, zkl_z, zkl_l, Option.toList_some, Option.toList_none, List.cons_append, List.nil_append, zcs_0, zcs_i, zcs_l, zcs_r, zle8, true_and, and_true, true_or, or_true, nd3z, nd_3, nm_2, nI_add, zr_n, zr_s, zr_zr, upd_s, upd_upd, ixN_nI, nI_clamp, nl_48, nl_96, m_shiftOf, hv2, nlt_2, ne_1, e1, e2, if_false, na_1, Nat.zero_add, Int32.add_zero]
          rw [show (k + 1 + 1) / 3 = (k + 1) / 3 by omega]
  obtain ⟨h, hq, hp⟩ := key l 0 (I 74) .null .null (Nat.zero_add l) (fun j hj => by omega)
  refine ⟨h, fun Q => ?_, hp⟩
  rw [mfp, ← hq Q, zr_id]
  have ht : (1 : Int32).toNatClampNeg = 1 ∧ (2 : Int32).toNatClampNeg = 2 := by decide
  have hi : ixN (0 : Int32) 3 ∧ ixN (1 : Int32) 3 ∧ ixN (2 : Int32) 3 := by unfold ixN; decide
  simp (disch := first | assumption | omega | (simp (disch := omega) only [zr_n, zr_s]; assumption)) only [x123_0, x123_1, x123_2_65, x123_5, x123_6_65, x123_9, x123_10, x123_11, x123_12, x123_13, x123_15, x123_16, x123_19, x123_20, x123_21, x123_22, x123_23, x123_24, x123_25_65, x123_28, x123_30, x123_31, x123_32, x123_33, x123_36, x123_38, x123_40, x123_42, x123_45, x123_46, x123_47_65, x123_50, x123_51, x123_52, x123_53, x123_54, x123_57, x123_58_65, x123_61, x123_62, x123_63, x123_64, x123_65, x123_66, x123_67, x123_68, x123_70, x123_71, x123_72i, x123_72r, x123_73_65, x123_76, x123_77, x123_78, x123_81, x123_82, x123_85, x123_86, x123_87_65, x123_90, x123_93, x123_96, x123_97, x123_100, x123_101, x123_102, x123_103, x123_104, x123_107, x123_108, x123_109_65, x123_112, x123_113, x123_114, x123_115, bi_71, bs_71, ↓reduceIte, zkl_i, zkl_r, zkl_n, zkl_z, zkl_l, Option.toList_some, Option.toList_none, List.cons_append, List.nil_append, zcs_0, zcs_i, zcs_l, zcs_r, zle8, true_and, and_true, true_or, or_true, zr_n, hi, t0, ht, hl]
  rfl
end
