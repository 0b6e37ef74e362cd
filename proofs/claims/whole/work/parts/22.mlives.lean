/-! ===== the reference: a night ===== -/
theorem bt0 {A B : Prop} [Decidable A] [Decidable B] : ((if A then (0 : Int32) else if B then 0 else 1) = 0) = (A ∨ B) := by
  by_cases h1 : A
  · simp [h1]
  · by_cases h2 : B <;> simp [h1, h2]
def mny1 (e : Nat → Int32) (g c r a b : Int32) (i : Nat) (s : Int32) : Int32 := s + (if e (3 * i) = c then (if e (3 * i + 1) = r then (if e (3 * i + 2) < a ∨ b < e (3 * i + 2) then 0 else if isI g (nI i) = 0 then 1 else 0) else 0) else 0)
def mny (e : Nat → Int32) (g : Int32) (n : Nat) (c r a b : Int32) : Int32 := fo (mny1 e g c r a b) n 0 0
section
variable {xl : Nat} {I : zI} {J : zJ} {Q : zQ}
theorem m_many {c r a b : Int32} (hn : ixN (I 65 14) 9) : Rn (zG xl) 138 0 [.ref 65, .int c, .int r, .int a, .int b, .null, .null] [] I J Q = Q (some (.int (mny (I 75) (I 65 16) (tn (I 65 14)) c r a b))) I J := by
  obtain ⟨n, hn9, e⟩ := (ixN_iff (by decide)).mp hn
  rw [mny, e, tn, nI_clamp (by omega)]
  simp only [x138_0, x138_1, x138_3, x138_4, x138_8, x138_9_65, x138_12, x138_15, x138_17, x138_18_65, x138_21, x138_22, x138_24, x138_25, x138_26, x138_27, x138_30, x138_31_65, x138_34, x138_35, x138_37, x138_38, x138_39, x138_40, x138_41, x138_42, x138_45, x138_46_65, x138_49, x138_50, x138_52, x138_53, x138_54, x138_55, x138_56, x138_57, x138_58, x138_59, x138_61, x138_62, x138_65, x138_68, x138_69_65, x138_72, x138_74, x138_77, x138_80, x138_81, x138_84, x138_85, x138_86, x138_88, x138_91, x138_94, x138_96, ↓reduceIte, zkl_i, zkl_r, zkl_n, zkl_z, zkl_l, Option.toList_some, Option.toList_none, List.cons_append, List.nil_append, zcs_0, zcs_i, zcs_l, zcs_r, zle8, true_and, and_true, true_or, or_true]
  refine fo_loop0 (R := fun k s => Rn (zG xl) 138 6 [.ref 65, .int c, .int r, .int a, .int b, .int s, .int (nI k)] [] I J Q) (E := fun s => Q (some (.int s)) I J) (fun k s hk => ?_) (fun s => ?_) 0
  · rw [h138_6]
    simp (disch := first | assumption | omega | (simp (disch := omega) only [zr_n, zr_s]; assumption)) only [x138_8, x138_9_65, x138_12, x138_15, x138_17, x138_18_65, x138_21, x138_22, x138_24, x138_25, x138_26, x138_27, x138_30, x138_31_65, x138_34, x138_35, x138_37, x138_38, x138_39, x138_40, x138_41, x138_42, x138_45, x138_46_65, x138_49, x138_50, x138_52, x138_53, x138_54, x138_55, x138_56, x138_57, x138_58, x138_59, x138_61, x138_62, x138_65, x138_68, x138_69_65, x138_72, x138_74, x138_77, x138_80, x138_81, x138_84, bi_75, bs_75, ↓reduceIte, zkl_i, zkl_r, zkl_n, zkl_z, zkl_l, Option.toList_some, Option.toList_none, List.cons_append, List.nil_append, zcs_0, zcs_i, zcs_l, zcs_r, zle8, true_and, and_true, true_or, or_true, e, nI_ltI, hk, if_true, ixN_nI, nI_clamp, nm_3, na_1, na_2, m_in, i64_lt, bt0, m_isIn, ite_Rn, ite_cons, ite_vi, ite_vl, ite_self, ite_zr, ite_zr1, ite_zr2, ite_upd, ite_upd1, ite_upd2]
    simp (disch := first | assumption | omega | (simp (disch := omega) only [zr_n, zr_s]; assumption)) only [x138_85, x138_86, x138_88, x138_91, x138_94, x138_96, ↓reduceIte, zkl_i, zkl_r, zkl_n, zkl_z, zkl_l, Option.toList_some, Option.toList_none, List.cons_append, List.nil_append, zcs_0, zcs_i, zcs_l, zcs_r, zle8, true_and, and_true, true_or, or_true, na_1]
    rfl
  · rw [h138_6]
    simp (disch := omega) only [x138_0, x138_1, x138_3, x138_4, x138_8, x138_9_65, x138_12, x138_15, x138_17, x138_18_65, x138_21, x138_22, x138_24, x138_25, x138_26, x138_27, x138_30, x138_31_65, x138_34, x138_35, x138_37, x138_38, x138_39, x138_40, x138_41, x138_42, x138_45, x138_46_65, x138_49, x138_50, x138_52, x138_53, x138_54, x138_55, x138_56, x138_57, x138_58, x138_59, x138_61, x138_62, x138_65, x138_68, x138_69_65, x138_72, x138_74, x138_77, x138_80, x138_81, x138_84, x138_85, x138_86, x138_88, x138_91, x138_94, x138_96, ↓reduceIte, zkl_i, zkl_r, zkl_n, zkl_z, zkl_l, Option.toList_some, Option.toList_none, List.cons_append, List.nil_append, zcs_0, zcs_i, zcs_l, zcs_r, zle8, true_and, and_true, true_or, or_true, e, nI_ltI, Nat.lt_irrefl, if_false]
theorem m_lineBy2 {k : Int32} (h : ixN k 10) : Rn (zG xl) 129 0 [.ref 65, .int k, .int 2] [] I J Q = Q (some (.int (1 + 2 * I 72 (2 * tn k)))) I J := by
  obtain ⟨n, hn, rfl⟩ := (ixN_iff (by decide)).mp h
  have h22 : ((2 : Int32) < 2) = False := by decide
  simp (disch := first | assumption | omega | (simp (disch := omega) only [zr_n, zr_s]; assumption)) only [x129_0, x129_1, x129_2, x129_5, x129_6_65, x129_9, x129_10, x129_11, x129_12, x129_13, x129_14, x129_15, x129_18, x129_19, x129_20, x129_21_65, x129_24, x129_25, x129_26, x129_27, x129_28, x129_29, x129_30, bi_72, bs_72, ↓reduceIte, zkl_i, zkl_r, zkl_n, zkl_z, zkl_l, Option.toList_some, Option.toList_none, List.cons_append, List.nil_append, zcs_0, zcs_i, zcs_l, zcs_r, zle8, true_and, and_true, true_or, or_true, h22, if_false, nm_2, ixN_nI, nI_clamp]
/-- what does() writes at once -/
def zd0 (i : Nat) (I : zI) : zI := zr (zr I 76 (upd (I 76) i (-1))) 77 (upd (I 77) i 0)
section
variable {i : Nat} {r k : Int32}
theorem m_does_a {Q : zQ} (hi : i < 17) (hr : I 74 (2 * i) = r) (hk : I 74 (2 * i + 1) = k) (hc : bt r 0 (I 65 9 - 1) = 0 ∨ bt k 0 (I 65 7 - 1) = 0 ∨ (ixN r 6 ∧ ¬ I 83 (tn r) = 0)) : Rn (zG xl) 139 0 [.ref 65, .int (nI i), .null, .null, .null, .null, .null, .null, .null, .null] [] I J Q = Q none (zd0 i I) J := by
  simp (disch := first | assumption | omega | (simp (disch := omega) only [zr_n, zr_s]; assumption)) only [x139_0, x139_1_65, x139_4, x139_5, x139_6, x139_7, x139_8, x139_9, x139_10_65, x139_13, x139_14, x139_15, x139_16, x139_17, x139_18, x139_19, x139_20, x139_21_65, x139_24, x139_25, x139_26, x139_27, x139_28_65, x139_31, x139_32, x139_33, x139_34, x139_35, x139_36, gc_65, bi_74, bs_74, bi_76, bs_76, bb_77, bc_77, zbv_77, ↓reduceIte, zkl_i, zkl_r, zkl_n, zkl_z, zkl_l, Option.toList_some, Option.toList_none, List.cons_append, List.nil_append, zcs_0, zcs_i, zcs_l, zcs_r, zle8, true_and, and_true, true_or, or_true, nm_2, na_1, ixN_nI, nI_clamp, hr, hk, zr_n, m_isReader]
  by_cases h1 : bt r 0 (I 65 9 - 1) = 0
  · simp (disch := first | assumption | omega | (simp (disch := omega) only [zr_n, zr_s]; assumption)) only [x139_39, x139_42, x139_43, x139_44, x139_47, x139_50, x139_51_65, x139_54, x139_55, x139_56, x139_59, ↓reduceIte, zkl_i, zkl_r, zkl_n, zkl_z, zkl_l, Option.toList_some, Option.toList_none, List.cons_append, List.nil_append, zcs_0, zcs_i, zcs_l, zcs_r, zle8, true_and, and_true, true_or, or_true, h1, if_true]
    rfl
  · simp (disch := first | assumption | omega | (simp (disch := omega) only [zr_n, zr_s]; assumption)) only [x139_39, x139_42, x139_43, x139_44, x139_47, gc_65, ↓reduceIte, zkl_i, zkl_r, zkl_n, zkl_z, zkl_l, Option.toList_some, Option.toList_none, List.cons_append, List.nil_append, zcs_0, zcs_i, zcs_l, zcs_r, zle8, true_and, and_true, true_or, or_true, h1, if_false, zr_n, m_isLine]
    by_cases h2 : bt k 0 (I 65 7 - 1) = 0
    · simp (disch := first | assumption | omega | (simp (disch := omega) only [zr_n, zr_s]; assumption)) only [x139_47, x139_50, x139_51_65, x139_54, x139_55, x139_56, x139_59, ↓reduceIte, zkl_i, zkl_r, zkl_n, zkl_z, zkl_l, Option.toList_some, Option.toList_none, List.cons_append, List.nil_append, zcs_0, zcs_i, zcs_l, zcs_r, zle8, true_and, and_true, true_or, or_true, h2, if_true]
      rfl
    · rcases hc with hc | hc | ⟨hr6, hc⟩
      · exact absurd hc h1
      · exact absurd hc h2
      · simp (disch := first | assumption | omega | (simp (disch := omega) only [zr_n, zr_s]; assumption)) only [x139_47, x139_50, x139_51_65, x139_54, x139_55, x139_56, x139_59, bb_83, bc_83, zbv_83, ↓reduceIte, zkl_i, zkl_r, zkl_n, zkl_z, zkl_l, Option.toList_some, Option.toList_none, List.cons_append, List.nil_append, zcs_0, zcs_i, zcs_l, zcs_r, zle8, true_and, and_true, true_or, or_true, h2, if_false, hr6, zr_n, hc]
        rfl
def dto (I : zI) (r : Int32) : Int32 := if I 73 (2 * tn r) = 0 then I 78 (tn r) + 1 else I 78 (tn r)
theorem m_does_b {Q : zQ} (hi : i < 17) (hr : I 74 (2 * i) = r) (hk : I 74 (2 * i + 1) = k) (h1 : ¬ bt r 0 (I 65 9 - 1) = 0) (h2 : ¬ bt k 0 (I 65 7 - 1) = 0) (hr6 : ixN r 6) (h3 : I 83 (tn r) = 0) (h4 : ¬ dto I r < I 65 13) : Rn (zG xl) 139 0 [.ref 65, .int (nI i), .null, .null, .null, .null, .null, .null, .null, .null] [] I J Q = Q none (zr (zd0 i I) 83 (upd (I 83) (tn r) 1)) J := by
  obtain ⟨q, hq, rfl⟩ := (ixN_iff (by decide)).mp hr6
  rw [tn, nI_clamp (by omega)] at h3
  simp only [dto, tn] at h4
  rw [nI_clamp (by omega)] at h4
  simp (disch := first | assumption | omega | (simp (disch := omega) only [zr_n, zr_s]; assumption)) only [x139_0, x139_1_65, x139_4, x139_5, x139_6, x139_7, x139_8, x139_9, x139_10_65, x139_13, x139_14, x139_15, x139_16, x139_17, x139_18, x139_19, x139_20, x139_21_65, x139_24, x139_25, x139_26, x139_27, x139_28_65, x139_31, x139_32, x139_33, x139_34, x139_35, x139_36, gc_65, bi_74, bs_74, bi_76, bs_76, bb_77, bc_77, zbv_77, ↓reduceIte, zkl_i, zkl_r, zkl_n, zkl_z, zkl_l, Option.toList_some, Option.toList_none, List.cons_append, List.nil_append, zcs_0, zcs_i, zcs_l, zcs_r, zle8, true_and, and_true, true_or, or_true, nm_2, na_1, ixN_nI, nI_clamp, hr, hk, zr_n, m_isReader]
  simp (disch := first | assumption | omega | (simp (disch := omega) only [zr_n, zr_s]; assumption)) only [x139_39, x139_42, x139_43, x139_44, x139_47, gc_65, ↓reduceIte, zkl_i, zkl_r, zkl_n, zkl_z, zkl_l, Option.toList_some, Option.toList_none, List.cons_append, List.nil_append, zcs_0, zcs_i, zcs_l, zcs_r, zle8, true_and, and_true, true_or, or_true, h1, if_false, zr_n, m_isLine]
  simp (disch := first | assumption | omega | (simp (disch := omega) only [zr_n, zr_s]; assumption)) only [x139_47, x139_50, x139_51_65, x139_54, x139_55, x139_56, x139_59, x139_60, x139_61_65, x139_64, x139_65, x139_66, x139_67, x139_68, x139_70, x139_71_65, x139_74, x139_75, x139_76, x139_78, x139_80, x139_83, x139_85, x139_86, x139_87, x139_90, bb_83, bc_83, zbv_83, bi_73, bs_73, bi_78, bs_78, ↓reduceIte, zkl_i, zkl_r, zkl_n, zkl_z, zkl_l, Option.toList_some, Option.toList_none, List.cons_append, List.nil_append, zcs_0, zcs_i, zcs_l, zcs_r, zle8, true_and, and_true, true_or, or_true, h2, if_false, nm_2, ixN_nI, nI_clamp, zr_n, h3, if_true, ite_Rn, ite_cons, ite_vi, ite_vl, ite_self, ite_zr, ite_zr1, ite_zr2, ite_upd, ite_upd1, ite_upd2]
  simp (disch := first | assumption | omega | (simp (disch := omega) only [zr_n, zr_s]; assumption)) only [x139_92, x139_94, x139_96, x139_97_65, x139_100, x139_103, x139_104_65, x139_107, x139_108, x139_109, x139_110, bb_83, bc_83, zbv_83, ↓reduceIte, zkl_i, zkl_r, zkl_n, zkl_z, zkl_l, Option.toList_some, Option.toList_none, List.cons_append, List.nil_append, zcs_0, zcs_i, zcs_l, zcs_r, zle8, true_and, and_true, true_or, or_true, ixN_nI, nI_clamp, zr_n, h4, if_false]
  rfl
def dT1 (I : zI) (r : Int32) : Int32 := if 0 < I 79 (tn r) - 3 * mny (I 75) (I 65 16) (tn (I 65 14)) 1 r (I 82 (tn r) + 1) (I 78 (tn r)) then I 79 (tn r) - 3 * mny (I 75) (I 65 16) (tn (I 65 14)) 1 r (I 82 (tn r) + 1) (I 78 (tn r)) else 0
def dfn (I : zI) (r k : Int32) : Int32 := if mny (I 75) (I 65 16) (tn (I 65 14)) 0 r (I 78 (tn r)) (dto I r) = 0 then (if I 73 (2 * tn r + 1) + (if I 73 (2 * tn r) = 0 then 2 else 0) - dT1 I r < 1 + 2 * I 72 (2 * tn k) then 0 else if (if I 73 (2 * tn r) = 2 then (if I 72 (2 * tn k + 1) < 3 then (1 : Int32) else 0) else 0) = 0 then 1 else 0) else 0
theorem t01 {A B C : Prop} [Decidable A] [Decidable B] [Decidable C] : (if A then (if B then (0 : Int32) else if C then 1 else 0) else 0) = 0 ∨ (if A then (if B then (0 : Int32) else if C then 1 else 0) else 0) = 1 := by
  by_cases h1 : A
  · by_cases h2 : B
    · simp [h1, h2]
    · by_cases h3 : C <;> simp [h1, h2, h3]
  · simp [h1]
theorem dfn01 (I : zI) (r k : Int32) : dfn I r k = 0 ∨ dfn I r k = 1 := t01
def dfi (I : zI) (r k : Int32) : Int32 := if I 84 (tn k) = -1 then 1 else if dto I r < I 85 (tn k) then 1 else if dto I r = I 85 (tn k) then (if r < I 84 (tn k) then 1 else 0) else 0
theorem m_does_c (hi : i < 17) (hr : I 74 (2 * i) = r) (hk : I 74 (2 * i + 1) = k) (h1 : ¬ bt r 0 (I 65 9 - 1) = 0) (h2 : ¬ bt k 0 (I 65 7 - 1) = 0) (hr6 : ixN r 6) (hk10 : ixN k 10) (h3 : I 83 (tn r) = 0) (h4 : dto I r < I 65 13) (he : ixN (I 65 14) 9) : ∃ M : zI, (∀ Q : zQ, Rn (zG xl) 139 0 [.ref 65, .int (nI i), .null, .null, .null, .null, .null, .null, .null, .null] [] I J Q = Q none M J) ∧ M 76 = upd (I 76) i (I 78 (tn r)) ∧ M 77 = upd (I 77) i (dfn I r k) ∧ M 79 = upd (I 79) (tn r) (dT1 I r + (if I 73 (2 * tn r) = 0 then 2 else 1)) ∧ M 82 = upd (I 82) (tn r) (I 78 (tn r)) ∧ M 78 = upd (I 78) (tn r) (dto I r + 1) ∧ M 80 = upd (I 80) (tn r) (I 80 (tn r) + 1) ∧ M 86 = upd (I 86) (tn k) (I 86 (tn k) + 1) ∧ M 81 = (if dfn I r k = 0 then I 81 else upd (I 81) (tn r) (I 81 (tn r) + 1)) ∧ M 84 = (if dfn I r k = 0 then I 84 else upd (I 84) (tn k) (if dfi I r k = 0 then I 84 (tn k) else r)) ∧ M 85 = (if dfn I r k = 0 then I 85 else upd (I 85) (tn k) (if dfi I r k = 0 then I 85 (tn k) else dto I r)) ∧ ∀ c, c < 76 ∨ c = 83 ∨ 86 < c → M c = I c := by
  obtain ⟨q, hq, rfl⟩ := (ixN_iff (by decide)).mp hr6
  obtain ⟨w, hw, rfl⟩ := (ixN_iff (by decide)).mp hk10
  have hq2 : tn (nI q) = q := nI_clamp (by omega)
  have hw2 : tn (nI w) = w := nI_clamp (by omega)
  have h01 := dfn01 I (nI q) (nI w)
  generalize hF : dfn I (nI q) (nI w) = fv at h01 ⊢
  generalize hT : dto I (nI q) = tv at h4 ⊢
  generalize hX : dfi I (nI q) (nI w) = xv
  generalize hY : dT1 I (nI q) = yv
  simp only [dfn, dfi, dT1, hT, hY, hq2, hw2] at hF hX hY
  simp only [dto, hq2] at hT
  rw [hq2] at h3
  rw [hq2, hw2]
  have go : ∀ Q : zQ, Rn (zG xl) 139 0 [.ref 65, .int (nI i), .null, .null, .null, .null, .null, .null, .null, .null] [] I J Q = Rn (zG xl) 139 111 [.ref 65, .int (nI i), .int (nI q), .int (nI w), .int (I 73 (2 * q)), .int (I 78 q), .int tv, .null, .null, .null] [] (zd0 i I) J Q := by
    intro Q
    simp (disch := first | assumption | omega | (simp (disch := omega) only [zr_n, zr_s]; assumption)) only [x139_0, x139_1_65, x139_4, x139_5, x139_6, x139_7, x139_8, x139_9, x139_10_65, x139_13, x139_14, x139_15, x139_16, x139_17, x139_18, x139_19, x139_20, x139_21_65, x139_24, x139_25, x139_26, x139_27, x139_28_65, x139_31, x139_32, x139_33, x139_34, x139_35, x139_36, gc_65, bi_74, bs_74, bi_76, bs_76, bb_77, bc_77, zbv_77, ↓reduceIte, zkl_i, zkl_r, zkl_n, zkl_z, zkl_l, Option.toList_some, Option.toList_none, List.cons_append, List.nil_append, zcs_0, zcs_i, zcs_l, zcs_r, zle8, true_and, and_true, true_or, or_true, nm_2, na_1, ixN_nI, nI_clamp, hr, hk, zr_n, m_isReader]
    simp (disch := first | assumption | omega | (simp (disch := omega) only [zr_n, zr_s]; assumption)) only [x139_39, x139_42, x139_43, x139_44, x139_47, gc_65, ↓reduceIte, zkl_i, zkl_r, zkl_n, zkl_z, zkl_l, Option.toList_some, Option.toList_none, List.cons_append, List.nil_append, zcs_0, zcs_i, zcs_l, zcs_r, zle8, true_and, and_true, true_or, or_true, h1, if_false, zr_n, m_isLine]
    simp (disch := first | assumption | omega | (simp (disch := omega) only [zr_n, zr_s]; assumption)) only [x139_47, x139_50, x139_51_65, x139_54, x139_55, x139_56, x139_59, x139_60, x139_61_65, x139_64, x139_65, x139_66, x139_67, x139_68, x139_70, x139_71_65, x139_74, x139_75, x139_76, x139_78, x139_80, x139_83, x139_85, x139_86, x139_87, x139_90, bb_83, bc_83, zbv_83, bi_73, bs_73, bi_78, bs_78, ↓reduceIte, zkl_i, zkl_r, zkl_n, zkl_z, zkl_l, Option.toList_some, Option.toList_none, List.cons_append, List.nil_append, zcs_0, zcs_i, zcs_l, zcs_r, zle8, true_and, and_true, true_or, or_true, h2, if_false, nm_2, ixN_nI, nI_clamp, zr_n, h3, if_true, ite_Rn, ite_cons, ite_vi, ite_vl, ite_self, ite_zr, ite_zr1, ite_zr2, ite_upd, ite_upd1, ite_upd2]
    simp (disch := first | assumption | omega | (simp (disch := omega) only [zr_n, zr_s]; assumption)) only [x139_92, x139_94, x139_96, x139_97_65, x139_100, x139_103, x139_104_65, x139_107, x139_108, x139_109, x139_110, ↓reduceIte, zkl_i, zkl_r, zkl_n, zkl_z, zkl_l, Option.toList_some, Option.toList_none, List.cons_append, List.nil_append, zcs_0, zcs_i, zcs_l, zcs_r, zle8, true_and, and_true, true_or, or_true, zr_n, hT, h4, if_true]
    rfl
  have go2 : ∀ Q : zQ, Rn (zG xl) 139 111 [.ref 65, .int (nI i), .int (nI q), .int (nI w), .int (I 73 (2 * q)), .int (I 78 q), .int tv, .null, .null, .null] [] (zd0 i I) J Q = Rn (zG xl) 139 308 [.ref 65, .int (nI i), .int (nI q), .int (nI w), .int (I 73 (2 * q)), .int (I 78 q), .int tv, .int (I 73 (2 * q + 1) + (if I 73 (2 * q) = 0 then 2 else 0) - yv), .int (if I 73 (2 * q) = 2 then (if I 72 (2 * w + 1) < 3 then 1 else 0) else 0), .null] [] (zr (zr (zr (zr (zr (zr (zr (zr (zr (zd0 i I) 76 (upd (upd (I 76) i (-1)) i (I 78 q))) 79 (upd (I 79) q yv)) 77 (upd (upd (I 77) i 0) i fv)) 79 (upd (upd (I 79) q yv) q (yv + (if I 73 (2 * q) = 0 then 2 else 1)))) 82 (upd (I 82) q (I 78 q))) 78 (upd (I 78) q (tv + 1))) 80 (upd (I 80) q (I 80 q + 1))) 86 (upd (I 86) w (I 86 w + 1))) 86 (upd (I 86) w (I 86 w + 1))) J Q := by
    intro Q
    have hk10 : ixN (nI w) 10 := by rw [ixN_nI hw (by decide)]; trivial
    simp only [zd0]
    simp (disch := first | assumption | omega | (simp (disch := omega) only [zr_n, zr_s]; assumption)) only [x139_111, x139_112_65, x139_115, x139_116, x139_118, x139_119, x139_120_65, x139_123, x139_124, x139_125_65, x139_128, x139_129, x139_130, x139_131, x139_132, x139_133, x139_134, x139_135_65, x139_138, x139_139, x139_140, x139_141, x139_142, x139_144, x139_147, x139_148, x139_149, x139_150, x139_153, gc_65, bi_76, bs_76, bi_79, bs_79, bi_82, bs_82, ↓reduceIte, zkl_i, zkl_r, zkl_n, zkl_z, zkl_l, Option.toList_some, Option.toList_none, List.cons_append, List.nil_append, zcs_0, zcs_i, zcs_l, zcs_r, zle8, true_and, and_true, true_or, or_true, nm_2, na_1, ixN_nI, nI_clamp, zr_n, zr_s, m_many, m_greater, hY]
    trace_state
    sorry
  sorry
end
end
