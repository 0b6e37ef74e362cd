/-! ===== the class: a night ===== -/
def zfil (n : Nat) (v : Int32) (f : Nat → Int32) : Nat → Int32 := fun j => if j < n then v else f j
theorem zfil_upd (n : Nat) (v : Int32) (f : Nat → Int32) : upd (zfil n v f) n v = zfil (n + 1) v f := by
  funext j
  simp only [upd, zfil]
  by_cases h : j = n
  · subst h; simp
  · by_cases h2 : j < n
    · simp [h, h2, Nat.lt_succ_of_lt h2]
    · simp [h, h2, show ¬ j < n + 1 by omega]
theorem zfil_0 (v : Int32) (f : Nat → Int32) : zfil 0 v f = f := by funext j; simp [zfil]
section
variable {xl : Nat} {I : zI} {J : zJ} {Q : zQ}
/-- Arrays.fill over an int array -/
theorem c_fill {q n : Nat} {v : Int32} (hk : ¬ zkd (zG xl) q = 99) (hl : zln (zG xl) q = n) (hs : ∀ i, zas (zG xl) q i = ixN i n) (hn : n < 1000) : Rn (zG xl) 198 0 [.ref q, .int v, .null, .null] [] I J Q = Q none (zr I q (zfil n v (I q))) J := by
  simp only [x198_0, x198_1, x198_2, x198_3, x198_4, x198_6, x198_7, x198_10, x198_11, x198_12, x198_13, x198_14, x198_17, x198_20, ↓reduceIte, zkl_i, zkl_r, zkl_n, zkl_z, zkl_l, Option.toList_some, Option.toList_none, List.cons_append, List.nil_append, zcs_0, zcs_i, zcs_l, zcs_r, zle8, true_and, and_true, true_or, or_true, hl, hk, not_false_eq_true]
  have key : ∀ (d k : Nat), k + d = n → Rn (zG xl) 198 5 [.ref q, .int v, .int (nI k), .int (nI n)] [] (zr I q (zfil k v (I q))) J Q = Q none (zr I q (zfil n v (I q))) J := by
    intro d
    induction d with
    | zero =>
      intro k h
      have h : k = n := h
      subst h
      rw [h198_5]
      simp (disch := omega) only [x198_0, x198_1, x198_2, x198_3, x198_4, x198_6, x198_7, x198_10, x198_11, x198_12, x198_13, x198_14, x198_17, x198_20, ↓reduceIte, zkl_i, zkl_r, zkl_n, zkl_z, zkl_l, Option.toList_some, Option.toList_none, List.cons_append, List.nil_append, zcs_0, zcs_i, zcs_l, zcs_r, zle8, true_and, and_true, true_or, or_true, nI_ltI, Nat.lt_irrefl, if_false]
    | succ d ih =>
      intro k h
      have hk : k < n := by omega
      rw [h198_5]
      simp (disch := omega) only [x198_0, x198_1, x198_2, x198_3, x198_4, x198_6, x198_7, x198_10, x198_11, x198_12, x198_13, x198_14, x198_17, x198_20, ↓reduceIte, zkl_i, zkl_r, zkl_n, zkl_z, zkl_l, Option.toList_some, Option.toList_none, List.cons_append, List.nil_append, zcs_0, zcs_i, zcs_l, zcs_r, zle8, true_and, and_true, true_or, or_true, hs, nI_ltI, hk, if_true, ixN_nI, nI_clamp, na_1, zr_s, zr_zr, zfil_upd]
      exact ih (k + 1) (by omega)
  have h0 := key n 0 (Nat.zero_add n)
  rw [zfil_0, zr_id] at h0
  exact h0
def zfg (N : Nat) (l : Int32) (I : zI) : zI := zr (zr (zr (zr (zr (zr (zr (zr (zr (zr I N (upd (I N) 0 l)) (N + 1) (zfil 10 (-1) (I (N + 1)))) (N + 2) (zfil 10 (-1) (I (N + 2)))) (N + 3) (zfil 10 0 (I (N + 3)))) (N + 4) (zfil 6 0 (I (N + 4)))) (N + 5) (zfil 6 0 (I (N + 5)))) (N + 6) (zfil 6 (-1) (I (N + 6)))) (N + 7) (zfil 6 0 (I (N + 7)))) (N + 8) (zfil 17 (-1) (I (N + 8)))) (N + 9) (zfil 17 0 (I (N + 9)))
theorem c_fill_18 {v : Int32} :
    (∀ (I : zI) (J : zJ) (Q : zQ), Rn (zG xl) 198 0 [.ref 19, .int v, .null, .null] [] I J Q = Q none (zr I 19 (zfil 10 v (I 19))) J) ∧
    (∀ (I : zI) (J : zJ) (Q : zQ), Rn (zG xl) 198 0 [.ref 20, .int v, .null, .null] [] I J Q = Q none (zr I 20 (zfil 10 v (I 20))) J) ∧
    (∀ (I : zI) (J : zJ) (Q : zQ), Rn (zG xl) 198 0 [.ref 21, .int v, .null, .null] [] I J Q = Q none (zr I 21 (zfil 10 v (I 21))) J) ∧
    (∀ (I : zI) (J : zJ) (Q : zQ), Rn (zG xl) 198 0 [.ref 22, .int v, .null, .null] [] I J Q = Q none (zr I 22 (zfil 6 v (I 22))) J) ∧
    (∀ (I : zI) (J : zJ) (Q : zQ), Rn (zG xl) 198 0 [.ref 23, .int v, .null, .null] [] I J Q = Q none (zr I 23 (zfil 6 v (I 23))) J) ∧
    (∀ (I : zI) (J : zJ) (Q : zQ), Rn (zG xl) 198 0 [.ref 24, .int v, .null, .null] [] I J Q = Q none (zr I 24 (zfil 6 v (I 24))) J) ∧
    (∀ (I : zI) (J : zJ) (Q : zQ), Rn (zG xl) 198 0 [.ref 25, .int v, .null, .null] [] I J Q = Q none (zr I 25 (zfil 6 v (I 25))) J) ∧
    (∀ (I : zI) (J : zJ) (Q : zQ), Rn (zG xl) 198 0 [.ref 26, .int v, .null, .null] [] I J Q = Q none (zr I 26 (zfil 17 v (I 26))) J) ∧
    (∀ (I : zI) (J : zJ) (Q : zQ), Rn (zG xl) 198 0 [.ref 27, .int v, .null, .null] [] I J Q = Q none (zr I 27 (zfil 17 v (I 27))) J) :=
  ⟨fun _ _ _ => c_fill (by rw [ak_19]; decide) al_19 (fun _ => bs_19) (by decide), fun _ _ _ => c_fill (by rw [ak_20]; decide) al_20 (fun _ => bs_20) (by decide), fun _ _ _ => c_fill (by rw [ak_21]; decide) al_21 (fun _ => bs_21) (by decide), fun _ _ _ => c_fill (by rw [ak_22]; decide) al_22 (fun _ => bs_22) (by decide), fun _ _ _ => c_fill (by rw [ak_23]; decide) al_23 (fun _ => bs_23) (by decide), fun _ _ _ => c_fill (by rw [ak_24]; decide) al_24 (fun _ => bs_24) (by decide), fun _ _ _ => c_fill (by rw [ak_25]; decide) al_25 (fun _ => bs_25) (by decide), fun _ _ _ => c_fill (by rw [ak_26]; decide) al_26 (fun _ => bs_26) (by decide), fun _ _ _ => c_fill (by rw [ak_27]; decide) al_27 (fun _ => bs_27) (by decide)⟩
theorem c_forgetAll_18 {l : Int32} : Rn (zG xl) 2 0 [.ref 18, .int l] [] I J Q = Q none (zfg 18 l I) J := by
  simp (disch := omega) only [x2_0, x2_1, x2_2_18, x2_2_38, x2_5, x2_6_18, x2_6_38, x2_9, x2_10, x2_13, x2_14_18, x2_14_38, x2_17, x2_18, x2_21, x2_22_18, x2_22_38, x2_25, x2_26, x2_29, x2_30_18, x2_30_38, x2_33, x2_34, x2_37, x2_38_18, x2_38_38, x2_41, x2_42, x2_45, x2_46_18, x2_46_38, x2_49, x2_50, x2_53, x2_54_18, x2_54_38, x2_57, x2_58, x2_61, x2_62_18, x2_62_38, x2_65, x2_66, x2_69, x2_70_18, x2_70_38, x2_73, x2_74, x2_77, ↓reduceIte, zkl_i, zkl_r, zkl_n, zkl_z, zkl_l, Option.toList_some, Option.toList_none, List.cons_append, List.nil_append, zcs_0, zcs_i, zcs_l, zcs_r, zle8, true_and, and_true, true_or, or_true, c_fill_18, zr_n]
  rfl
theorem c_fill_38 {v : Int32} :
    (∀ (I : zI) (J : zJ) (Q : zQ), Rn (zG xl) 198 0 [.ref 39, .int v, .null, .null] [] I J Q = Q none (zr I 39 (zfil 10 v (I 39))) J) ∧
    (∀ (I : zI) (J : zJ) (Q : zQ), Rn (zG xl) 198 0 [.ref 40, .int v, .null, .null] [] I J Q = Q none (zr I 40 (zfil 10 v (I 40))) J) ∧
    (∀ (I : zI) (J : zJ) (Q : zQ), Rn (zG xl) 198 0 [.ref 41, .int v, .null, .null] [] I J Q = Q none (zr I 41 (zfil 10 v (I 41))) J) ∧
    (∀ (I : zI) (J : zJ) (Q : zQ), Rn (zG xl) 198 0 [.ref 42, .int v, .null, .null] [] I J Q = Q none (zr I 42 (zfil 6 v (I 42))) J) ∧
    (∀ (I : zI) (J : zJ) (Q : zQ), Rn (zG xl) 198 0 [.ref 43, .int v, .null, .null] [] I J Q = Q none (zr I 43 (zfil 6 v (I 43))) J) ∧
    (∀ (I : zI) (J : zJ) (Q : zQ), Rn (zG xl) 198 0 [.ref 44, .int v, .null, .null] [] I J Q = Q none (zr I 44 (zfil 6 v (I 44))) J) ∧
    (∀ (I : zI) (J : zJ) (Q : zQ), Rn (zG xl) 198 0 [.ref 45, .int v, .null, .null] [] I J Q = Q none (zr I 45 (zfil 6 v (I 45))) J) ∧
    (∀ (I : zI) (J : zJ) (Q : zQ), Rn (zG xl) 198 0 [.ref 46, .int v, .null, .null] [] I J Q = Q none (zr I 46 (zfil 17 v (I 46))) J) ∧
    (∀ (I : zI) (J : zJ) (Q : zQ), Rn (zG xl) 198 0 [.ref 47, .int v, .null, .null] [] I J Q = Q none (zr I 47 (zfil 17 v (I 47))) J) :=
  ⟨fun _ _ _ => c_fill (by rw [ak_39]; decide) al_39 (fun _ => bs_39) (by decide), fun _ _ _ => c_fill (by rw [ak_40]; decide) al_40 (fun _ => bs_40) (by decide), fun _ _ _ => c_fill (by rw [ak_41]; decide) al_41 (fun _ => bs_41) (by decide), fun _ _ _ => c_fill (by rw [ak_42]; decide) al_42 (fun _ => bs_42) (by decide), fun _ _ _ => c_fill (by rw [ak_43]; decide) al_43 (fun _ => bs_43) (by decide), fun _ _ _ => c_fill (by rw [ak_44]; decide) al_44 (fun _ => bs_44) (by decide), fun _ _ _ => c_fill (by rw [ak_45]; decide) al_45 (fun _ => bs_45) (by decide), fun _ _ _ => c_fill (by rw [ak_46]; decide) al_46 (fun _ => bs_46) (by decide), fun _ _ _ => c_fill (by rw [ak_47]; decide) al_47 (fun _ => bs_47) (by decide)⟩
theorem c_forgetAll_38 {l : Int32} : Rn (zG xl) 2 0 [.ref 38, .int l] [] I J Q = Q none (zfg 38 l I) J := by
  simp (disch := omega) only [x2_0, x2_1, x2_2_18, x2_2_38, x2_5, x2_6_18, x2_6_38, x2_9, x2_10, x2_13, x2_14_18, x2_14_38, x2_17, x2_18, x2_21, x2_22_18, x2_22_38, x2_25, x2_26, x2_29, x2_30_18, x2_30_38, x2_33, x2_34, x2_37, x2_38_18, x2_38_38, x2_41, x2_42, x2_45, x2_46_18, x2_46_38, x2_49, x2_50, x2_53, x2_54_18, x2_54_38, x2_57, x2_58, x2_61, x2_62_18, x2_62_38, x2_65, x2_66, x2_69, x2_70_18, x2_70_38, x2_73, x2_74, x2_77, ↓reduceIte, zkl_i, zkl_r, zkl_n, zkl_z, zkl_l, Option.toList_some, Option.toList_none, List.cons_append, List.nil_append, zcs_0, zcs_i, zcs_l, zcs_r, zle8, true_and, and_true, true_or, or_true, c_fill_38, zr_n]
  rfl
def sp_pc (P : Nat) (I : zI) (a : Int32) : Int32 := if I (P + 3) (tn a) = 0 then 2 else 1
/-- events of a kind and a reader from a minute to another -/
def sp_ev (P : Nat) (I : zI) (c r a b : Int32) (i : Nat) (s : Int32) : Int32 :=
  if I P 13 >>> (nI i &&& 31) &&& 1 = 0 then (if I (P + 7) i = c then (if I (P + 8) i = r then (if I (P + 9) i < a then s else if b < I (P + 9) i then s else s + 1) else s) else s) else s
def sp_en (P : Nat) (I : zI) (c r a b : Int32) : Int32 := fo (sp_ev P I c r a b) (tn (I P 9)) 0 0
theorem c_pace_8 {a : Int32} (h : ixN a 6) : Rn (zG xl) 21 0 [.ref 8, .int a] [] I J Q = Q (some (.int (sp_pc 8 I a))) I J := by
  simp only [x21_0, x21_1_8, x21_1_28, x21_4, x21_5, x21_6, x21_9, x21_10, x21_13, x21_14, bi_11, bs_11, ↓reduceIte, zkl_i, zkl_r, zkl_n, zkl_z, zkl_l, Option.toList_some, Option.toList_none, List.cons_append, List.nil_append, zcs_0, zcs_i, zcs_l, zcs_r, zle8, true_and, and_true, true_or, or_true, h]
  rw [sp_pc]
  by_cases h : I 11 (tn a) = 0 <;> simp only [h, if_true, if_false]
theorem c_eventsIn_8 {c r a b : Int32} (hn : ixN (I 8 9) 9) : Rn (zG xl) 20 0 [.ref 8, .int c, .int r, .int a, .int b, .null, .null, .null, .null] [] I J Q = Q (some (.int (sp_en 8 I c r a b))) I J := by
  obtain ⟨n, hn9, e⟩ := (ixN_iff (by decide)).mp hn
  rw [sp_en, e, tn, nI_clamp (by omega)]
  simp only [x20_0, x20_1, x20_3, x20_4, x20_8, x20_9_8, x20_9_28, x20_12, x20_15, x20_16_8, x20_16_28, x20_19, x20_21, x20_22, x20_23, x20_24, x20_27, x20_28, x20_31, x20_32, x20_34, x20_35_8, x20_35_28, x20_38, x20_40, x20_41, x20_42, x20_45, x20_46_8, x20_46_28, x20_49, x20_51, x20_52, x20_53, x20_56, x20_57, x20_60, x20_61, x20_63, x20_65, x20_68, x20_70, x20_73, x20_74_8, x20_74_28, x20_77, x20_79, x20_80, x20_81, x20_84, x20_85_8, x20_85_28, x20_88, x20_90, x20_91, x20_93, x20_96, x20_99, x20_102, x20_105, x20_107, ↓reduceIte, zkl_i, zkl_r, zkl_n, zkl_z, zkl_l, Option.toList_some, Option.toList_none, List.cons_append, List.nil_append, zcs_0, zcs_i, zcs_l, zcs_r, zle8, true_and, and_true, true_or, or_true]
  have key : ∀ (d k : Nat) (s : Int32) (v7 v8 : Value), k + d = n → Rn (zG xl) 20 6 [.ref 8, .int c, .int r, .int a, .int b, .int s, .int (nI k), v7, v8] [] I J Q = Q (some (.int (fo (sp_ev 8 I c r a b) d k s))) I J := by
    intro d
    induction d with
    | zero =>
      intro k s v7 v8 h
      have h : k = n := h
      subst h
      rw [h20_6]
      simp (disch := omega) only [x20_0, x20_1, x20_3, x20_4, x20_8, x20_9_8, x20_9_28, x20_12, x20_15, x20_16_8, x20_16_28, x20_19, x20_21, x20_22, x20_23, x20_24, x20_27, x20_28, x20_31, x20_32, x20_34, x20_35_8, x20_35_28, x20_38, x20_40, x20_41, x20_42, x20_45, x20_46_8, x20_46_28, x20_49, x20_51, x20_52, x20_53, x20_56, x20_57, x20_60, x20_61, x20_63, x20_65, x20_68, x20_70, x20_73, x20_74_8, x20_74_28, x20_77, x20_79, x20_80, x20_81, x20_84, x20_85_8, x20_85_28, x20_88, x20_90, x20_91, x20_93, x20_96, x20_99, x20_102, x20_105, x20_107, ↓reduceIte, zkl_i, zkl_r, zkl_n, zkl_z, zkl_l, Option.toList_some, Option.toList_none, List.cons_append, List.nil_append, zcs_0, zcs_i, zcs_l, zcs_r, zle8, true_and, and_true, true_or, or_true, e, nI_ltI, Nat.lt_irrefl, if_false, fo]
    | succ d ih =>
      intro k s v7 v8 h
      have hk : k < n := by omega
      have ih' := fun s v7 v8 => ih (k + 1) s v7 v8 (by omega)
      rw [h20_6, fo, sp_ev]
      simp (disch := omega) only [x20_8, x20_9_8, x20_9_28, x20_12, x20_15, x20_16_8, x20_16_28, x20_19, x20_21, x20_22, x20_23, x20_24, x20_27, x20_28, x20_31, bi_15, bs_15, bi_16, bs_16, bi_17, bs_17, ↓reduceIte, zkl_i, zkl_r, zkl_n, zkl_z, zkl_l, Option.toList_some, Option.toList_none, List.cons_append, List.nil_append, zcs_0, zcs_i, zcs_l, zcs_r, zle8, true_and, and_true, true_or, or_true, e, nI_ltI, hk, if_true, ixN_nI, nI_clamp, ite_Rn, ite_cons, ite_vi, ite_vl, ite_self, ite_zr, ite_zr1, ite_zr2, ite_upd, ite_upd1, ite_upd2]
      simp (disch := omega) only [x20_32, x20_34, x20_35_8, x20_35_28, x20_38, x20_40, x20_41, x20_42, x20_45, x20_46_8, x20_46_28, x20_49, x20_51, x20_52, x20_53, x20_56, x20_57, x20_60, bi_15, bs_15, bi_16, bs_16, bi_17, bs_17, ↓reduceIte, zkl_i, zkl_r, zkl_n, zkl_z, zkl_l, Option.toList_some, Option.toList_none, List.cons_append, List.nil_append, zcs_0, zcs_i, zcs_l, zcs_r, zle8, true_and, and_true, true_or, or_true, ixN_nI, nI_clamp, ite_Rn, ite_cons, ite_vi, ite_vl, ite_self, ite_zr, ite_zr1, ite_zr2, ite_upd, ite_upd1, ite_upd2]
      simp (disch := omega) only [x20_61, x20_63, x20_65, x20_68, x20_70, x20_73, x20_74_8, x20_74_28, x20_77, x20_79, x20_80, x20_81, x20_84, x20_85_8, x20_85_28, x20_88, x20_90, x20_91, x20_93, x20_96, x20_99, x20_102, x20_105, x20_107, bi_15, bs_15, bi_16, bs_16, bi_17, bs_17, ↓reduceIte, zkl_i, zkl_r, zkl_n, zkl_z, zkl_l, Option.toList_some, Option.toList_none, List.cons_append, List.nil_append, zcs_0, zcs_i, zcs_l, zcs_r, zle8, true_and, and_true, true_or, or_true, ixN_nI, nI_clamp, na_1, ih']
      by_cases h1 : I 8 13 >>> (nI k &&& 31) &&& 1 = 0
      all_goals by_cases h2 : I 15 k = c
      all_goals by_cases h3 : I 16 k = r
      all_goals by_cases h4 : I 17 k < a
      all_goals by_cases h5 : b < I 17 k
      all_goals simp [h1, h2, h3, h4, h5]
  exact key n 0 0 .null .null (Nat.zero_add n)
theorem c_pace_28 {a : Int32} (h : ixN a 6) : Rn (zG xl) 21 0 [.ref 28, .int a] [] I J Q = Q (some (.int (sp_pc 28 I a))) I J := by
  simp only [x21_0, x21_1_8, x21_1_28, x21_4, x21_5, x21_6, x21_9, x21_10, x21_13, x21_14, bi_31, bs_31, ↓reduceIte, zkl_i, zkl_r, zkl_n, zkl_z, zkl_l, Option.toList_some, Option.toList_none, List.cons_append, List.nil_append, zcs_0, zcs_i, zcs_l, zcs_r, zle8, true_and, and_true, true_or, or_true, h]
  rw [sp_pc]
  by_cases h : I 31 (tn a) = 0 <;> simp only [h, if_true, if_false]
theorem c_eventsIn_28 {c r a b : Int32} (hn : ixN (I 28 9) 9) : Rn (zG xl) 20 0 [.ref 28, .int c, .int r, .int a, .int b, .null, .null, .null, .null] [] I J Q = Q (some (.int (sp_en 28 I c r a b))) I J := by
  obtain ⟨n, hn9, e⟩ := (ixN_iff (by decide)).mp hn
  rw [sp_en, e, tn, nI_clamp (by omega)]
  simp only [x20_0, x20_1, x20_3, x20_4, x20_8, x20_9_8, x20_9_28, x20_12, x20_15, x20_16_8, x20_16_28, x20_19, x20_21, x20_22, x20_23, x20_24, x20_27, x20_28, x20_31, x20_32, x20_34, x20_35_8, x20_35_28, x20_38, x20_40, x20_41, x20_42, x20_45, x20_46_8, x20_46_28, x20_49, x20_51, x20_52, x20_53, x20_56, x20_57, x20_60, x20_61, x20_63, x20_65, x20_68, x20_70, x20_73, x20_74_8, x20_74_28, x20_77, x20_79, x20_80, x20_81, x20_84, x20_85_8, x20_85_28, x20_88, x20_90, x20_91, x20_93, x20_96, x20_99, x20_102, x20_105, x20_107, ↓reduceIte, zkl_i, zkl_r, zkl_n, zkl_z, zkl_l, Option.toList_some, Option.toList_none, List.cons_append, List.nil_append, zcs_0, zcs_i, zcs_l, zcs_r, zle8, true_and, and_true, true_or, or_true]
  have key : ∀ (d k : Nat) (s : Int32) (v7 v8 : Value), k + d = n → Rn (zG xl) 20 6 [.ref 28, .int c, .int r, .int a, .int b, .int s, .int (nI k), v7, v8] [] I J Q = Q (some (.int (fo (sp_ev 28 I c r a b) d k s))) I J := by
    intro d
    induction d with
    | zero =>
      intro k s v7 v8 h
      have h : k = n := h
      subst h
      rw [h20_6]
      simp (disch := omega) only [x20_0, x20_1, x20_3, x20_4, x20_8, x20_9_8, x20_9_28, x20_12, x20_15, x20_16_8, x20_16_28, x20_19, x20_21, x20_22, x20_23, x20_24, x20_27, x20_28, x20_31, x20_32, x20_34, x20_35_8, x20_35_28, x20_38, x20_40, x20_41, x20_42, x20_45, x20_46_8, x20_46_28, x20_49, x20_51, x20_52, x20_53, x20_56, x20_57, x20_60, x20_61, x20_63, x20_65, x20_68, x20_70, x20_73, x20_74_8, x20_74_28, x20_77, x20_79, x20_80, x20_81, x20_84, x20_85_8, x20_85_28, x20_88, x20_90, x20_91, x20_93, x20_96, x20_99, x20_102, x20_105, x20_107, ↓reduceIte, zkl_i, zkl_r, zkl_n, zkl_z, zkl_l, Option.toList_some, Option.toList_none, List.cons_append, List.nil_append, zcs_0, zcs_i, zcs_l, zcs_r, zle8, true_and, and_true, true_or, or_true, e, nI_ltI, Nat.lt_irrefl, if_false, fo]
    | succ d ih =>
      intro k s v7 v8 h
      have hk : k < n := by omega
      have ih' := fun s v7 v8 => ih (k + 1) s v7 v8 (by omega)
      rw [h20_6, fo, sp_ev]
      simp (disch := omega) only [x20_8, x20_9_8, x20_9_28, x20_12, x20_15, x20_16_8, x20_16_28, x20_19, x20_21, x20_22, x20_23, x20_24, x20_27, x20_28, x20_31, bi_35, bs_35, bi_36, bs_36, bi_37, bs_37, ↓reduceIte, zkl_i, zkl_r, zkl_n, zkl_z, zkl_l, Option.toList_some, Option.toList_none, List.cons_append, List.nil_append, zcs_0, zcs_i, zcs_l, zcs_r, zle8, true_and, and_true, true_or, or_true, e, nI_ltI, hk, if_true, ixN_nI, nI_clamp, ite_Rn, ite_cons, ite_vi, ite_vl, ite_self, ite_zr, ite_zr1, ite_zr2, ite_upd, ite_upd1, ite_upd2]
      simp (disch := omega) only [x20_32, x20_34, x20_35_8, x20_35_28, x20_38, x20_40, x20_41, x20_42, x20_45, x20_46_8, x20_46_28, x20_49, x20_51, x20_52, x20_53, x20_56, x20_57, x20_60, bi_35, bs_35, bi_36, bs_36, bi_37, bs_37, ↓reduceIte, zkl_i, zkl_r, zkl_n, zkl_z, zkl_l, Option.toList_some, Option.toList_none, List.cons_append, List.nil_append, zcs_0, zcs_i, zcs_l, zcs_r, zle8, true_and, and_true, true_or, or_true, ixN_nI, nI_clamp, ite_Rn, ite_cons, ite_vi, ite_vl, ite_self, ite_zr, ite_zr1, ite_zr2, ite_upd, ite_upd1, ite_upd2]
      simp (disch := omega) only [x20_61, x20_63, x20_65, x20_68, x20_70, x20_73, x20_74_8, x20_74_28, x20_77, x20_79, x20_80, x20_81, x20_84, x20_85_8, x20_85_28, x20_88, x20_90, x20_91, x20_93, x20_96, x20_99, x20_102, x20_105, x20_107, bi_35, bs_35, bi_36, bs_36, bi_37, bs_37, ↓reduceIte, zkl_i, zkl_r, zkl_n, zkl_z, zkl_l, Option.toList_some, Option.toList_none, List.cons_append, List.nil_append, zcs_0, zcs_i, zcs_l, zcs_r, zle8, true_and, and_true, true_or, or_true, ixN_nI, nI_clamp, na_1, ih']
      by_cases h1 : I 28 13 >>> (nI k &&& 31) &&& 1 = 0
      all_goals by_cases h2 : I 35 k = c
      all_goals by_cases h3 : I 36 k = r
      all_goals by_cases h4 : I 37 k < a
      all_goals by_cases h5 : b < I 37 k
      all_goals simp [h1, h2, h3, h4, h5]
  exact key n 0 0 .null .null (Nat.zero_add n)
/-- whether a shift finds: 1 or 0 -/
def sp_fv (N P : Nat) (I : zI) (r k : Int32) : Int32 := if I (P + 4) (tn r) + (if I (P + 3) (tn r) = 0 then 2 else 0) - I (N + 5) (tn r) < I 1000 (tn (I (P + 1) (tn k))) then 0 else 1
def sp_fd (N P : Nat) (I : zI) (r k : Int32) : Int32 := if I (P + 3) (tn r) = 2 then (if I (P + 2) (tn k) < 3 then 0 else sp_fv N P I r k) else sp_fv N P I r k
def sp_ct (N : Nat) (I : zI) (l r e : Int32) : zI := if I (N + 1) (tn l) = -1 ∨ e < I (N + 2) (tn l) ∨ (e = I (N + 2) (tn l) ∧ r < I (N + 1) (tn l)) then zr (zr I (N + 1) (upd (I (N + 1)) (tn l) r)) (N + 2) (upd (I (N + 2)) (tn l) e) else I
theorem z01 {c : Prop} [Decidable c] : (if c then (0 : Int32) else 1) = 0 ∨ (if c then (0 : Int32) else 1) = 1 := by by_cases h : c <;> simp [h]
theorem sp_fd01 (N P : Nat) (I : zI) (r k : Int32) : sp_fd N P I r k = 0 ∨ sp_fd N P I r k = 1 := by
  have h : sp_fv N P I r k = 0 ∨ sp_fv N P I r k = 1 := z01
  unfold sp_fd
  generalize sp_fv N P I r k = x at h
  split <;> (try split) <;> simp [h]
theorem c_isFound_18 {r k : Int32} (hr : ixN r 6) (hk : ixN k 10) (hs : ixN (I 9 (tn k)) 3) : Rn (zG xl) 4 0 [.ref 18, .ref 8, .int r, .int k, .null, .null] [] I J Q = Q (some (.int (sp_fd 18 8 I r k))) I J := by
  simp (disch := first | assumption | omega | (simp (disch := omega) only [zr_n, zr_s]; assumption)) only [x4_0, x4_1_8, x4_1_28, x4_4, x4_5, x4_6, x4_8, x4_10, x4_11, x4_14, x4_15_8, x4_15_28, x4_18, x4_19, x4_20, x4_21, x4_24, x4_25, x4_26, x4_27_8, x4_27_28, x4_30, x4_31, x4_32, x4_34, x4_37, x4_38, x4_41, bi_11, bs_11, bi_10, bs_10, bi_12, bs_12, ↓reduceIte, zkl_i, zkl_r, zkl_n, zkl_z, zkl_l, Option.toList_some, Option.toList_none, List.cons_append, List.nil_append, zcs_0, zcs_i, zcs_l, zcs_r, zle8, true_and, and_true, true_or, or_true, hr, hk, b1_0, ite_Rn, ite_cons, ite_vi, ite_vl, ite_self, ite_zr, ite_zr1, ite_zr2, ite_upd, ite_upd1, ite_upd2]
  simp (disch := first | assumption | omega | (simp (disch := omega) only [zr_n, zr_s]; assumption)) only [x4_42, x4_43, x4_45, x4_47, x4_48_18, x4_48_38, x4_51, x4_52, x4_53, x4_54, x4_57, x4_58_8, x4_58_28, x4_61, x4_62, x4_63, x4_64, x4_67, x4_68, x4_71, x4_72, bi_9, bs_9, bi_23, bs_23, bi_1000, ↓reduceIte, zkl_i, zkl_r, zkl_n, zkl_z, zkl_l, Option.toList_some, Option.toList_none, List.cons_append, List.nil_append, zcs_0, zcs_i, zcs_l, zcs_r, zle8, true_and, and_true, true_or, or_true, hr, hk, hs, b1_0, b1_1]
  simp only [ite_QQ Q, ite_sm, ite_vi, ite_vl, ite_self]
  rfl
theorem c_correct_18 {l r e : Int32} (hl : ixN l 10) : Rn (zG xl) 5 0 [.ref 18, .int l, .int r, .int e, .null] [] I J Q = Q none (sp_ct 18 I l r e) J := by
  simp (disch := first | assumption | omega | (simp (disch := omega) only [zr_n, zr_s]; assumption)) only [x5_0, x5_1_18, x5_1_38, x5_4, x5_5, x5_6, x5_7, x5_10, x5_11, x5_12_18, x5_12_38, x5_15, x5_16, x5_17, x5_20, x5_21, x5_24, bi_19, bs_19, bi_20, bs_20, ↓reduceIte, zkl_i, zkl_r, zkl_n, zkl_z, zkl_l, Option.toList_some, Option.toList_none, List.cons_append, List.nil_append, zcs_0, zcs_i, zcs_l, zcs_r, zle8, true_and, and_true, true_or, or_true, hl, ite_Rn, ite_cons, ite_vi, ite_vl, ite_self, ite_zr, ite_zr1, ite_zr2, ite_upd, ite_upd1, ite_upd2]
  simp (disch := first | assumption | omega | (simp (disch := omega) only [zr_n, zr_s]; assumption)) only [x5_25, x5_27, x5_29, x5_32, x5_33, x5_34_18, x5_34_38, x5_37, x5_38, x5_39, x5_42, x5_43, x5_44_18, x5_44_38, x5_47, x5_48, x5_49, x5_52, x5_53_18, x5_53_38, x5_56, x5_57, x5_58, x5_59, x5_60_18, x5_60_38, x5_63, x5_64, x5_65, x5_66, bi_19, bs_19, bi_20, bs_20, ↓reduceIte, zkl_i, zkl_r, zkl_n, zkl_z, zkl_l, Option.toList_some, Option.toList_none, List.cons_append, List.nil_append, zcs_0, zcs_i, zcs_l, zcs_r, zle8, true_and, and_true, true_or, or_true, hl, zr_n]
  simp only [sp_ct, Nat.reduceAdd]
  by_cases h1 : I 19 (tn l) = -1
  all_goals by_cases h2 : e < I 20 (tn l)
  all_goals by_cases h3 : e = I 20 (tn l)
  all_goals by_cases h4 : r < I 19 (tn l)
  all_goals simp [h1, h2, h3, h4]
theorem c_isFound_38 {r k : Int32} (hr : ixN r 6) (hk : ixN k 10) (hs : ixN (I 29 (tn k)) 3) : Rn (zG xl) 4 0 [.ref 38, .ref 28, .int r, .int k, .null, .null] [] I J Q = Q (some (.int (sp_fd 38 28 I r k))) I J := by
  simp (disch := first | assumption | omega | (simp (disch := omega) only [zr_n, zr_s]; assumption)) only [x4_0, x4_1_8, x4_1_28, x4_4, x4_5, x4_6, x4_8, x4_10, x4_11, x4_14, x4_15_8, x4_15_28, x4_18, x4_19, x4_20, x4_21, x4_24, x4_25, x4_26, x4_27_8, x4_27_28, x4_30, x4_31, x4_32, x4_34, x4_37, x4_38, x4_41, bi_31, bs_31, bi_30, bs_30, bi_32, bs_32, ↓reduceIte, zkl_i, zkl_r, zkl_n, zkl_z, zkl_l, Option.toList_some, Option.toList_none, List.cons_append, List.nil_append, zcs_0, zcs_i, zcs_l, zcs_r, zle8, true_and, and_true, true_or, or_true, hr, hk, b1_0, ite_Rn, ite_cons, ite_vi, ite_vl, ite_self, ite_zr, ite_zr1, ite_zr2, ite_upd, ite_upd1, ite_upd2]
  simp (disch := first | assumption | omega | (simp (disch := omega) only [zr_n, zr_s]; assumption)) only [x4_42, x4_43, x4_45, x4_47, x4_48_18, x4_48_38, x4_51, x4_52, x4_53, x4_54, x4_57, x4_58_8, x4_58_28, x4_61, x4_62, x4_63, x4_64, x4_67, x4_68, x4_71, x4_72, bi_29, bs_29, bi_43, bs_43, bi_1000, ↓reduceIte, zkl_i, zkl_r, zkl_n, zkl_z, zkl_l, Option.toList_some, Option.toList_none, List.cons_append, List.nil_append, zcs_0, zcs_i, zcs_l, zcs_r, zle8, true_and, and_true, true_or, or_true, hr, hk, hs, b1_0, b1_1]
  simp only [ite_QQ Q, ite_sm, ite_vi, ite_vl, ite_self]
  rfl
theorem c_correct_38 {l r e : Int32} (hl : ixN l 10) : Rn (zG xl) 5 0 [.ref 38, .int l, .int r, .int e, .null] [] I J Q = Q none (sp_ct 38 I l r e) J := by
  simp (disch := first | assumption | omega | (simp (disch := omega) only [zr_n, zr_s]; assumption)) only [x5_0, x5_1_18, x5_1_38, x5_4, x5_5, x5_6, x5_7, x5_10, x5_11, x5_12_18, x5_12_38, x5_15, x5_16, x5_17, x5_20, x5_21, x5_24, bi_39, bs_39, bi_40, bs_40, ↓reduceIte, zkl_i, zkl_r, zkl_n, zkl_z, zkl_l, Option.toList_some, Option.toList_none, List.cons_append, List.nil_append, zcs_0, zcs_i, zcs_l, zcs_r, zle8, true_and, and_true, true_or, or_true, hl, ite_Rn, ite_cons, ite_vi, ite_vl, ite_self, ite_zr, ite_zr1, ite_zr2, ite_upd, ite_upd1, ite_upd2]
  simp (disch := first | assumption | omega | (simp (disch := omega) only [zr_n, zr_s]; assumption)) only [x5_25, x5_27, x5_29, x5_32, x5_33, x5_34_18, x5_34_38, x5_37, x5_38, x5_39, x5_42, x5_43, x5_44_18, x5_44_38, x5_47, x5_48, x5_49, x5_52, x5_53_18, x5_53_38, x5_56, x5_57, x5_58, x5_59, x5_60_18, x5_60_38, x5_63, x5_64, x5_65, x5_66, bi_39, bs_39, bi_40, bs_40, ↓reduceIte, zkl_i, zkl_r, zkl_n, zkl_z, zkl_l, Option.toList_some, Option.toList_none, List.cons_append, List.nil_append, zcs_0, zcs_i, zcs_l, zcs_r, zle8, true_and, and_true, true_or, or_true, hl, zr_n]
  simp only [sp_ct, Nat.reduceAdd]
  by_cases h1 : I 39 (tn l) = -1
  all_goals by_cases h2 : e < I 40 (tn l)
  all_goals by_cases h3 : e = I 40 (tn l)
  all_goals by_cases h4 : r < I 39 (tn l)
  all_goals simp [h1, h2, h3, h4]
/-- a shift -/
def sp_b (N P : Nat) (I : zI) (r : Int32) : Int32 := I (N + 4) (tn r) * sp_pc P I r
def sp_e (N P : Nat) (I : zI) (r : Int32) : Int32 := sp_b N P I r + sp_pc P I r - 1
def sp_td (N P : Nat) (I : zI) (r : Int32) : Int32 := if 0 < I (N + 5) (tn r) - 3 * sp_en P I 1 r (if sp_b N P I r = 0 then 0 else sp_b N P I r - sp_pc P I r + 1) (sp_b N P I r) then I (N + 5) (tn r) - 3 * sp_en P I 1 r (if sp_b N P I r = 0 then 0 else sp_b N P I r - sp_pc P I r + 1) (sp_b N P I r) else 0
def sp_1 (N P i : Nat) (I : zI) (r k : Int32) : zI := zr (zr (zr I (N + 5) (upd (I (N + 5)) (tn r) (sp_td N P I r))) (N + 8) (upd (I (N + 8)) i (sp_b N P I r))) (N + 3) (upd (I (N + 3)) (tn k) (I (N + 3) (tn k) + 1))
def sp_2 (N P i : Nat) (I : zI) (r k b e : Int32) : zI := if sp_fd N P I r k = 0 then I else if sp_en P I 0 r b e = 0 then sp_ct N (zr (zr I (N + 9) (upd (I (N + 9)) i 1)) (N + 7) (upd (I (N + 7)) (tn r) (I (N + 7) (tn r) + 1))) k r e else I
def sp_3 (N P : Nat) (I : zI) (r p e : Int32) : zI := zr (zr (zr I (N + 5) (upd (I (N + 5)) (tn r) (I (N + 5) (tn r) + p))) (N + 4) (upd (I (N + 4)) (tn r) (I (N + 4) (tn r) + 1))) (N + 6) (upd (I (N + 6)) (tn r) e)
def zds (N P i : Nat) (I : zI) : zI := if sp_e N P I (I (P + 5) i) < I P 14 then sp_3 N P (sp_2 N P i (sp_1 N P i I (I (P + 5) i) (I (P + 6) i)) (I (P + 5) i) (I (P + 6) i) (sp_b N P I (I (P + 5) i)) (sp_e N P I (I (P + 5) i))) (I (P + 5) i) (sp_pc P I (I (P + 5) i)) (sp_e N P I (I (P + 5) i)) else I
theorem sp_en_f {P : Nat} {I I' : zI} {c r a b : Int32} (h0 : I' P = I P) (h7 : I' (P + 7) = I (P + 7)) (h8 : I' (P + 8) = I (P + 8)) (h9 : I' (P + 9) = I (P + 9)) : sp_en P I' c r a b = sp_en P I c r a b := by
  unfold sp_en sp_ev
  rw [h0, h7, h8, h9]
theorem c_doShift_18 {i : Nat} (hi : i < 17) (hr : ixN (I 13 i) 6) (hk : ixN (I 14 i) 10) (hs : ixN (I 9 (tn (I 14 i))) 3) (he : ixN (I 8 9) 9) : Rn (zG xl) 3 0 [.ref 18, .ref 8, .int (nI i), .null, .null, .null, .null, .null, .null, .null] [] I J Q = Q none (zds 18 8 i I) J := by
  generalize er : I 13 i = r at hr
  generalize ek : I 14 i = k at hk hs
  simp (disch := first | assumption | omega | (simp (disch := omega) only [zr_n, zr_s]; assumption)) only [x3_0, x3_1_8, x3_1_28, x3_4, x3_5, x3_6, x3_7, x3_8_8, x3_8_28, x3_11, x3_12, x3_13, x3_15, x3_16, x3_17, x3_20, x3_22, x3_23_18, x3_23_38, x3_26, x3_27, x3_28, x3_30, x3_31, x3_33, x3_35, x3_37, x3_38, x3_39, x3_40, x3_42, x3_44, x3_45_8, x3_45_28, x3_48, x3_51, x3_52, x3_54, x3_57, x3_58, x3_61, x3_63, x3_65, x3_66, x3_67, gc_18, gc_8, bi_13, bs_13, bi_14, bs_14, bi_22, bs_22, ↓reduceIte, zkl_i, zkl_r, zkl_n, zkl_z, zkl_l, Option.toList_some, Option.toList_none, List.cons_append, List.nil_append, zcs_0, zcs_i, zcs_l, zcs_r, zle8, true_and, and_true, true_or, or_true, c_pace_8, ixN_nI, nI_clamp, er, ek, hr, hk, ite_Rn, ite_cons, ite_vi, ite_vl, ite_self, ite_zr, ite_zr1, ite_zr2, ite_upd, ite_upd1, ite_upd2]
  simp (disch := first | assumption | omega | (simp (disch := omega) only [zr_n, zr_s]; assumption)) only [x3_68, x3_70, x3_71, x3_72, x3_73, x3_75, x3_77, x3_80, x3_82, x3_83_18, x3_83_38, x3_86, x3_87, x3_88, x3_89_18, x3_89_38, x3_92, x3_93, x3_94, x3_95, x3_97, x3_98, x3_99, gc_18, gc_8, bi_23, bs_23, ↓reduceIte, zkl_i, zkl_r, zkl_n, zkl_z, zkl_l, Option.toList_some, Option.toList_none, List.cons_append, List.nil_append, zcs_0, zcs_i, zcs_l, zcs_r, zle8, true_and, and_true, true_or, or_true, c_eventsIn_8, hr, hk]
  simp (disch := first | assumption | omega | (simp (disch := omega) only [zr_n, zr_s]; assumption)) only [x3_102, x3_103, x3_104_18, x3_104_38, x3_107, x3_108, x3_110, x3_111, x3_112_18, x3_112_38, x3_115, x3_117, x3_118, x3_119, x3_120, x3_121, x3_122, x3_123, x3_124, x3_125, x3_127, gc_18, gc_8, bi_23, bs_23, bi_26, bs_26, bi_21, bs_21, ↓reduceIte, zkl_i, zkl_r, zkl_n, zkl_z, zkl_l, Option.toList_some, Option.toList_none, List.cons_append, List.nil_append, zcs_0, zcs_i, zcs_l, zcs_r, zle8, true_and, and_true, true_or, or_true, ixN_nI, nI_clamp, hr, hk, zr_n, zr_s, c_isFound_18]
  simp (disch := first | assumption | omega | (simp (disch := omega) only [zr_n, zr_s]; assumption)) only [x3_130, x3_133, x3_134, x3_135, x3_136, x3_138, x3_140, x3_143, x3_146, x3_147_18, x3_147_38, x3_150, x3_151, x3_152, x3_153, x3_154_18, x3_154_38, x3_157, x3_158, x3_159, x3_160, x3_161, x3_162, x3_163, x3_164, x3_166, x3_167, x3_169, gc_18, gc_8, bi_27, bs_27, bi_25, bs_25, ↓reduceIte, zkl_i, zkl_r, zkl_n, zkl_z, zkl_l, Option.toList_some, Option.toList_none, List.cons_append, List.nil_append, zcs_0, zcs_i, zcs_l, zcs_r, zle8, true_and, and_true, true_or, or_true, ixN_nI, nI_clamp, hr, hk, zr_n, zr_s, c_eventsIn_8, c_correct_18, ite_Rn, ite_self]
  simp (disch := first | assumption | omega | (simp (disch := omega) only [zr_n, zr_s]; assumption)) only [x3_172, x3_173_18, x3_173_38, x3_176, x3_177, x3_178, x3_179, x3_181, x3_182, x3_183, x3_184_18, x3_184_38, x3_187, x3_188, x3_189, x3_190, x3_191, x3_192, x3_193, x3_194_18, x3_194_38, x3_197, x3_198, x3_200, x3_201, gc_18, gc_8, bi_23, bs_23, bi_22, bs_22, bi_24, bs_24, ↓reduceIte, zkl_i, zkl_r, zkl_n, zkl_z, zkl_l, Option.toList_some, Option.toList_none, List.cons_append, List.nil_append, zcs_0, zcs_i, zcs_l, zcs_r, zle8, true_and, and_true, true_or, or_true, ixN_nI, nI_clamp, hr, hk, zr_n, zr_s]
  simp only [zds, er, ek]
  by_cases hl : I 22 (tn r) * sp_pc 8 I r + sp_pc 8 I r - 1 < I 8 14
  · rw [if_pos hl, if_pos (show sp_e 18 8 I r < I 8 14 from hl)]
    rfl
  · rw [if_neg hl, if_neg (show ¬ sp_e 18 8 I r < I 8 14 from hl)]
theorem c_doShift_38 {i : Nat} (hi : i < 17) (hr : ixN (I 33 i) 6) (hk : ixN (I 34 i) 10) (hs : ixN (I 29 (tn (I 34 i))) 3) (he : ixN (I 28 9) 9) : Rn (zG xl) 3 0 [.ref 38, .ref 28, .int (nI i), .null, .null, .null, .null, .null, .null, .null] [] I J Q = Q none (zds 38 28 i I) J := by
  generalize er : I 33 i = r at hr
  generalize ek : I 34 i = k at hk hs
  simp (disch := first | assumption | omega | (simp (disch := omega) only [zr_n, zr_s]; assumption)) only [x3_0, x3_1_8, x3_1_28, x3_4, x3_5, x3_6, x3_7, x3_8_8, x3_8_28, x3_11, x3_12, x3_13, x3_15, x3_16, x3_17, x3_20, x3_22, x3_23_18, x3_23_38, x3_26, x3_27, x3_28, x3_30, x3_31, x3_33, x3_35, x3_37, x3_38, x3_39, x3_40, x3_42, x3_44, x3_45_8, x3_45_28, x3_48, x3_51, x3_52, x3_54, x3_57, x3_58, x3_61, x3_63, x3_65, x3_66, x3_67, gc_38, gc_28, bi_33, bs_33, bi_34, bs_34, bi_42, bs_42, ↓reduceIte, zkl_i, zkl_r, zkl_n, zkl_z, zkl_l, Option.toList_some, Option.toList_none, List.cons_append, List.nil_append, zcs_0, zcs_i, zcs_l, zcs_r, zle8, true_and, and_true, true_or, or_true, c_pace_28, ixN_nI, nI_clamp, er, ek, hr, hk, ite_Rn, ite_cons, ite_vi, ite_vl, ite_self, ite_zr, ite_zr1, ite_zr2, ite_upd, ite_upd1, ite_upd2]
  simp (disch := first | assumption | omega | (simp (disch := omega) only [zr_n, zr_s]; assumption)) only [x3_68, x3_70, x3_71, x3_72, x3_73, x3_75, x3_77, x3_80, x3_82, x3_83_18, x3_83_38, x3_86, x3_87, x3_88, x3_89_18, x3_89_38, x3_92, x3_93, x3_94, x3_95, x3_97, x3_98, x3_99, gc_38, gc_28, bi_43, bs_43, ↓reduceIte, zkl_i, zkl_r, zkl_n, zkl_z, zkl_l, Option.toList_some, Option.toList_none, List.cons_append, List.nil_append, zcs_0, zcs_i, zcs_l, zcs_r, zle8, true_and, and_true, true_or, or_true, c_eventsIn_28, hr, hk]
  simp (disch := first | assumption | omega | (simp (disch := omega) only [zr_n, zr_s]; assumption)) only [x3_102, x3_103, x3_104_18, x3_104_38, x3_107, x3_108, x3_110, x3_111, x3_112_18, x3_112_38, x3_115, x3_117, x3_118, x3_119, x3_120, x3_121, x3_122, x3_123, x3_124, x3_125, x3_127, gc_38, gc_28, bi_43, bs_43, bi_46, bs_46, bi_41, bs_41, ↓reduceIte, zkl_i, zkl_r, zkl_n, zkl_z, zkl_l, Option.toList_some, Option.toList_none, List.cons_append, List.nil_append, zcs_0, zcs_i, zcs_l, zcs_r, zle8, true_and, and_true, true_or, or_true, ixN_nI, nI_clamp, hr, hk, zr_n, zr_s, c_isFound_38]
  simp (disch := first | assumption | omega | (simp (disch := omega) only [zr_n, zr_s]; assumption)) only [x3_130, x3_133, x3_134, x3_135, x3_136, x3_138, x3_140, x3_143, x3_146, x3_147_18, x3_147_38, x3_150, x3_151, x3_152, x3_153, x3_154_18, x3_154_38, x3_157, x3_158, x3_159, x3_160, x3_161, x3_162, x3_163, x3_164, x3_166, x3_167, x3_169, gc_38, gc_28, bi_47, bs_47, bi_45, bs_45, ↓reduceIte, zkl_i, zkl_r, zkl_n, zkl_z, zkl_l, Option.toList_some, Option.toList_none, List.cons_append, List.nil_append, zcs_0, zcs_i, zcs_l, zcs_r, zle8, true_and, and_true, true_or, or_true, ixN_nI, nI_clamp, hr, hk, zr_n, zr_s, c_eventsIn_28, c_correct_38, ite_Rn, ite_self]
  simp (disch := first | assumption | omega | (simp (disch := omega) only [zr_n, zr_s]; assumption)) only [x3_172, x3_173_18, x3_173_38, x3_176, x3_177, x3_178, x3_179, x3_181, x3_182, x3_183, x3_184_18, x3_184_38, x3_187, x3_188, x3_189, x3_190, x3_191, x3_192, x3_193, x3_194_18, x3_194_38, x3_197, x3_198, x3_200, x3_201, gc_38, gc_28, bi_43, bs_43, bi_42, bs_42, bi_44, bs_44, ↓reduceIte, zkl_i, zkl_r, zkl_n, zkl_z, zkl_l, Option.toList_some, Option.toList_none, List.cons_append, List.nil_append, zcs_0, zcs_i, zcs_l, zcs_r, zle8, true_and, and_true, true_or, or_true, ixN_nI, nI_clamp, hr, hk, zr_n, zr_s]
  simp only [zds, er, ek]
  by_cases hl : I 42 (tn r) * sp_pc 28 I r + sp_pc 28 I r - 1 < I 28 14
  · rw [if_pos hl, if_pos (show sp_e 38 28 I r < I 28 14 from hl)]
    rfl
  · rw [if_neg hl, if_neg (show ¬ sp_e 38 28 I r < I 28 14 from hl)]
end
